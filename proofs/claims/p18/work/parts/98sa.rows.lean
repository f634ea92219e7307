theorem vc_X11_cut_v_2 {f_q p1 : Int} (h0 : p1 < 0) (h1 : 0 ≤ f_q ∧ f_q ≤ 1000) (h2 : (-2147483648) ≤ p1 ∧ p1 ≤ (-1)) : p1 < 0 ∨ f_q < p1 → (-1 : Int) = -1 ∧ f_q = f_q := by omega
theorem vc_X11_cut_v_3 {f_q p1 : Int} (h0 : p1 < 0) (h1 : 0 ≤ f_q ∧ f_q ≤ 1000) (h2 : (-2147483648) ≤ p1 ∧ p1 ≤ (-1)) : 0 ≤ p1 → p1 ≤ f_q → (-1 : Int) = f_q ∧ f_q = p1 := by omega
theorem vc_X11_cut_v_5 {f_q p1 : Int} (h0 : p1 ≤ f_q) (h1 : 0 ≤ p1) (h2 : 0 ≤ f_q ∧ f_q ≤ 1000) (h3 : 0 ≤ p1 ∧ p1 ≤ 2147483647) : 0 ≤ p1 ∧ p1 ≤ 1000 := by omega
theorem vc_X11_cut_v_6 {f_q p1 : Int} (h0 : 0 ≤ p1) (h1 : p1 ≤ f_q) (h2 : 0 ≤ f_q ∧ f_q ≤ 1000) (h3 : 0 ≤ p1 ∧ p1 ≤ 1000) : p1 < 0 ∨ f_q < p1 → f_q = -1 ∧ p1 = f_q := by omega
theorem vc_X11_cut_v_7 {f_q p1 : Int} (h0 : 0 ≤ p1) (h1 : p1 ≤ f_q) (h2 : 0 ≤ f_q ∧ f_q ≤ 1000) (h3 : 0 ≤ p1 ∧ p1 ≤ 1000) : 0 ≤ p1 → p1 ≤ f_q → f_q = f_q ∧ p1 = p1 := by omega
theorem vc_X11_cut_v_8 {f_q p1 : Int} (h0 : f_q < p1) (h1 : 0 ≤ p1) (h2 : 0 ≤ f_q ∧ f_q ≤ 1000) (h3 : 0 ≤ p1 ∧ p1 ≤ 2147483647) : 1 ≤ p1 ∧ p1 ≤ 2147483647 := by omega
theorem vc_X11_cut_v_9 {f_q p1 : Int} (h0 : 0 ≤ p1) (h1 : f_q < p1) (h2 : 0 ≤ f_q ∧ f_q ≤ 1000) (h3 : 1 ≤ p1 ∧ p1 ≤ 2147483647) : p1 < 0 ∨ f_q < p1 → (-1 : Int) = -1 ∧ f_q = f_q := by omega
theorem vc_X11_cut_v_10 {f_q p1 : Int} (h0 : 0 ≤ p1) (h1 : f_q < p1) (h2 : 0 ≤ f_q ∧ f_q ≤ 1000) (h3 : 1 ≤ p1 ∧ p1 ≤ 2147483647) : 0 ≤ p1 → p1 ≤ f_q → (-1 : Int) = f_q ∧ f_q = p1 := by omega
set_option maxRecDepth 4000 in
set_option maxHeartbeats 4000000 in
theorem c_X11_cut_v {l : Launch} {D : va_G} {c : Nat → ClassId} {H0 : Heap} {sa : Nat × Nat × (Nat → Int32)} {w : mW} {μ : mM} (hw : mWF w) (hT : mT w μ) {p1 : Int} (hp1 : (-2147483648) ≤ p1 ∧ p1 ≤ 2147483647) {f_q : Int} (q_f_q : μ 0 10 = f_q) : sC (gG l D c H0 sa) mX11_cut 1 0 0 [.ref 0, iv p1] (mk w μ) (qI w [10] μ (fun z μ1 => ∃ o_q : Int, μ1 0 10 = o_q ∧ ((-2147483648) ≤ z ∧ z ≤ 2147483647) ∧ (p1 < 0 ∨ f_q < p1 → z = -1 ∧ o_q = f_q) ∧ (0 ≤ p1 → p1 ≤ f_q → z = f_q ∧ o_q = p1) ∧ True)) := by
  refine sC.of rfl (by decide) (le_t rfl) ?_
  have ht_f_q : (0 ≤ f_q ∧ f_q ≤ 1000) := by rw [← q_f_q]; exact hT 0 0 (A_0 hw) 10
  refine mr_lvE (lv' := [(0, .ref 0), (1, iv p1)]) rfl ?_
  refine mr_iload_n (pc := 0) (z := p1) dX11_cut_0 rfl rfl ?_
  refine mr_if_lt (pc := 1) (tgt := 12) dX11_cut_1 (by decide) hp1 (fun h22 => ?_) (fun h22 => ?_)
  · have h23 : (-2147483648) ≤ p1 ∧ p1 ≤ (-1) := (vc_X12_ring_60 h22 hp1)
    refine mr_iconst (pc := 12) (z := (-1)) dX11_cut_12 ?_
    exact mr_iret dX11_cut_13 rfl (le_t rfl) (le_t rfl) hT mF.refl ⟨f_q, q_f_q, (rW (c := (-2147483648)) (d := 2147483647) (rR (x := (-1))) rfl), (vc_X11_cut_v_2 h22 ht_f_q h23), (vc_X11_cut_v_3 h22 ht_f_q h23), trivial⟩
  have h24 : 0 ≤ p1 ∧ p1 ≤ 2147483647 := (vc_X12_ring_1 h22 hp1)
  refine mr_iload_n (pc := 4) (z := p1) dX11_cut_4 rfl rfl ?_
  refine sv_aload_n (pc := 5) dX11_cut_5 rfl rfl ?_
  refine gk_X11_10 (pc := 6) dX11_cut_6 wF_X11_76 (A_0 hw) q_f_q ?_
  refine mr_icmp_le (pc := 9) (tgt := 14) dX11_cut_9 (by decide) (r32 h24 rfl) (r32 ht_f_q rfl) (fun h25 => ?_) (fun h25 => ?_)
  · have h26 : 0 ≤ p1 ∧ p1 ≤ 1000 := (vc_X11_cut_v_5 h25 h22 ht_f_q h24)
    refine sv_aload_n (pc := 14) dX11_cut_14 rfl rfl ?_
    refine gk_X11_10 (pc := 15) dX11_cut_15 wF_X11_76 (A_0 hw) q_f_q ?_
    refine mr_istore_n (pc := 18) (lv' := [(2, iv f_q), (0, .ref 0), (1, iv p1)]) dX11_cut_18 rfl (by decide) rfl ?_
    refine sv_aload_n (pc := 19) dX11_cut_19 rfl rfl ?_
    refine mr_iload_n (pc := 20) (z := p1) dX11_cut_20 rfl rfl ?_
    refine pf_X11_10 (pc := 21) dX11_cut_21 wF_X11_76 (A_0 hw) hT h26 fun μ27 u28 T29 => ?_
    refine mr_iload_n (pc := 24) (z := f_q) dX11_cut_24 rfl rfl ?_
    exact mr_iret dX11_cut_25 rfl (le_t rfl) (le_t rfl) T29 (mF.up mF.refl (A_0 hw) u28 rfl) ⟨p1, u28.1, (rW (c := (-2147483648)) (d := 2147483647) ht_f_q rfl), (vc_X11_cut_v_6 h22 h25 ht_f_q h26), (vc_X11_cut_v_7 h22 h25 ht_f_q h26), trivial⟩
  have h30 : 1 ≤ p1 ∧ p1 ≤ 2147483647 := (vc_X11_cut_v_8 h25 h22 ht_f_q h24)
  refine mr_iconst (pc := 12) (z := (-1)) dX11_cut_12 ?_
  exact mr_iret dX11_cut_13 rfl (le_t rfl) (le_t rfl) hT mF.refl ⟨f_q, q_f_q, (rW (c := (-2147483648)) (d := 2147483647) (rR (x := (-1))) rfl), (vc_X11_cut_v_9 h22 h25 ht_f_q h30), (vc_X11_cut_v_10 h22 h25 ht_f_q h30), trivial⟩
set_option maxRecDepth 4000 in
set_option maxHeartbeats 4000000 in
theorem c_X12_cut_v {l : Launch} {D : va_G} {c : Nat → ClassId} {H0 : Heap} {sa : Nat × Nat × (Nat → Int32)} {w : mW} {μ : mM} (hw : mWF w) (hT : mT w μ) {p1 : Int} (hp1 : (-2147483648) ≤ p1 ∧ p1 ≤ 2147483647) {f_q : Int} (q_f_q : μ 106 1 = f_q) : sC (gG l D c H0 sa) mX12_cut 1 0 0 [.ref 106, iv p1] (mk w μ) (qI w [106001] μ (fun z μ1 => ∃ o_q : Int, μ1 106 1 = o_q ∧ ((-2147483648) ≤ z ∧ z ≤ 2147483647) ∧ (p1 < 0 ∨ f_q < p1 → z = -1 ∧ o_q = f_q) ∧ (0 ≤ p1 → p1 ≤ f_q → z = f_q ∧ o_q = p1) ∧ True)) := by
  refine sC.of rfl (by decide) (le_t rfl) ?_
  have ht_f_q : (0 ≤ f_q ∧ f_q ≤ 1000) := by rw [← q_f_q]; exact hT 106 106 (A_106 hw) 1
  refine mr_lvE (lv' := [(0, .ref 106), (1, iv p1)]) rfl ?_
  refine mr_iload_n (pc := 0) (z := p1) dX12_cut_0 rfl rfl ?_
  refine mr_if_lt (pc := 1) (tgt := 12) dX12_cut_1 (by decide) hp1 (fun h22 => ?_) (fun h22 => ?_)
  · have h23 : (-2147483648) ≤ p1 ∧ p1 ≤ (-1) := (vc_X12_ring_60 h22 hp1)
    refine mr_iconst (pc := 12) (z := (-1)) dX12_cut_12 ?_
    exact mr_iret dX12_cut_13 rfl (le_t rfl) (le_t rfl) hT mF.refl ⟨f_q, q_f_q, (rW (c := (-2147483648)) (d := 2147483647) (rR (x := (-1))) rfl), (vc_X11_cut_v_2 h22 ht_f_q h23), (vc_X11_cut_v_3 h22 ht_f_q h23), trivial⟩
  have h24 : 0 ≤ p1 ∧ p1 ≤ 2147483647 := (vc_X12_ring_1 h22 hp1)
  refine mr_iload_n (pc := 4) (z := p1) dX12_cut_4 rfl rfl ?_
  refine sv_aload_n (pc := 5) dX12_cut_5 rfl rfl ?_
  refine gk_X12_1 (pc := 6) dX12_cut_6 wF_X12_1 (A_106 hw) q_f_q ?_
  refine mr_icmp_le (pc := 9) (tgt := 14) dX12_cut_9 (by decide) (r32 h24 rfl) (r32 ht_f_q rfl) (fun h25 => ?_) (fun h25 => ?_)
  · have h26 : 0 ≤ p1 ∧ p1 ≤ 1000 := (vc_X11_cut_v_5 h25 h22 ht_f_q h24)
    refine sv_aload_n (pc := 14) dX12_cut_14 rfl rfl ?_
    refine gk_X12_1 (pc := 15) dX12_cut_15 wF_X12_1 (A_106 hw) q_f_q ?_
    refine mr_istore_n (pc := 18) (lv' := [(2, iv f_q), (0, .ref 106), (1, iv p1)]) dX12_cut_18 rfl (by decide) rfl ?_
    refine sv_aload_n (pc := 19) dX12_cut_19 rfl rfl ?_
    refine mr_iload_n (pc := 20) (z := p1) dX12_cut_20 rfl rfl ?_
    refine pf_X12_1 (pc := 21) dX12_cut_21 wF_X12_1 (A_106 hw) hT h26 fun μ27 u28 T29 => ?_
    refine mr_iload_n (pc := 24) (z := f_q) dX12_cut_24 rfl rfl ?_
    exact mr_iret dX12_cut_25 rfl (le_t rfl) (le_t rfl) T29 (mF.up mF.refl (A_106 hw) u28 rfl) ⟨p1, u28.1, (rW (c := (-2147483648)) (d := 2147483647) ht_f_q rfl), (vc_X11_cut_v_6 h22 h25 ht_f_q h26), (vc_X11_cut_v_7 h22 h25 ht_f_q h26), trivial⟩
  have h30 : 1 ≤ p1 ∧ p1 ≤ 2147483647 := (vc_X11_cut_v_8 h25 h22 ht_f_q h24)
  refine mr_iconst (pc := 12) (z := (-1)) dX12_cut_12 ?_
  exact mr_iret dX12_cut_13 rfl (le_t rfl) (le_t rfl) hT mF.refl ⟨f_q, q_f_q, (rW (c := (-2147483648)) (d := 2147483647) (rR (x := (-1))) rfl), (vc_X11_cut_v_9 h22 h25 ht_f_q h30), (vc_X11_cut_v_10 h22 h25 ht_f_q h30), trivial⟩
set_option maxRecDepth 4000 in
set_option maxHeartbeats 4000000 in
theorem c_X11_message_v {l : Launch} {D : va_G} {c : Nat → ClassId} {H0 : Heap} {sa : Nat × Nat × (Nat → Int32)} {w : mW} {μ : mM} (hw : mWF w) (hT : mT w μ) : sC (gG l D c H0 sa) mX11_message 8 0 0 [.ref 0] (mk w μ) (qI w [10, 76004, 76005, 76006, 76007, 76008, 76013, 76014, 76016, 77999, 78999, 79999, 80999, 84999, 85999, 200002, 200003, 200004, 200005, 200006, 200007, 200008, 201999, 202999] μ (fun z μ1 => ∃ o_wd o_an o_q : Int, μ1 76 13 = o_wd ∧ μ1 76 14 = o_an ∧ μ1 0 10 = o_q ∧ ((-2147483648) ≤ z ∧ z ≤ 2147483647) ∧ (o_wd + o_an ≤ 1000) ∧ (o_q = 0) ∧ True)) := by
  refine sC.of rfl (by decide) (le_t rfl) ?_
  refine mr_lvE (lv' := [(0, .ref 0)]) rfl ?_
  refine sv_aload_n (pc := 0) dX11_message_0 rfl rfl ?_
  refine gf_X11_7 (pc := 1) dX11_message_1 wF_X11_58 (A_0 hw) hT ?_
  refine sv_aload_n (pc := 4) dX11_message_4 rfl rfl ?_
  refine gf_X11_0 (pc := 5) dX11_message_5 wF_X11_9 (A_0 hw) hT ?_
  refine sv_aload_n (pc := 8) dX11_message_8 rfl rfl ?_
  refine gf_X11_10 (pc := 9) dX11_message_9 wF_X11_76 (A_0 hw) hT fun z1 q2 h3 => ?_
  refine mr_cVI (pc := 12) (c_X3_read hw hT (A_1 hw) h3) (gOk _ _ _ _ _) dX11_message_12 (tX3_read _ _ _ _ _) ⟨wV_X3_read, wL_X3_read⟩ wM_X11_339 (gCX3 _ _ _ _ _) rfl (A_76 hw) rfl ⟨le_t rfl, le_t rfl⟩ ⟨le_t rfl, le_t rfl⟩ rfl (le_t rfl) fun z8 μ4 T5 F6 h7 => ?_
  obtain ⟨z9, z11, q10, q12, h13⟩ := h7
  have h14 : (0 ≤ z9 ∧ z9 ≤ 1000) := by rw [← q10]; exact T5 76 76 (A_76 hw) 13
  have h15 : (0 ≤ z11 ∧ z11 ≤ 1000) := by rw [← q12]; exact T5 76 76 (A_76 hw) 14
  refine mr_istore_n (pc := 15) (lv' := [(1, iv z8), (0, .ref 0)]) dX11_message_15 rfl (by decide) rfl ?_
  refine sv_aload_n (pc := 16) dX11_message_16 rfl rfl ?_
  refine mr_iconst (pc := 17) (z := 0) dX11_message_17 ?_
  refine pf_X11_10 (pc := 18) dX11_message_18 wF_X11_76 (A_0 hw) T5 (rW (c := 0) (d := 1000) (rR (x := 0)) rfl) fun μ16 u17 T18 => ?_
  refine mr_iload_n (pc := 21) (z := z8) dX11_message_21 rfl rfl ?_
  exact mr_iret dX11_message_22 rfl (le_t rfl) (le_t rfl) T18 (mF.up (mF.call mF.refl F6 rfl) (A_0 hw) u17 rfl) ⟨z9, z11, 0, (u17.f (Or.inl (mAt.ne (A_0 hw) (A_76 hw) rfl)) q10), (u17.f (Or.inl (mAt.ne (A_0 hw) (A_76 hw) rfl)) q12), u17.1, h13.1, (vc_X3_told_5 h13.2.1 h15 h14), vc_X3_forget_z_1, trivial⟩
theorem vc_X12_message_v_3 {z2889 : Int} (h0 : (257 - z2889) < ((0 : Nat) : Int)) (h1 : 0 ≤ z2889 ∧ z2889 ≤ 256) : False := by omega
theorem vc_X12_message_v_5  : (-(2147483648 : Int) ≤ ((0 : Int) : Int) ∧ ((0 : Int) : Int) ≤ (2147483647 : Int)) ∧ (((960 : Int) : Int) % (40 : Int) = (0 : Int) → -(1 : Int) ≤ ((0 : Int) : Int) ∧ ((0 : Int) : Int) ≤ (9 : Int)) ∧ (((960 : Int) : Int) % (40 : Int) = (4 : Int) → (0 : Int) ≤ ((0 : Int) : Int) ∧ ((0 : Int) : Int) ≤ (20 : Int)) ∧ (((960 : Int) : Int) % (40 : Int) = (5 : Int) → (0 : Int) ≤ ((0 : Int) : Int) ∧ ((0 : Int) : Int) ≤ (8 : Int)) := by omega
theorem vc_X12_message_v_6  : (0 : Int) ≤ ((960 : Int) : Int) := by omega
theorem vc_X12_message_v_7 {z2932 : Int} (h0 : 0 ≤ z2932 ∧ z2932 ≤ 10) : ¬ (960 : Int) % 40 = 0 ∨ 56000 ≤ (960 : Int) ∨ ((960 : Int) = 960 ∧ (0 : Int) ≤ 0) ∨ (¬ (960 : Int) = 960 ∧ (0 : Int) < z2932) := by omega
theorem vc_X12_message_v_8  : (-(2147483648 : Int) ≤ ((100 : Int) : Int) ∧ ((100 : Int) : Int) ≤ (2147483647 : Int)) ∧ ((((960 : Int) + (1 : Int)) : Int) % (40 : Int) = (0 : Int) → -(1 : Int) ≤ ((100 : Int) : Int) ∧ ((100 : Int) : Int) ≤ (9 : Int)) ∧ ((((960 : Int) + (1 : Int)) : Int) % (40 : Int) = (4 : Int) → (0 : Int) ≤ ((100 : Int) : Int) ∧ ((100 : Int) : Int) ≤ (20 : Int)) ∧ ((((960 : Int) + (1 : Int)) : Int) % (40 : Int) = (5 : Int) → (0 : Int) ≤ ((100 : Int) : Int) ∧ ((100 : Int) : Int) ≤ (8 : Int)) := by omega
theorem vc_X12_message_v_9  : (0 : Int) ≤ (((960 : Int) + (1 : Int)) : Int) := by omega
theorem vc_X12_message_v_10 {z2932 : Int} (h0 : 0 ≤ z2932 ∧ z2932 ≤ 10) : ¬ ((960 + 1) : Int) % 40 = 0 ∨ 56000 ≤ ((960 + 1) : Int) ∨ (((960 + 1) : Int) = 960 ∧ (100 : Int) ≤ 0) ∨ (¬ ((960 + 1) : Int) = 960 ∧ (100 : Int) < z2932) := by omega
theorem vc_X12_message_v_11 {z3386 : Int} (h0 : (7 - z3386) < ((0 : Nat) : Int)) (h1 : 2 ≤ z3386 ∧ z3386 ≤ 6) : False := by omega
theorem vc_X12_message_v_12 {z3386 : Int} (h0 : 6 ≤ z3386) (h1 : 2 ≤ z3386 ∧ z3386 ≤ 6) : 6 ≤ z3386 ∧ z3386 ≤ 6 := by omega
theorem vc_X12_message_v_13  : (0 : Int) ≤ (960 : Int) ∧ (960 : Int) ≤ (960 : Int) ∧ (960 : Int) < (1000 : Int) := by omega
theorem vc_X12_message_v_14  : (0 : Int) ≤ ((960 : Int) + (1 : Int)) ∧ (960 : Int) ≤ ((960 : Int) + (1 : Int)) ∧ ((960 : Int) + (1 : Int)) < (1000 : Int) := by omega
theorem vc_X12_message_v_15  : (960 : Int) ≤ (960 : Int) ∧ (1000 : Int) ≤ (1000 : Int) := by omega
theorem vc_X12_message_v_23 {f_c f_g z4291 : Int} (h0 : (1001 - z4291) < ((0 : Nat) : Int)) (h1 : f_g + f_c ≤ 1000 + z4291) (h2 : z4291 ≤ f_c) (h3 : 0 ≤ z4291 ∧ z4291 ≤ 1000) : False := by omega
theorem vc_X12_message_v_24 {f_c f_g z4291 : Int} (h0 : z4291 < f_c) (h1 : f_g + f_c ≤ 1000 + z4291) (h2 : z4291 ≤ f_c) (h3 : 0 ≤ f_c ∧ f_c ≤ 1000) (h4 : 0 ≤ f_g ∧ f_g ≤ 1000) (h5 : 0 ≤ z4291 ∧ z4291 ≤ 1000) : 0 ≤ z4291 ∧ z4291 ≤ 999 := by omega
theorem vc_X12_message_v_25 {f_c f_g z4291 : Int} (h0 : z4291 < f_c) (h1 : f_g + f_c ≤ 1000 + z4291) (h2 : z4291 ≤ f_c) (h3 : 0 ≤ f_c ∧ f_c ≤ 1000) (h4 : 0 ≤ f_g ∧ f_g ≤ 1000) (h5 : 0 ≤ z4291 ∧ z4291 ≤ 999) : 1 ≤ f_c ∧ f_c ≤ 1000 := by omega
theorem vc_X12_message_v_26 {f_c f_g z4291 : Int} (h0 : f_g + f_c ≤ 1000 + z4291) (h1 : z4291 ≤ f_c) (h2 : z4291 < f_c) (h3 : 1 ≤ f_c ∧ f_c ≤ 1000) (h4 : 0 ≤ f_g ∧ f_g ≤ 1000) (h5 : 0 ≤ z4291 ∧ z4291 ≤ 999) : 0 ≤ f_g ∧ f_g < 1000 := by omega
theorem vc_X12_message_v_27 {f_c f_g z4291 : Int} (h0 : f_g + f_c ≤ 1000 + z4291) (h1 : z4291 ≤ f_c) (h2 : z4291 < f_c) (h3 : 1 ≤ f_c ∧ f_c ≤ 1000) (h4 : 0 ≤ f_g ∧ f_g ≤ 1000) (h5 : 0 ≤ z4291 ∧ z4291 ≤ 999) : 0 ≤ (f_g + 1) ∧ (f_g + 1) ≤ 1000 := by omega
theorem vc_X12_message_v_28 {f_c f_g z4291 : Int} (h0 : f_g + f_c ≤ 1000 + z4291) (h1 : z4291 ≤ f_c) (h2 : z4291 < f_c) (h3 : 1 ≤ f_c ∧ f_c ≤ 1000) (h4 : 0 ≤ f_g ∧ f_g ≤ 1000) (h5 : 0 ≤ z4291 ∧ z4291 ≤ 999) : (f_g + 1) + f_c ≤ 1000 + (z4291 + 1) := by omega
theorem vc_X12_message_v_29 {f_c f_g z4291 : Int} (h0 : f_g + f_c ≤ 1000 + z4291) (h1 : z4291 ≤ f_c) (h2 : z4291 < f_c) (h3 : 1 ≤ f_c ∧ f_c ≤ 1000) (h4 : 0 ≤ f_g ∧ f_g ≤ 1000) (h5 : 0 ≤ z4291 ∧ z4291 ≤ 999) : (z4291 + 1) ≤ f_c := by omega
theorem vc_X12_message_v_30 {N f_c f_g z4291 : Int} (h0 : (1001 - z4291) < N + 1) (h1 : f_g + f_c ≤ 1000 + z4291) (h2 : z4291 ≤ f_c) (h3 : z4291 < f_c) (h4 : 1 ≤ f_c ∧ f_c ≤ 1000) (h5 : 0 ≤ f_g ∧ f_g ≤ 1000) (h6 : 0 ≤ z4291 ∧ z4291 ≤ 999) : (1001 - (z4291 + 1)) < N := by omega
theorem vc_X12_message_v_31 {z3517 z3520 : Int} (h0 : z3517 + z3520 ≤ 1000) (h1 : 0 ≤ z3517 ∧ z3517 ≤ 1000) (h2 : 0 ≤ z3520 ∧ z3520 ≤ 1000) : z3517 + z3520 ≤ 1000 + (0 : Int) := by omega
theorem vc_X12_message_v_32 {z3517 z3520 : Int} (h0 : z3517 + z3520 ≤ 1000) (h1 : 0 ≤ z3517 ∧ z3517 ≤ 1000) (h2 : 0 ≤ z3520 ∧ z3520 ≤ 1000) : (0 : Int) ≤ z3520 := by omega
theorem vc_X12_message_v_35  : ((0 : Int) : Int) + ((0 : Int) : Int) ≤ (1000 : Int) := by omega
theorem vc_X12_message_v_37 {z3411 z3421 : Int} (h0 : (2 + z3421) ≤ z3411) (h1 : 2 ≤ z3411) (h2 : 2 ≤ z3411 ∧ z3411 ≤ 1000) (h3 : 0 ≤ z3421 ∧ z3421 ≤ 65535) : 0 ≤ z3421 ∧ z3421 ≤ 998 := by omega
theorem vc_X12_message_v_38 {z3411 z3421 : Int} (h0 : (2 + z3421) ≤ z3411) (h1 : 2 ≤ z3411) (h2 : 2 ≤ z3411 ∧ z3411 ≤ 1000) (h3 : 0 ≤ z3421 ∧ z3421 ≤ 998) : (2 : Int) ≤ (2 + z3421) := by omega
theorem vc_X12_message_v_39 {z3411 z3421 : Int} (h0 : 2 ≤ z3411) (h1 : (2 + z3421) ≤ z3411) (h2 : 2 ≤ z3411 ∧ z3411 ≤ 1000) (h3 : 0 ≤ z3421 ∧ z3421 ≤ 998) : (2 + z3421) ≤ z3411 := by omega
theorem vc_X12_message_v_40 {z3411 z3421 : Int} (h0 : (2 + z3421) ≤ z3411) (h1 : 2 ≤ z3411) (h2 : 2 ≤ z3411 ∧ z3411 ≤ 1000) (h3 : 0 ≤ z3421 ∧ z3421 ≤ 998) : (0 : Int) + (0 : Int) + (2 + z3421) - (2 : Int) ≤ 1000 := by omega
theorem vc_X12_message_v_41 {z3411 z3421 z4366 z4368 : Int} (h0 : z4366 + z4368 ≤ (0 : Int) + (0 : Int) + (2 + z3421) - (2 : Int)) (h1 : (2 + z3421) ≤ z3411) (h2 : z3411 < ((2 + z3421) + 2)) (h3 : 2 ≤ z3411 ∧ z3411 ≤ 1000) (h4 : 0 ≤ z3421 ∧ z3421 ≤ 998) (h5 : 0 ≤ z4366 ∧ z4366 ≤ 1000) (h6 : 0 ≤ z4368 ∧ z4368 ≤ 1000) : z4366 + z4368 ≤ 1000 := by omega
theorem vc_X12_message_v_42 {z3411 z3421 z4366 z4368 : Int} (h0 : ((2 + z3421) + 2) ≤ z3411) (h1 : 2 ≤ z3411) (h2 : (2 + z3421) ≤ z3411) (h3 : z4366 + z4368 ≤ (0 : Int) + (0 : Int) + (2 + z3421) - (2 : Int)) (h4 : 2 ≤ z3411 ∧ z3411 ≤ 1000) (h5 : 0 ≤ z3421 ∧ z3421 ≤ 998) (h6 : 0 ≤ z4366 ∧ z4366 ≤ 1000) (h7 : 0 ≤ z4368 ∧ z4368 ≤ 1000) : 0 ≤ z3421 ∧ z3421 ≤ 996 := by omega
theorem vc_X12_message_v_43 {z3411 z3421 z4366 z4368 : Int} (h0 : ((2 + z3421) + 2) ≤ z3411) (h1 : 2 ≤ z3411) (h2 : (2 + z3421) ≤ z3411) (h3 : z4366 + z4368 ≤ (0 : Int) + (0 : Int) + (2 + z3421) - (2 : Int)) (h4 : 2 ≤ z3411 ∧ z3411 ≤ 1000) (h5 : 0 ≤ z3421 ∧ z3421 ≤ 996) (h6 : 0 ≤ z4366 ∧ z4366 ≤ 1000) (h7 : 0 ≤ z4368 ∧ z4368 ≤ 1000) : 4 ≤ z3411 ∧ z3411 ≤ 1000 := by omega
theorem vc_X12_message_v_44 {z3411 z3421 z4366 z4368 z4380 : Int} (h0 : (((2 + z3421) + 2) + z4380) ≤ z3411) (h1 : 2 ≤ z3411) (h2 : (2 + z3421) ≤ z3411) (h3 : z4366 + z4368 ≤ (0 : Int) + (0 : Int) + (2 + z3421) - (2 : Int)) (h4 : ((2 + z3421) + 2) ≤ z3411) (h5 : 4 ≤ z3411 ∧ z3411 ≤ 1000) (h6 : 0 ≤ z3421 ∧ z3421 ≤ 996) (h7 : 0 ≤ z4366 ∧ z4366 ≤ 1000) (h8 : 0 ≤ z4368 ∧ z4368 ≤ 1000) (h9 : 0 ≤ z4380 ∧ z4380 ≤ 65535) : 0 ≤ z4380 ∧ z4380 ≤ 996 := by omega
theorem vc_X12_message_v_45 {z3411 z3421 z4366 z4368 z4380 : Int} (h0 : (2 + z3421) ≤ z3411) (h1 : z4366 + z4368 ≤ (0 : Int) + (0 : Int) + (2 + z3421) - (2 : Int)) (h2 : ((2 + z3421) + 2) ≤ z3411) (h3 : (((2 + z3421) + 2) + z4380) ≤ z3411) (h4 : 2 ≤ z3411) (h5 : 4 ≤ z3411 ∧ z3411 ≤ 1000) (h6 : 0 ≤ z3421 ∧ z3421 ≤ 996) (h7 : 0 ≤ z4366 ∧ z4366 ≤ 1000) (h8 : 0 ≤ z4368 ∧ z4368 ≤ 1000) (h9 : 0 ≤ z4380 ∧ z4380 ≤ 996) : 0 ≤ (((2 + z3421) + 2) + z4380) ∧ (((2 + z3421) + 2) + z4380) ≤ 1000 := by omega
theorem vc_X12_message_v_46 {z3411 z3421 z4366 z4368 z4380 : Int} (h0 : 2 ≤ z3411) (h1 : (2 + z3421) ≤ z3411) (h2 : z4366 + z4368 ≤ (0 : Int) + (0 : Int) + (2 + z3421) - (2 : Int)) (h3 : ((2 + z3421) + 2) ≤ z3411) (h4 : (((2 + z3421) + 2) + z4380) ≤ z3411) (h5 : 4 ≤ z3411 ∧ z3411 ≤ 1000) (h6 : 0 ≤ z3421 ∧ z3421 ≤ 996) (h7 : 0 ≤ z4366 ∧ z4366 ≤ 1000) (h8 : 0 ≤ z4368 ∧ z4368 ≤ 1000) (h9 : 0 ≤ z4380 ∧ z4380 ≤ 996) : (((2 + z3421) + 2) + z4380) ≤ z3411 := by omega
theorem vc_X12_message_v_47 {z3411 z3421 z4366 z4368 z4380 : Int} (h0 : (2 + z3421) ≤ z3411) (h1 : z4366 + z4368 ≤ (0 : Int) + (0 : Int) + (2 + z3421) - (2 : Int)) (h2 : ((2 + z3421) + 2) ≤ z3411) (h3 : (((2 + z3421) + 2) + z4380) ≤ z3411) (h4 : 2 ≤ z3411) (h5 : 4 ≤ z3411 ∧ z3411 ≤ 1000) (h6 : 0 ≤ z3421 ∧ z3421 ≤ 996) (h7 : 0 ≤ z4366 ∧ z4366 ≤ 1000) (h8 : 0 ≤ z4368 ∧ z4368 ≤ 1000) (h9 : 0 ≤ z4380 ∧ z4380 ≤ 996) : 3 * (0 : Int) ≤ ((2 + z3421) + 2) := by omega
theorem vc_X12_message_v_48 {z3411 z3421 z4366 z4368 z4380 : Int} (h0 : 2 ≤ z3411) (h1 : (2 + z3421) ≤ z3411) (h2 : ((2 + z3421) + 2) ≤ z3411) (h3 : (((2 + z3421) + 2) + z4380) ≤ z3411) (h4 : z4366 + z4368 ≤ (0 : Int) + (0 : Int) + (2 + z3421) - (2 : Int)) (h5 : 4 ≤ z3411 ∧ z3411 ≤ 1000) (h6 : 0 ≤ z3421 ∧ z3421 ≤ 996) (h7 : 0 ≤ z4366 ∧ z4366 ≤ 1000) (h8 : 0 ≤ z4368 ∧ z4368 ≤ 1000) (h9 : 0 ≤ z4380 ∧ z4380 ≤ 996) : z3411 ≤ z3411 := by omega
theorem vc_X12_message_v_49 {z3411 z3421 z4366 z4368 z4380 : Int} (h0 : 2 ≤ z3411) (h1 : (2 + z3421) ≤ z3411) (h2 : z4366 + z4368 ≤ (0 : Int) + (0 : Int) + (2 + z3421) - (2 : Int)) (h3 : ((2 + z3421) + 2) ≤ z3411) (h4 : (((2 + z3421) + 2) + z4380) ≤ z3411) (h5 : 4 ≤ z3411 ∧ z3411 ≤ 1000) (h6 : 0 ≤ z3421 ∧ z3421 ≤ 996) (h7 : 0 ≤ z4366 ∧ z4366 ≤ 1000) (h8 : 0 ≤ z4368 ∧ z4368 ≤ 1000) (h9 : 0 ≤ z4380 ∧ z4380 ≤ 996) : z4366 + z4368 + z3411 - (((2 + z3421) + 2) + z4380) ≤ 1000 := by omega
theorem vc_X12_message_v_50  : (960 : Int) ≤ (961 : Int) ∧ (1000 : Int) ≤ (1000 : Int) := by omega
theorem vc_X12_message_v_52  : (40 : Int) * ((((1000 : Int) : Int) - (1 : Int)) / (40 : Int)) < ((961 : Int) : Int) := by omega
theorem vc_X12_message_v_53  : ((1000 : Int) : Int) ≤ (5200 : Int) ∨ (21200 : Int) ≤ ((961 : Int) : Int) := by omega
theorem vc_X12_message_v_54  : ((1 : Int) ≤ ((961 : Int) : Int) ∧ ((1000 : Int) : Int) ≤ (1200 : Int)) ∨ (5200 : Int) ≤ ((961 : Int) : Int) := by omega
theorem vc_X12_message_v_55 {z3411 z3421 z4366 z4368 z4380 z4401 z4403 : Int} (h0 : z4401 + z4403 ≤ z4366 + z4368 + z3411 - (((2 + z3421) + 2) + z4380)) (h1 : 2 ≤ z3411) (h2 : (2 + z3421) ≤ z3411) (h3 : z4366 + z4368 ≤ (0 : Int) + (0 : Int) + (2 + z3421) - (2 : Int)) (h4 : ((2 + z3421) + 2) ≤ z3411) (h5 : (((2 + z3421) + 2) + z4380) ≤ z3411) (h6 : z3411 ≤ (((2 + z3421) + 2) + z4380)) (h7 : 4 ≤ z3411 ∧ z3411 ≤ 1000) (h8 : 0 ≤ z3421 ∧ z3421 ≤ 996) (h9 : 0 ≤ z4366 ∧ z4366 ≤ 1000) (h10 : 0 ≤ z4368 ∧ z4368 ≤ 1000) (h11 : 0 ≤ z4380 ∧ z4380 ≤ 996) (h12 : 0 ≤ z4401 ∧ z4401 ≤ 1000) (h13 : 0 ≤ z4403 ∧ z4403 ≤ 1000) : z4401 + z4403 ≤ 1000 := by omega
theorem vc_X12_message_v_56 {z3411 z3421 z4366 z4368 z4380 z4401 z4403 : Int} (h0 : (((2 + z3421) + 2) + z4380) < z3411) (h1 : 2 ≤ z3411) (h2 : (2 + z3421) ≤ z3411) (h3 : z4366 + z4368 ≤ (0 : Int) + (0 : Int) + (2 + z3421) - (2 : Int)) (h4 : ((2 + z3421) + 2) ≤ z3411) (h5 : (((2 + z3421) + 2) + z4380) ≤ z3411) (h6 : z4401 + z4403 ≤ z4366 + z4368 + z3411 - (((2 + z3421) + 2) + z4380)) (h7 : 4 ≤ z3411 ∧ z3411 ≤ 1000) (h8 : 0 ≤ z3421 ∧ z3421 ≤ 996) (h9 : 0 ≤ z4366 ∧ z4366 ≤ 1000) (h10 : 0 ≤ z4368 ∧ z4368 ≤ 1000) (h11 : 0 ≤ z4380 ∧ z4380 ≤ 996) (h12 : 0 ≤ z4401 ∧ z4401 ≤ 1000) (h13 : 0 ≤ z4403 ∧ z4403 ≤ 1000) : 5 ≤ z3411 ∧ z3411 ≤ 1000 := by omega
theorem vc_X12_message_v_57 {z3411 z3421 z4366 z4368 z4380 z4401 z4403 : Int} (h0 : (((2 + z3421) + 2) + z4380) < z3411) (h1 : 2 ≤ z3411) (h2 : (2 + z3421) ≤ z3411) (h3 : z4366 + z4368 ≤ (0 : Int) + (0 : Int) + (2 + z3421) - (2 : Int)) (h4 : ((2 + z3421) + 2) ≤ z3411) (h5 : (((2 + z3421) + 2) + z4380) ≤ z3411) (h6 : z4401 + z4403 ≤ z4366 + z4368 + z3411 - (((2 + z3421) + 2) + z4380)) (h7 : 5 ≤ z3411 ∧ z3411 ≤ 1000) (h8 : 0 ≤ z3421 ∧ z3421 ≤ 996) (h9 : 0 ≤ z4366 ∧ z4366 ≤ 1000) (h10 : 0 ≤ z4368 ∧ z4368 ≤ 1000) (h11 : 0 ≤ z4380 ∧ z4380 ≤ 996) (h12 : 0 ≤ z4401 ∧ z4401 ≤ 1000) (h13 : 0 ≤ z4403 ∧ z4403 ≤ 1000) : 0 ≤ z3421 ∧ z3421 ≤ 995 := by omega
theorem vc_X12_message_v_58 {z3411 z3421 z4366 z4368 z4380 z4401 z4403 : Int} (h0 : (((2 + z3421) + 2) + z4380) < z3411) (h1 : 2 ≤ z3411) (h2 : (2 + z3421) ≤ z3411) (h3 : z4366 + z4368 ≤ (0 : Int) + (0 : Int) + (2 + z3421) - (2 : Int)) (h4 : ((2 + z3421) + 2) ≤ z3411) (h5 : (((2 + z3421) + 2) + z4380) ≤ z3411) (h6 : z4401 + z4403 ≤ z4366 + z4368 + z3411 - (((2 + z3421) + 2) + z4380)) (h7 : 5 ≤ z3411 ∧ z3411 ≤ 1000) (h8 : 0 ≤ z3421 ∧ z3421 ≤ 995) (h9 : 0 ≤ z4366 ∧ z4366 ≤ 1000) (h10 : 0 ≤ z4368 ∧ z4368 ≤ 1000) (h11 : 0 ≤ z4380 ∧ z4380 ≤ 996) (h12 : 0 ≤ z4401 ∧ z4401 ≤ 1000) (h13 : 0 ≤ z4403 ∧ z4403 ≤ 1000) : 0 ≤ z4380 ∧ z4380 ≤ 995 := by omega
theorem vc_X12_message_v_60 {z3411 z3421 z4366 z4368 z4380 z4401 z4403 : Int} (h0 : z4401 + z4403 ≤ z4366 + z4368 + z3411 - (((2 + z3421) + 2) + z4380)) (h1 : 2 ≤ z3411) (h2 : (2 + z3421) ≤ z3411) (h3 : z4366 + z4368 ≤ (0 : Int) + (0 : Int) + (2 + z3421) - (2 : Int)) (h4 : ((2 + z3421) + 2) ≤ z3411) (h5 : (((2 + z3421) + 2) + z4380) ≤ z3411) (h6 : (((2 + z3421) + 2) + z4380) < z3411) (h7 : 5 ≤ z3411 ∧ z3411 ≤ 1000) (h8 : 0 ≤ z3421 ∧ z3421 ≤ 995) (h9 : 0 ≤ z4366 ∧ z4366 ≤ 1000) (h10 : 0 ≤ z4368 ∧ z4368 ≤ 1000) (h11 : 0 ≤ z4380 ∧ z4380 ≤ 995) (h12 : 0 ≤ z4401 ∧ z4401 ≤ 1000) (h13 : 0 ≤ z4403 ∧ z4403 ≤ 1000) : z4401 + z4403 ≤ 1000 := by omega
theorem vc_X12_message_v_64 {z3411 z3421 z4366 z4368 z4380 : Int} (h0 : z4366 + z4368 ≤ (0 : Int) + (0 : Int) + (2 + z3421) - (2 : Int)) (h1 : (2 + z3421) ≤ z3411) (h2 : ((2 + z3421) + 2) ≤ z3411) (h3 : z3411 < (((2 + z3421) + 2) + z4380)) (h4 : 4 ≤ z3411 ∧ z3411 ≤ 1000) (h5 : 0 ≤ z3421 ∧ z3421 ≤ 996) (h6 : 0 ≤ z4366 ∧ z4366 ≤ 1000) (h7 : 0 ≤ z4368 ∧ z4368 ≤ 1000) (h8 : 0 ≤ z4380 ∧ z4380 ≤ 65535) : z4366 + z4368 ≤ 1000 := by omega
theorem vc_X12_message_v_65 {z3411 z3421 z4366 z4368 : Int} (h0 : 2 ≤ z3411) (h1 : (2 + z3421) ≤ z3411) (h2 : z4366 + z4368 ≤ (0 : Int) + (0 : Int) + (2 + z3421) - (2 : Int)) (h3 : ((2 + z3421) + 2) ≤ z3411) (h4 : 4 ≤ z3411 ∧ z3411 ≤ 1000) (h5 : 0 ≤ z3421 ∧ z3421 ≤ 996) (h6 : 0 ≤ z4366 ∧ z4366 ≤ 1000) (h7 : 0 ≤ z4368 ∧ z4368 ≤ 1000) : (2 + z3421) + (2 : Int) ≤ z3411 := by omega
theorem vc_X12_message_v_66 {z3411 z3421 : Int} (h0 : z3411 < (2 + z3421)) (h1 : 2 ≤ z3411) (h2 : 2 ≤ z3411 ∧ z3411 ≤ 1000) (h3 : 0 ≤ z3421 ∧ z3421 ≤ 65535) : 1 ≤ z3421 ∧ z3421 ≤ 65535 := by omega
theorem vc_X12_message_v_67 {z3411 : Int} (h0 : 2 ≤ z3411) (h1 : 2 ≤ z3411 ∧ z3411 ≤ 1000) : (0 : Int) + (2 : Int) ≤ z3411 := by omega
theorem vc_X12_message_v_68 {z3386 : Int} (h0 : z3386 < 6) (h1 : 2 ≤ z3386 ∧ z3386 ≤ 6) : 2 ≤ z3386 ∧ z3386 ≤ 5 := by omega
theorem vc_X12_message_v_69 {z3386 : Int} (h0 : z3386 < 6) (h1 : 2 ≤ z3386 ∧ z3386 ≤ 5) : (-2147483648 ≤ (0 : Int) ∧ (0 : Int) ≤ 2147483647) ∧ ((960 + z3386) % 40 = 0 → -1 ≤ (0 : Int) ∧ (0 : Int) ≤ 9) ∧ ((960 + z3386) % 40 = 4 → 0 ≤ (0 : Int) ∧ (0 : Int) ≤ 20) ∧ ((960 + z3386) % 40 = 5 → 0 ≤ (0 : Int) ∧ (0 : Int) ≤ 8) := by omega
theorem vc_X12_message_v_70 {z3386 : Int} (h0 : z3386 < 6) (h1 : 2 ≤ z3386 ∧ z3386 ≤ 5) : 0 ≤ (960 + z3386) := by omega
theorem vc_X12_message_v_71 {z2932 z3386 : Int} (h0 : z3386 < 6) (h1 : 0 ≤ z2932 ∧ z2932 ≤ 10) (h2 : 2 ≤ z3386 ∧ z3386 ≤ 5) : ¬ (960 + z3386) % 40 = 0 ∨ 56000 ≤ (960 + z3386) ∨ ((960 + z3386) = 960 ∧ (0 : Int) ≤ 0) ∨ (¬ (960 + z3386) = 960 ∧ (0 : Int) < z2932) := by omega
theorem vc_X12_message_v_72 {N z3386 : Int} (h0 : (7 - z3386) < N + 1) (h1 : z3386 < 6) (h2 : 2 ≤ z3386 ∧ z3386 ≤ 5) : (7 - (z3386 + 1)) < N := by omega
theorem vc_X12_message_v_73 {z3386 : Int} (h0 : z3386 < 6) (h1 : 2 ≤ z3386 ∧ z3386 ≤ 5) : 0 ≤ (960 + z3386) ∧ 960 ≤ (960 + z3386) ∧ (960 + z3386) < 1000 := by omega
theorem vc_X12_message_v_74 {z3386 : Int} (h0 : z3386 < 6) (h1 : 2 ≤ z3386 ∧ z3386 ≤ 5) : 0 ≤ (960 + z3386) ∧ (960 + z3386) ≤ (960 + z3386) ∧ (960 + z3386) < ((960 + z3386) + 1) := by omega
theorem vc_X12_message_v_75 {z3386 : Int} (h0 : z3386 < 6) (h1 : 2 ≤ z3386 ∧ z3386 ≤ 5) : ((960 + z3386) + 1) ≤ 5200 ∨ 21200 ≤ (960 + z3386) := by omega
theorem vc_X12_message_v_76 {z3386 : Int} (h0 : z3386 < 6) (h1 : 2 ≤ z3386 ∧ z3386 ≤ 5) : (1 ≤ (960 + z3386) ∧ ((960 + z3386) + 1) ≤ 1200) ∨ 5200 ≤ (960 + z3386) := by omega
theorem vc_X12_message_v_77  : (7 - 2) < ((6 : Nat) : Int) := by omega
theorem vc_X12_message_v_78  : (0 : Int) ≤ (960 : Int) ∧ (960 : Int) ≤ (960 : Int) ∧ (960 : Int) < ((960 : Int) + (1 : Int)) := by omega
theorem vc_X12_message_v_79  : (0 : Int) ≤ ((960 : Int) + (1 : Int)) ∧ ((960 : Int) + (1 : Int)) ≤ ((960 : Int) + (1 : Int)) ∧ ((960 : Int) + (1 : Int)) < (((960 : Int) + (1 : Int)) + (1 : Int)) := by omega
theorem vc_X12_message_v_80  : ((((960 : Int) + (1 : Int)) + (1 : Int)) : Int) ≤ (5200 : Int) ∨ (21200 : Int) ≤ (((960 : Int) + (1 : Int)) : Int) := by omega
theorem vc_X12_message_v_81  : (((960 : Int) + (1 : Int)) : Int) ≤ (5200 : Int) ∨ (21200 : Int) ≤ ((960 : Int) : Int) := by omega
theorem vc_X12_message_v_82  : ((1 : Int) ≤ (((960 : Int) + (1 : Int)) : Int) ∧ ((((960 : Int) + (1 : Int)) + (1 : Int)) : Int) ≤ (1200 : Int)) ∨ (5200 : Int) ≤ (((960 : Int) + (1 : Int)) : Int) := by omega
theorem vc_X12_message_v_83  : ((1 : Int) ≤ ((960 : Int) : Int) ∧ (((960 : Int) + (1 : Int)) : Int) ≤ (1200 : Int)) ∨ (5200 : Int) ≤ ((960 : Int) : Int) := by omega
theorem vc_X12_message_v_85 {N z2889 : Int} (h0 : (257 - z2889) < N + 1) (h1 : z2889 < 256) (h2 : 0 ≤ z2889 ∧ z2889 ≤ 255) : (257 - (z2889 + 1)) < N := by omega
theorem vc_X12_message_v_86  : (257 - 0) < ((258 : Nat) : Int) := by omega
set_option maxRecDepth 4000 in
set_option maxHeartbeats 4000000 in
theorem c_X12_message_v {l : Launch} {D : va_G} {c : Nat → ClassId} {H0 : Heap} {sa : Nat × Nat × (Nat → Int32)} {w : mW} {μ : mM} (hw : mWF w) (hT : mT w μ) (hIJC : JC l D c H0 sa μ) (hIRP : RP μ) (hIEP : EP μ) (hIHP : HP μ) (hIUP : UP l D c H0 sa μ) (hIG1 : G1 μ) : sC (gG l D c H0 sa) mX12_message 5 0 0 [.ref 106] (mk w μ) (qI w [106001, 106088, 106091, 106093, 106096, 106097, 106098, 106099, 106101, 106102, 126999, 166999, 167999, 168999, 169999, 170999, 171999, 172999, 173999] μ (fun z μ1 => ∃ o_q : Int, μ1 106 1 = o_q ∧ ((-2147483648) ≤ z ∧ z ≤ 2147483647) ∧ mG [(960, 1000)] μ μ1 ∧ JC l D c H0 sa μ1 ∧ RP μ1 ∧ EP μ1 ∧ HP μ1 ∧ UP l D c H0 sa μ1 ∧ G1 μ1 ∧ (o_q = 0) ∧ True)) := by
  refine sC.of rfl (by decide) (le_t rfl) ?_
  refine mr_lvE (lv' := [(0, .ref 106)]) rfl ?_
  refine mr_iconst (pc := 0) (z := 0) dX12_message_0 ?_
  refine mr_istore_n (pc := 1) (lv' := [(1, iv 0), (0, .ref 106)]) dX12_message_1 rfl (by decide) rfl ?_
  have L1865 : ∀ (nL1865 : Nat) (z1863 : Int) (μ1864 : mM), mT w μ1864 → mF [172999] w μ μ1864 → (0 ≤ z1863 ∧ z1863 ≤ 4) → JC l D c H0 sa μ1864 → RP μ1864 → EP μ1864 → HP μ1864 → UP l D c H0 sa μ1864 → G1 μ1864 → (5 - z1863) < (nL1865 : Int) → sV (gG l D c H0 sa) mX12_message (sRm 5 0 0) (sZ (gG l D c H0 sa) 0 0 (qI w [106001, 106088, 106091, 106093, 106096, 106097, 106098, 106099, 106101, 106102, 126999, 166999, 167999, 168999, 169999, 170999, 171999, 172999, 173999] μ (fun z μ1 => ∃ o_q : Int, μ1 106 1 = o_q ∧ ((-2147483648) ≤ z ∧ z ≤ 2147483647) ∧ mG [(960, 1000)] μ μ1 ∧ JC l D c H0 sa μ1 ∧ RP μ1 ∧ EP μ1 ∧ HP μ1 ∧ UP l D c H0 sa μ1 ∧ G1 μ1 ∧ (o_q = 0) ∧ True))) 2 [(0, .ref 106), (1, iv z1863)] [] (mk w μ1864) 0 0 := by
    intro nL1865
    induction nL1865 with
    | zero => intro z1863 μ1864 T1867 F1868 h1866 I1870 I1871 I1872 I1873 I1874 I1875 h1876; exact ((vc_X3_putPrefix_2 h1876 h1866)).elim
    | succ nL1865 ih1877 =>
      intro z1863 μ1864 T1867 F1868 h1866 I1870 I1871 I1872 I1873 I1874 I1875 h1876
      refine mr_iload_n (pc := 2) (z := z1863) dX12_message_2 rfl rfl ?_
      refine mr_iconst (pc := 3) (z := 4) dX12_message_3 ?_
      refine mr_icmp_ge (pc := 4) (tgt := 21) dX12_message_4 (by decide) (r32 h1866 rfl) (r32 (rR (x := 4)) rfl) (fun h1883 => ?_) (fun h1883 => ?_)
      · have h1884 : 4 ≤ z1863 ∧ z1863 ≤ 4 := (vc_X12_tie_u_17 h1883 h1866)
        refine mr_iconst (pc := 21) (z := 0) dX12_message_21 ?_
        refine mr_istore_n (pc := 22) (lv' := [(1, iv 0), (0, .ref 106)]) dX12_message_22 rfl (by decide) rfl ?_
        have L2891 : ∀ (nL2891 : Nat) (z2889 : Int) (μ2890 : mM), mT w μ2890 → mF [171999] w μ1864 μ2890 → (0 ≤ z2889 ∧ z2889 ≤ 256) → JC l D c H0 sa μ2890 → RP μ2890 → EP μ2890 → HP μ2890 → UP l D c H0 sa μ2890 → G1 μ2890 → (257 - z2889) < (nL2891 : Int) → sV (gG l D c H0 sa) mX12_message (sRm 5 0 0) (sZ (gG l D c H0 sa) 0 0 (qI w [106001, 106088, 106091, 106093, 106096, 106097, 106098, 106099, 106101, 106102, 126999, 166999, 167999, 168999, 169999, 170999, 171999, 172999, 173999] μ (fun z μ1 => ∃ o_q : Int, μ1 106 1 = o_q ∧ ((-2147483648) ≤ z ∧ z ≤ 2147483647) ∧ mG [(960, 1000)] μ μ1 ∧ JC l D c H0 sa μ1 ∧ RP μ1 ∧ EP μ1 ∧ HP μ1 ∧ UP l D c H0 sa μ1 ∧ G1 μ1 ∧ (o_q = 0) ∧ True))) 23 [(0, .ref 106), (1, iv z2889)] [] (mk w μ2890) 0 0 := by
          intro nL2891
          induction nL2891 with
          | zero => intro z2889 μ2890 T2893 F2894 h2892 I2896 I2897 I2898 I2899 I2900 I2901 h2902; exact ((vc_X12_message_v_3 h2902 h2892)).elim
          | succ nL2891 ih2903 =>
            intro z2889 μ2890 T2893 F2894 h2892 I2896 I2897 I2898 I2899 I2900 I2901 h2902
            refine mr_iload_n (pc := 23) (z := z2889) dX12_message_23 rfl rfl ?_
            refine mr_sipush (pc := 24) (z := 256) dX12_message_24 (by decide) ?_
            refine mr_icmp_ge (pc := 27) (tgt := 43) dX12_message_27 (by decide) (r32 h2892 rfl) (r32 (rR (x := 256)) rfl) (fun h2909 => ?_) (fun h2909 => ?_)
            · have h2910 : 256 ≤ z2889 ∧ z2889 ≤ 256 := (vc_X3_putNumber_4 h2909 h2892)
              refine sv_aload_n (pc := 43) dX12_message_43 rfl rfl ?_
              refine mr_iconst (pc := 44) (z := 0) dX12_message_44 ?_
              refine pf_X12_88 (pc := 45) dX12_message_45 wF_X12_625 (A_106 hw) T2893 (rW (c := 0) (d := 1000) (rR (x := 0)) rfl) fun μ2911 u2912 T2913 => ?_
              refine sv_aload_n (pc := 48) dX12_message_48 rfl rfl ?_
              refine mr_iconst (pc := 49) (z := 0) dX12_message_49 ?_
              refine pf_X12_91 (pc := 50) dX12_message_50 wF_X12_628 (A_106 hw) T2913 (rW (c := 0) (d := 1000) (rR (x := 0)) rfl) fun μ2914 u2915 T2916 => ?_
              refine sv_aload_n (pc := 53) dX12_message_53 rfl rfl ?_
              refine mr_iconst (pc := 54) (z := 0) dX12_message_54 ?_
              refine pf_X12_93 (pc := 55) dX12_message_55 wF_X12_652 (A_106 hw) T2916 (rW (c := 0) (d := 400) (rR (x := 0)) rfl) fun μ2917 u2918 T2919 => ?_
              refine sv_aload_n (pc := 58) dX12_message_58 rfl rfl ?_
              refine mr_iconst (pc := 59) (z := 0) dX12_message_59 ?_
              refine pf_X12_101 (pc := 60) dX12_message_60 wF_X12_637 (A_106 hw) T2919 (rW (c := 0) (d := 8) (rR (x := 0)) rfl) fun μ2920 u2921 T2922 => ?_
              refine sv_aload_n (pc := 63) dX12_message_63 rfl rfl ?_
              refine mr_iconst (pc := 64) (z := 0) dX12_message_64 ?_
              refine pf_X12_98 (pc := 65) dX12_message_65 wF_X12_631 (A_106 hw) T2922 (rW (c := 0) (d := 1) (rR (x := 0)) rfl) fun μ2923 u2924 T2925 => ?_
              refine sv_aload_n (pc := 68) dX12_message_68 rfl rfl ?_
              refine mr_iconst (pc := 69) (z := 0) dX12_message_69 ?_
              refine pf_X12_99 (pc := 70) dX12_message_70 wF_X12_634 (A_106 hw) T2925 (rW (c := 0) (d := 1) (rR (x := 0)) rfl) fun μ2926 u2927 T2928 => ?_
              refine mr_sipush (pc := 73) (z := 960) dX12_message_73 (by decide) ?_
              refine mr_istore_n (pc := 76) (lv' := [(1, iv 960), (0, .ref 106)]) dX12_message_76 rfl (by decide) rfl ?_
              refine sv_aload_n (pc := 77) dX12_message_77 rfl rfl ?_
              refine gf_X12_32 (pc := 78) dX12_message_78 wF_X12_148 (A_106 hw) T2928 ?_
              refine mr_iload_n (pc := 81) (z := 960) dX12_message_81 rfl rfl ?_
              refine mr_iconst (pc := 82) (z := 0) dX12_message_82 ?_
              refine ss_126 (pc := 83) dX12_message_83 (A_126 hw) T2928 (rIx (n := 84000) (rR (x := 960)) rfl) vc_X12_message_v_5 fun μ2929 u2930 T2931 => ?_
              obtain ⟨z2932, q2933⟩ : ∃ z, μ2929 106 2 = z := ⟨_, rfl⟩
              have h2934 : (0 ≤ z2932 ∧ z2932 ≤ 10) := by rw [← q2933]; exact T2931 106 106 (A_106 hw) 2
              have I2935 : RP μ2929 := RP.up (RP.keep I2897 hw ((mF.up (mF.up (mF.up (mF.up (mF.up (mF.up mF.refl (A_106 hw) u2912 rfl) (A_106 hw) u2915 rfl) (A_106 hw) u2918 rfl) (A_106 hw) u2921 rfl) (A_106 hw) u2924 rfl) (A_106 hw) u2927 rfl) : mF [106088, 106091, 106093, 106098, 106099, 106101] w μ2890 μ2926) rfl ((mG.upO (mG.upO (mG.upO (mG.upO (mG.upO (mG.upO mG.refl u2912 rfl) u2915 rfl) u2918 rfl) u2921 rfl) u2924 rfl) u2927 rfl) : mG [] μ2890 μ2926) (fun _ h => absurd h List.not_mem_nil)) u2930 q2933 vc_X12_message_v_6 (vc_X12_message_v_7 h2934)
              refine sv_aload_n (pc := 84) dX12_message_84 rfl rfl ?_
              refine gf_X12_32 (pc := 85) dX12_message_85 wF_X12_148 (A_106 hw) T2931 ?_
              refine mr_iload_n (pc := 88) (z := 960) dX12_message_88 rfl rfl ?_
              refine mr_iconst (pc := 89) (z := 1) dX12_message_89 ?_
              refine mr_iadd (pc := 90) (x := 960) (y := 1) dX12_message_90 ?_
              refine mr_bipush (pc := 91) (z := 100) dX12_message_91 (by decide) ?_
              refine ss_126 (pc := 93) dX12_message_93 (A_126 hw) T2931 (rIx (n := 84000) (rAdd (e := 961) (f := 961) (rR (x := 960)) (rR (x := 1)) rfl) rfl) vc_X12_message_v_8 fun μ2936 u2937 T2938 => ?_
              have I2939 : RP μ2936 := RP.up I2935 u2937 (u2937.f (Or.inl (mAt.ne (A_126 hw) (A_106 hw) rfl)) q2933) vc_X12_message_v_9 (vc_X12_message_v_10 h2934)
              refine mr_iconst (pc := 94) (z := 2) dX12_message_94 ?_
              refine mr_istore_n (pc := 95) (lv' := [(2, iv 2), (1, iv 960), (0, .ref 106)]) dX12_message_95 rfl (by decide) rfl ?_
              have L3388 : ∀ (nL3388 : Nat) (z3386 : Int) (μ3387 : mM), mT w μ3387 → mF [126999] w μ2936 μ3387 → mG [(960, 1000)] μ2936 μ3387 → (2 ≤ z3386 ∧ z3386 ≤ 6) → JC l D c H0 sa μ3387 → RP μ3387 → EP μ3387 → HP μ3387 → UP l D c H0 sa μ3387 → G1 μ3387 → (7 - z3386) < (nL3388 : Int) → sV (gG l D c H0 sa) mX12_message (sRm 5 0 0) (sZ (gG l D c H0 sa) 0 0 (qI w [106001, 106088, 106091, 106093, 106096, 106097, 106098, 106099, 106101, 106102, 126999, 166999, 167999, 168999, 169999, 170999, 171999, 172999, 173999] μ (fun z μ1 => ∃ o_q : Int, μ1 106 1 = o_q ∧ ((-2147483648) ≤ z ∧ z ≤ 2147483647) ∧ mG [(960, 1000)] μ μ1 ∧ JC l D c H0 sa μ1 ∧ RP μ1 ∧ EP μ1 ∧ HP μ1 ∧ UP l D c H0 sa μ1 ∧ G1 μ1 ∧ (o_q = 0) ∧ True))) 96 [(0, .ref 106), (1, iv 960), (2, iv z3386)] [] (mk w μ3387) 0 0 := by
                intro nL3388
                induction nL3388 with
                | zero => intro z3386 μ3387 T3390 F3391 G3392 h3389 I3393 I3394 I3395 I3396 I3397 I3398 h3399; exact ((vc_X12_message_v_11 h3399 h3389)).elim
                | succ nL3388 ih3400 =>
                  intro z3386 μ3387 T3390 F3391 G3392 h3389 I3393 I3394 I3395 I3396 I3397 I3398 h3399
                  refine mr_iload_n (pc := 96) (z := z3386) dX12_message_96 rfl rfl ?_
                  refine mr_bipush (pc := 97) (z := 6) dX12_message_97 (by decide) ?_
                  refine mr_icmp_ge (pc := 99) (tgt := 117) dX12_message_99 (by decide) (r32 h3389 rfl) (r32 (rR (x := 6)) rfl) (fun h3406 => ?_) (fun h3406 => ?_)
                  · have h3407 : 6 ≤ z3386 ∧ z3386 ≤ 6 := (vc_X12_message_v_12 h3406 h3389)
                    refine sv_aload_n (pc := 117) dX12_message_117 rfl rfl ?_
                    refine mr_iconst (pc := 118) (z := 1) dX12_message_118 ?_
                    refine pf_X12_96 (pc := 119) dX12_message_119 wF_X12_655 (A_106 hw) T3390 (rW (c := 0) (d := 1) (rR (x := 1)) rfl) fun μ3408 u3409 T3410 => ?_
                    refine sv_aload_n (pc := 122) dX12_message_122 rfl rfl ?_
                    refine gf_X12_1 (pc := 123) dX12_message_123 wF_X12_1 (A_106 hw) T3410 fun z3411 q3412 h3413 => ?_
                    refine mr_iconst (pc := 126) (z := 2) dX12_message_126 ?_
                    have J3423 : ∀ (z3421 : Int), ((0 ≤ z3421 ∧ z3421 ≤ 65535)) → sV (gG l D c H0 sa) mX12_message (sRm 5 0 0) (sZ (gG l D c H0 sa) 0 0 (qI w [106001, 106088, 106091, 106093, 106096, 106097, 106098, 106099, 106101, 106102, 126999, 166999, 167999, 168999, 169999, 170999, 171999, 172999, 173999] μ (fun z μ1 => ∃ o_q : Int, μ1 106 1 = o_q ∧ ((-2147483648) ≤ z ∧ z ≤ 2147483647) ∧ mG [(960, 1000)] μ μ1 ∧ JC l D c H0 sa μ1 ∧ RP μ1 ∧ EP μ1 ∧ HP μ1 ∧ UP l D c H0 sa μ1 ∧ G1 μ1 ∧ (o_q = 0) ∧ True))) 140 [(0, .ref 106)] [iv z3421] (mk w μ3408) 0 0 := by
                      intro z3421 h3422
                      refine mr_istore_n (pc := 140) (lv' := [(2, iv z3421), (0, .ref 106)]) dX12_message_140 rfl (by decide) rfl ?_
                      refine sv_aload_n (pc := 141) dX12_message_141 rfl rfl ?_
                      refine gk_X12_1 (pc := 142) dX12_message_142 wF_X12_1 (A_106 hw) q3412 ?_
                      refine mr_iconst (pc := 145) (z := 2) dX12_message_145 ?_
                      have J3516 : ∀ (μ3505 : mM), (mT w μ3505) → (mF [106088, 106091, 106093, 106098, 106099, 106101, 126999, 166999, 167999, 168999, 169999, 170999, 171999, 172999, 173999] w μ3408 μ3505) → (mG [(960, 1000)] μ3408 μ3505) → (JC l D c H0 sa μ3505) → (RP μ3505) → (EP μ3505) → (HP μ3505) → (UP l D c H0 sa μ3505) → (G1 μ3505) → ((μ3505 106 (88) + μ3505 106 (91) ≤ 1000)) → sV (gG l D c H0 sa) mX12_message (sRm 5 0 0) (sZ (gG l D c H0 sa) 0 0 (qI w [106001, 106088, 106091, 106093, 106096, 106097, 106098, 106099, 106101, 106102, 126999, 166999, 167999, 168999, 169999, 170999, 171999, 172999, 173999] μ (fun z μ1 => ∃ o_q : Int, μ1 106 1 = o_q ∧ ((-2147483648) ≤ z ∧ z ≤ 2147483647) ∧ mG [(960, 1000)] μ μ1 ∧ JC l D c H0 sa μ1 ∧ RP μ1 ∧ EP μ1 ∧ HP μ1 ∧ UP l D c H0 sa μ1 ∧ G1 μ1 ∧ (o_q = 0) ∧ True))) 303 [(0, .ref 106)] [] (mk w μ3505) 0 0 := by
                        intro μ3505 T3506 F3507 G3508 I3509 I3510 I3511 I3512 I3513 I3514 h3515
                        obtain ⟨z3517, q3518⟩ : ∃ z, μ3505 106 88 = z := ⟨_, rfl⟩
                        have h3519 : (0 ≤ z3517 ∧ z3517 ≤ 1000) := by rw [← q3518]; exact T3506 106 106 (A_106 hw) 88
                        obtain ⟨z3520, q3521⟩ : ∃ z, μ3505 106 91 = z := ⟨_, rfl⟩
                        have h3522 : (0 ≤ z3520 ∧ z3520 ≤ 1000) := by rw [← q3521]; exact T3506 106 106 (A_106 hw) 91
                        have h3523 : z3517 + z3520 ≤ 1000 := by have h := h3515; rw [q3518, q3521] at h; exact h
                        refine sv_aload_n (pc := 303) dX12_message_303 rfl rfl ?_
                        refine mr_iconst (pc := 304) (z := 0) dX12_message_304 ?_
                        refine pf_X12_1 (pc := 305) dX12_message_305 wF_X12_1 (A_106 hw) T3506 (rW (c := 0) (d := 1000) (rR (x := 0)) rfl) fun μ3524 u3525 T3526 => ?_
                        refine sv_aload_n (pc := 308) dX12_message_308 rfl rfl ?_
                        refine sv_aload_n (pc := 309) dX12_message_309 rfl rfl ?_
                        refine gf_X12_95 (pc := 310) dX12_message_310 wF_X12_478 (A_106 hw) T3526 ?_
                        refine mr_iconst (pc := 313) (z := 1) dX12_message_313 ?_
                        refine la_172 (pc := 314) dX12_message_314 (A_172 hw) T3526 (rIx (n := 4) (rR (x := 1)) rfl) fun z3527 q3528 h3529 => ?_
                        refine mr_ldc (pc := 315) (z := (-99999999)) dX12_message_315 wG_X12_29 (by decide) ?_
                        have J3533 : ∀ (z3531 : Int), ((0 ≤ z3531 ∧ z3531 ≤ 1)) → sV (gG l D c H0 sa) mX12_message (sRm 5 0 0) (sZ (gG l D c H0 sa) 0 0 (qI w [106001, 106088, 106091, 106093, 106096, 106097, 106098, 106099, 106101, 106102, 126999, 166999, 167999, 168999, 169999, 170999, 171999, 172999, 173999] μ (fun z μ1 => ∃ o_q : Int, μ1 106 1 = o_q ∧ ((-2147483648) ≤ z ∧ z ≤ 2147483647) ∧ mG [(960, 1000)] μ μ1 ∧ JC l D c H0 sa μ1 ∧ RP μ1 ∧ EP μ1 ∧ HP μ1 ∧ UP l D c H0 sa μ1 ∧ G1 μ1 ∧ (o_q = 0) ∧ True))) 325 [(0, .ref 106)] [iv z3531, .ref 106] (mk w μ3524) 0 0 := by
                          intro z3531 h3532
                          refine pf_X12_97 (pc := 325) dX12_message_325 wF_X12_665 (A_106 hw) T3526 h3532 fun μ3534 u3535 T3536 => ?_
                          refine sv_aload_n (pc := 328) dX12_message_328 rfl rfl ?_
                          refine gk_X12_97 (pc := 329) dX12_message_329 wF_X12_665 (A_106 hw) u3535.1 ?_
                          have J3605 : ∀ (μ3595 : mM), (mT w μ3595) → (mF [106088, 106091, 166999, 167999] w μ3534 μ3595) → (JC l D c H0 sa μ3595) → (RP μ3595) → (EP μ3595) → (HP μ3595) → (UP l D c H0 sa μ3595) → (G1 μ3595) → sV (gG l D c H0 sa) mX12_message (sRm 5 0 0) (sZ (gG l D c H0 sa) 0 0 (qI w [106001, 106088, 106091, 106093, 106096, 106097, 106098, 106099, 106101, 106102, 126999, 166999, 167999, 168999, 169999, 170999, 171999, 172999, 173999] μ (fun z μ1 => ∃ o_q : Int, μ1 106 1 = o_q ∧ ((-2147483648) ≤ z ∧ z ≤ 2147483647) ∧ mG [(960, 1000)] μ μ1 ∧ JC l D c H0 sa μ1 ∧ RP μ1 ∧ EP μ1 ∧ HP μ1 ∧ UP l D c H0 sa μ1 ∧ G1 μ1 ∧ (o_q = 0) ∧ True))) 407 [(0, .ref 106)] [] (mk w μ3595) 0 0 := by
                            intro μ3595 T3596 F3597 I3599 I3600 I3601 I3602 I3603 I3604
                            refine sv_aload_n (pc := 407) dX12_message_407 rfl rfl ?_
                            refine sv_aload_n (pc := 408) dX12_message_408 rfl rfl ?_
                            refine gf_X12_95 (pc := 409) dX12_message_409 wF_X12_478 (A_106 hw) T3596 ?_
                            refine mr_iconst (pc := 412) (z := 1) dX12_message_412 ?_
                            refine lk_172 (pc := 413) dX12_message_413 (A_172 hw) (rIx (n := 4) (rR (x := 1)) rfl) (F3597.f (A_172 hw) rfl (u3535.f (Or.inl (mAt.ne (A_106 hw) (A_172 hw) rfl)) q3528)) ?_
                            refine mr_ldc (pc := 414) (z := (-99999999)) dX12_message_414 wG_X12_29 (by decide) ?_
                            have J3617 : ∀ (z3615 : Int), ((0 ≤ z3615 ∧ z3615 ≤ 3)) → sV (gG l D c H0 sa) mX12_message (sRm 5 0 0) (sZ (gG l D c H0 sa) 0 0 (qI w [106001, 106088, 106091, 106093, 106096, 106097, 106098, 106099, 106101, 106102, 126999, 166999, 167999, 168999, 169999, 170999, 171999, 172999, 173999] μ (fun z μ1 => ∃ o_q : Int, μ1 106 1 = o_q ∧ ((-2147483648) ≤ z ∧ z ≤ 2147483647) ∧ mG [(960, 1000)] μ μ1 ∧ JC l D c H0 sa μ1 ∧ RP μ1 ∧ EP μ1 ∧ HP μ1 ∧ UP l D c H0 sa μ1 ∧ G1 μ1 ∧ (o_q = 0) ∧ True))) 454 [(0, .ref 106)] [iv z3615, .ref 106] (mk w μ3595) 0 0 := by
                              intro z3615 h3616
                              refine pf_X12_102 (pc := 454) dX12_message_454 wF_X12_668 (A_106 hw) T3596 h3616 fun μ3618 u3619 T3620 => ?_
                              refine sv_aload_n (pc := 457) dX12_message_457 rfl rfl ?_
                              refine gk_X12_102 (pc := 458) dX12_message_458 wF_X12_668 (A_106 hw) u3619.1 ?_
                              exact mr_iret dX12_message_461 rfl (le_t rfl) (le_t rfl) T3620 (mF.up (mF.call (mF.up (mF.up (mF.call (mF.up (mF.call (mF.up (mF.up (mF.up (mF.up (mF.up (mF.up (mF.up (mF.up (mF.call (mF.call mF.refl F1868 rfl) F2894 rfl) (A_106 hw) u2912 rfl) (A_106 hw) u2915 rfl) (A_106 hw) u2918 rfl) (A_106 hw) u2921 rfl) (A_106 hw) u2924 rfl) (A_106 hw) u2927 rfl) (A_126 hw) u2930 rfl) (A_126 hw) u2937 rfl) F3391 rfl) (A_106 hw) u3409 rfl) F3507 rfl) (A_106 hw) u3525 rfl) (A_106 hw) u3535 rfl) F3597 rfl) (A_106 hw) u3619 rfl) ⟨0, (u3619.f (Or.inr (by decide)) (F3597.f (A_106 hw) rfl (u3535.f (Or.inr (by decide)) u3525.1))), (rW (c := (-2147483648)) (d := 2147483647) h3616 rfl), (mG.upO (mG.fr (mG.upO (mG.upO (mG.call (mG.upO (mG.call (mG.up (mG.up (mG.upO (mG.upO (mG.upO (mG.upO (mG.upO (mG.upO (mG.fr (mG.fr mG.refl F1868 (A_126 hw) rfl) F2894 (A_126 hw) rfl) u2912 rfl) u2915 rfl) u2918 rfl) u2921 rfl) u2924 rfl) u2927 rfl) u2930 List.mem_cons_self vc_X12_message_v_13) u2937 List.mem_cons_self vc_X12_message_v_14) G3392 (List.forall_mem_cons.mpr ⟨⟨_, List.mem_cons_self, vc_X12_message_v_15⟩, (fun _ h => absurd h List.not_mem_nil)⟩)) u3409 rfl) G3508 (List.forall_mem_cons.mpr ⟨⟨_, List.mem_cons_self, vc_X12_message_v_15⟩, (fun _ h => absurd h List.not_mem_nil)⟩)) u3525 rfl) u3535 rfl) F3597 (A_126 hw) rfl) u3619 rfl), (JC.keepJ I3599 hw ((mF.up mF.refl (A_106 hw) u3619 rfl) : mF [106102] w μ3595 μ3618) rfl), (RP.keep I3600 hw ((mF.up mF.refl (A_106 hw) u3619 rfl) : mF [106102] w μ3595 μ3618) rfl ((mG.upO mG.refl u3619 rfl) : mG [] μ3595 μ3618) (fun _ h => absurd h List.not_mem_nil)), (EP.keep I3601 hw ((mF.up mF.refl (A_106 hw) u3619 rfl) : mF [106102] w μ3595 μ3618) rfl), (HP.keep I3602 hw ((mF.up mF.refl (A_106 hw) u3619 rfl) : mF [106102] w μ3595 μ3618) rfl ((mG.upO mG.refl u3619 rfl) : mG [] μ3595 μ3618) (fun _ h => absurd h List.not_mem_nil)), (UPg.fr I3603 hw T3620 rfl ((mF.up mF.refl (A_106 hw) u3619 rfl) : mF [106102] w μ3595 μ3618) rfl rfl rfl ((mG.upO mG.refl u3619 rfl) : mG [] μ3595 μ3618) (fun _ h => absurd h List.not_mem_nil)), (G1.keep I3604 hw ((mF.up mF.refl (A_106 hw) u3619 rfl) : mF [106102] w μ3595 μ3618) rfl rfl ((mG.upO mG.refl u3619 rfl) : mG [] μ3595 μ3618) (fun _ h => absurd h List.not_mem_nil)), vc_X3_forget_z_1, trivial⟩
                            refine mr_icmp_eq (pc := 416) (tgt := 423) dX12_message_416 (by decide) h3529 (r32 (rR (x := (-99999999))) rfl) (fun h3621 => ?_) (fun h3621 => ?_)
                            · have h3622 : (-99999999) ≤ z3527 ∧ z3527 ≤ (-99999999) := (vc_X12_judgedAnew_21 h3621 h3529)
                              refine sv_aload_n (pc := 423) dX12_message_423 rfl rfl ?_
                              refine gf_X12_95 (pc := 424) dX12_message_424 wF_X12_478 (A_106 hw) T3596 ?_
                              refine mr_iconst (pc := 427) (z := 2) dX12_message_427 ?_
                              refine la_172 (pc := 428) dX12_message_428 (A_172 hw) T3596 (rIx (n := 4) (rR (x := 2)) rfl) fun z3623 q3624 h3625 => ?_
                              refine mr_ldc (pc := 429) (z := (-99999999)) dX12_message_429 wG_X12_29 (by decide) ?_
                              refine mr_icmp_eq (pc := 431) (tgt := 438) dX12_message_431 (by decide) h3625 (r32 (rR (x := (-99999999))) rfl) (fun h3626 => ?_) (fun h3626 => ?_)
                              · have h3627 : (-99999999) ≤ z3623 ∧ z3623 ≤ (-99999999) := (vc_X12_judgedAnew_21 h3626 h3625)
                                refine sv_aload_n (pc := 438) dX12_message_438 rfl rfl ?_
                                refine gf_X12_95 (pc := 439) dX12_message_439 wF_X12_478 (A_106 hw) T3596 ?_
                                refine mr_iconst (pc := 442) (z := 3) dX12_message_442 ?_
                                refine la_172 (pc := 443) dX12_message_443 (A_172 hw) T3596 (rIx (n := 4) (rR (x := 3)) rfl) fun z3628 q3629 h3630 => ?_
                                refine mr_ldc (pc := 444) (z := (-99999999)) dX12_message_444 wG_X12_29 (by decide) ?_
                                refine mr_icmp_eq (pc := 446) (tgt := 453) dX12_message_446 (by decide) h3630 (r32 (rR (x := (-99999999))) rfl) (fun h3631 => ?_) (fun h3631 => ?_)
                                · have h3632 : (-99999999) ≤ z3628 ∧ z3628 ≤ (-99999999) := (vc_X12_judgedAnew_21 h3631 h3630)
                                  refine mr_iconst (pc := 453) (z := 0) dX12_message_453 ?_
                                  exact J3617 0 (rW (c := 0) (d := 3) (rR (x := 0)) rfl)
                                refine mr_iconst (pc := 449) (z := 3) dX12_message_449 ?_
                                refine sv_goto (pc := 450) (tgt := 454) dX12_message_450 (by decide) ?_
                                exact J3617 3 (rW (c := 0) (d := 3) (rR (x := 3)) rfl)
                              refine mr_iconst (pc := 434) (z := 2) dX12_message_434 ?_
                              refine sv_goto (pc := 435) (tgt := 454) dX12_message_435 (by decide) ?_
                              exact J3617 2 (rW (c := 0) (d := 3) (rR (x := 2)) rfl)
                            refine mr_iconst (pc := 419) (z := 1) dX12_message_419 ?_
                            refine sv_goto (pc := 420) (tgt := 454) dX12_message_420 (by decide) ?_
                            exact J3617 1 (rW (c := 0) (d := 3) (rR (x := 1)) rfl)
                          refine mr_if_ne (pc := 332) (tgt := 407) dX12_message_332 (by decide) (r32 h3532 rfl) (fun h3633 => ?_) (fun h3633 => ?_)
                          · have h3634 : 1 ≤ z3531 ∧ z3531 ≤ 1 := (vc_X12_ring_24 h3633 h3532)
                            exact J3605 μ3534 T3536 mF.refl (JC.keepJ I3509 hw ((mF.up (mF.up mF.refl (A_106 hw) u3525 rfl) (A_106 hw) u3535 rfl) : mF [106001, 106097] w μ3505 μ3534) rfl) (RP.keep I3510 hw ((mF.up (mF.up mF.refl (A_106 hw) u3525 rfl) (A_106 hw) u3535 rfl) : mF [106001, 106097] w μ3505 μ3534) rfl ((mG.upO (mG.upO mG.refl u3525 rfl) u3535 rfl) : mG [] μ3505 μ3534) (fun _ h => absurd h List.not_mem_nil)) (EP.keep I3511 hw ((mF.up (mF.up mF.refl (A_106 hw) u3525 rfl) (A_106 hw) u3535 rfl) : mF [106001, 106097] w μ3505 μ3534) rfl) (HP.keep I3512 hw ((mF.up (mF.up mF.refl (A_106 hw) u3525 rfl) (A_106 hw) u3535 rfl) : mF [106001, 106097] w μ3505 μ3534) rfl ((mG.upO (mG.upO mG.refl u3525 rfl) u3535 rfl) : mG [] μ3505 μ3534) (fun _ h => absurd h List.not_mem_nil)) (UPg.fr I3513 hw T3536 rfl ((mF.up (mF.up mF.refl (A_106 hw) u3525 rfl) (A_106 hw) u3535 rfl) : mF [106001, 106097] w μ3505 μ3534) rfl rfl rfl ((mG.upO (mG.upO mG.refl u3525 rfl) u3535 rfl) : mG [] μ3505 μ3534) (fun _ h => absurd h List.not_mem_nil)) (G1.keep I3514 hw ((mF.up (mF.up mF.refl (A_106 hw) u3525 rfl) (A_106 hw) u3535 rfl) : mF [106001, 106097] w μ3505 μ3534) rfl rfl ((mG.upO (mG.upO mG.refl u3525 rfl) u3535 rfl) : mG [] μ3505 μ3534) (fun _ h => absurd h List.not_mem_nil))
                          have h3635 : 0 ≤ z3531 ∧ z3531 ≤ 0 := (vc_X12_ring_22 h3633 h3532)
                          refine sv_aload_n (pc := 335) dX12_message_335 rfl rfl ?_
                          refine gf_X12_95 (pc := 336) dX12_message_336 wF_X12_478 (A_106 hw) T3536 ?_
                          refine mr_iconst (pc := 339) (z := 2) dX12_message_339 ?_
                          refine la_172 (pc := 340) dX12_message_340 (A_172 hw) T3536 (rIx (n := 4) (rR (x := 2)) rfl) fun z3636 q3637 h3638 => ?_
                          refine mr_ldc (pc := 341) (z := (-99999999)) dX12_message_341 wG_X12_29 (by decide) ?_
                          refine mr_icmp_eq (pc := 343) (tgt := 407) dX12_message_343 (by decide) h3638 (r32 (rR (x := (-99999999))) rfl) (fun h3639 => ?_) (fun h3639 => ?_)
                          · have h3640 : (-99999999) ≤ z3636 ∧ z3636 ≤ (-99999999) := (vc_X12_judgedAnew_21 h3639 h3638)
                            exact J3605 μ3534 T3536 mF.refl (JC.keepJ I3509 hw ((mF.up (mF.up mF.refl (A_106 hw) u3525 rfl) (A_106 hw) u3535 rfl) : mF [106001, 106097] w μ3505 μ3534) rfl) (RP.keep I3510 hw ((mF.up (mF.up mF.refl (A_106 hw) u3525 rfl) (A_106 hw) u3535 rfl) : mF [106001, 106097] w μ3505 μ3534) rfl ((mG.upO (mG.upO mG.refl u3525 rfl) u3535 rfl) : mG [] μ3505 μ3534) (fun _ h => absurd h List.not_mem_nil)) (EP.keep I3511 hw ((mF.up (mF.up mF.refl (A_106 hw) u3525 rfl) (A_106 hw) u3535 rfl) : mF [106001, 106097] w μ3505 μ3534) rfl) (HP.keep I3512 hw ((mF.up (mF.up mF.refl (A_106 hw) u3525 rfl) (A_106 hw) u3535 rfl) : mF [106001, 106097] w μ3505 μ3534) rfl ((mG.upO (mG.upO mG.refl u3525 rfl) u3535 rfl) : mG [] μ3505 μ3534) (fun _ h => absurd h List.not_mem_nil)) (UPg.fr I3513 hw T3536 rfl ((mF.up (mF.up mF.refl (A_106 hw) u3525 rfl) (A_106 hw) u3535 rfl) : mF [106001, 106097] w μ3505 μ3534) rfl rfl rfl ((mG.upO (mG.upO mG.refl u3525 rfl) u3535 rfl) : mG [] μ3505 μ3534) (fun _ h => absurd h List.not_mem_nil)) (G1.keep I3514 hw ((mF.up (mF.up mF.refl (A_106 hw) u3525 rfl) (A_106 hw) u3535 rfl) : mF [106001, 106097] w μ3505 μ3534) rfl rfl ((mG.upO (mG.upO mG.refl u3525 rfl) u3535 rfl) : mG [] μ3505 μ3534) (fun _ h => absurd h List.not_mem_nil))
                          refine mr_iconst (pc := 346) (z := 0) dX12_message_346 ?_
                          refine mr_istore_n (pc := 347) (lv' := [(3, iv 0), (0, .ref 106)]) dX12_message_347 rfl (by decide) rfl ?_
                          have L4293 : ∀ (nL4293 : Nat) (z4291 : Int) (μ4292 : mM) (f_g : Int) (f_c : Int), mT w μ4292 → mF [106088, 166999, 167999] w μ3534 μ4292 → μ4292 106 (88) = f_g → μ4292 106 (91) = f_c → (0 ≤ z4291 ∧ z4291 ≤ 1000) → (f_g + f_c ≤ 1000 + z4291) → (z4291 ≤ f_c) → JC l D c H0 sa μ4292 → RP μ4292 → EP μ4292 → HP μ4292 → UP l D c H0 sa μ4292 → G1 μ4292 → (1001 - z4291) < (nL4293 : Int) → sV (gG l D c H0 sa) mX12_message (sRm 5 0 0) (sZ (gG l D c H0 sa) 0 0 (qI w [106001, 106088, 106091, 106093, 106096, 106097, 106098, 106099, 106101, 106102, 126999, 166999, 167999, 168999, 169999, 170999, 171999, 172999, 173999] μ (fun z μ1 => ∃ o_q : Int, μ1 106 1 = o_q ∧ ((-2147483648) ≤ z ∧ z ≤ 2147483647) ∧ mG [(960, 1000)] μ μ1 ∧ JC l D c H0 sa μ1 ∧ RP μ1 ∧ EP μ1 ∧ HP μ1 ∧ UP l D c H0 sa μ1 ∧ G1 μ1 ∧ (o_q = 0) ∧ True))) 348 [(0, .ref 106), (3, iv z4291)] [] (mk w μ4292) 0 0 := by
                            intro nL4293
                            induction nL4293 with
                            | zero => intro z4291 μ4292 f_g f_c T4295 F4296 q4307 q4308 h4294 h4298 h4299 I4300 I4301 I4302 I4303 I4304 I4305 h4306; exact ((vc_X12_message_v_23 h4306 h4298 h4299 h4294)).elim
                            | succ nL4293 ih4309 =>
                              intro z4291 μ4292 f_g f_c T4295 F4296 q4307 q4308 h4294 h4298 h4299 I4300 I4301 I4302 I4303 I4304 I4305 h4306
                              have h4310 : (0 ≤ f_g ∧ f_g ≤ 1000) := by rw [← q4307]; exact T4295 106 106 (A_106 hw) (88)
                              have h4311 : (0 ≤ f_c ∧ f_c ≤ 1000) := by rw [← q4308]; exact T4295 106 106 (A_106 hw) (91)
                              refine mr_iload_n (pc := 348) (z := z4291) dX12_message_348 rfl rfl ?_
                              refine sv_aload_n (pc := 349) dX12_message_349 rfl rfl ?_
                              refine gk_X12_91 (pc := 350) dX12_message_350 wF_X12_628 (A_106 hw) q4308 ?_
                              refine mr_icmp_ge (pc := 353) (tgt := 402) dX12_message_353 (by decide) (r32 h4294 rfl) (r32 h4311 rfl) (fun h4329 => ?_) (fun h4329 => ?_)
                              · refine sv_aload_n (pc := 402) dX12_message_402 rfl rfl ?_
                                refine mr_iconst (pc := 403) (z := 0) dX12_message_403 ?_
                                refine pf_X12_91 (pc := 404) dX12_message_404 wF_X12_628 (A_106 hw) T4295 (rW (c := 0) (d := 1000) (rR (x := 0)) rfl) fun μ4330 u4331 T4332 => ?_
                                refine mr_lvS (lv' := [(0, .ref 106)]) (List.forall_mem_cons.mpr ⟨rfl, fun _ h => absurd h List.not_mem_nil⟩) ?_
                                exact J3605 μ4330 T4332 (mF.up (mF.call mF.refl F4296 rfl) (A_106 hw) u4331 rfl) (JC.keepJ I4300 hw ((mF.up mF.refl (A_106 hw) u4331 rfl) : mF [106091] w μ4292 μ4330) rfl) (RP.keep I4301 hw ((mF.up mF.refl (A_106 hw) u4331 rfl) : mF [106091] w μ4292 μ4330) rfl ((mG.upO mG.refl u4331 rfl) : mG [] μ4292 μ4330) (fun _ h => absurd h List.not_mem_nil)) (EP.keep I4302 hw ((mF.up mF.refl (A_106 hw) u4331 rfl) : mF [106091] w μ4292 μ4330) rfl) (HP.keep I4303 hw ((mF.up mF.refl (A_106 hw) u4331 rfl) : mF [106091] w μ4292 μ4330) rfl ((mG.upO mG.refl u4331 rfl) : mG [] μ4292 μ4330) (fun _ h => absurd h List.not_mem_nil)) (UPg.fr I4304 hw T4332 rfl ((mF.up mF.refl (A_106 hw) u4331 rfl) : mF [106091] w μ4292 μ4330) rfl rfl rfl ((mG.upO mG.refl u4331 rfl) : mG [] μ4292 μ4330) (fun _ h => absurd h List.not_mem_nil)) (G1.keep I4305 hw ((mF.up mF.refl (A_106 hw) u4331 rfl) : mF [106091] w μ4292 μ4330) rfl rfl ((mG.upO mG.refl u4331 rfl) : mG [] μ4292 μ4330) (fun _ h => absurd h List.not_mem_nil))
                              have h4333 : 0 ≤ z4291 ∧ z4291 ≤ 999 := (vc_X12_message_v_24 h4329 h4298 h4299 h4311 h4310 h4294)
                              have h4334 : 1 ≤ f_c ∧ f_c ≤ 1000 := (vc_X12_message_v_25 h4329 h4298 h4299 h4311 h4310 h4333)
                              refine sv_aload_n (pc := 356) dX12_message_356 rfl rfl ?_
                              refine gf_X12_86 (pc := 357) dX12_message_357 wF_X12_460 (A_106 hw) T4295 ?_
                              refine sv_aload_n (pc := 360) dX12_message_360 rfl rfl ?_
                              refine gk_X12_88 (pc := 361) dX12_message_361 wF_X12_625 (A_106 hw) q4307 ?_
                              refine sv_aload_n (pc := 364) dX12_message_364 rfl rfl ?_
                              refine gf_X12_89 (pc := 365) dX12_message_365 wF_X12_466 (A_106 hw) T4295 ?_
                              refine mr_iload_n (pc := 368) (z := z4291) dX12_message_368 rfl rfl ?_
                              refine la_168 (pc := 369) dX12_message_369 (A_168 hw) T4295 (rIx (n := 1000) h4333 rfl) fun z4335 q4336 h4337 => ?_
                              refine ss_166 (pc := 370) dX12_message_370 (A_166 hw) T4295 (vc_X12_message_v_26 h4298 h4299 h4329 h4334 h4310 h4333) h4337 fun μ4338 u4339 T4340 => ?_
                              refine sv_aload_n (pc := 371) dX12_message_371 rfl rfl ?_
                              refine gf_X12_87 (pc := 372) dX12_message_372 wF_X12_463 (A_106 hw) T4340 ?_
                              refine sv_aload_n (pc := 375) dX12_message_375 rfl rfl ?_
                              refine gk_X12_88 (pc := 376) dX12_message_376 wF_X12_625 (A_106 hw) (u4339.f (Or.inl (mAt.ne (A_166 hw) (A_106 hw) rfl)) q4307) ?_
                              refine sv_aload_n (pc := 379) dX12_message_379 rfl rfl ?_
                              refine gf_X12_90 (pc := 380) dX12_message_380 wF_X12_469 (A_106 hw) T4340 ?_
                              refine mr_iload_n (pc := 383) (z := z4291) dX12_message_383 rfl rfl ?_
                              refine la_169 (pc := 384) dX12_message_384 (A_169 hw) T4340 (rIx (n := 1000) h4333 rfl) fun z4341 q4342 h4343 => ?_
                              refine ss_167 (pc := 385) dX12_message_385 (A_167 hw) T4340 (vc_X12_message_v_26 h4298 h4299 h4329 h4334 h4310 h4333) h4343 fun μ4344 u4345 T4346 => ?_
                              refine sv_aload_n (pc := 386) dX12_message_386 rfl rfl ?_
                              refine sv_dup (pc := 387) dX12_message_387 rfl ?_
                              refine gk_X12_88 (pc := 388) dX12_message_388 wF_X12_625 (A_106 hw) (u4345.f (Or.inl (mAt.ne (A_167 hw) (A_106 hw) rfl)) (u4339.f (Or.inl (mAt.ne (A_166 hw) (A_106 hw) rfl)) q4307)) ?_
                              refine mr_iconst (pc := 391) (z := 1) dX12_message_391 ?_
                              refine mr_iadd (pc := 392) (x := f_g) (y := 1) dX12_message_392 ?_
                              refine pf_X12_88 (pc := 393) dX12_message_393 wF_X12_625 (A_106 hw) T4346 (vc_X12_message_v_27 h4298 h4299 h4329 h4334 h4310 h4333) fun μ4347 u4348 T4349 => ?_
                              refine mr_iinc (pc := 396) (lv' := [(3, iv (z4291 + 1)), (0, .ref 106)]) dX12_message_396 rfl (by decide) rfl ?_
                              refine sv_goto (pc := 399) (tgt := 348) dX12_message_399 (by decide) ?_
                              refine mr_lvS (lv' := [(0, .ref 106), (3, iv (z4291 + 1))]) (List.forall_mem_cons.mpr ⟨rfl, List.forall_mem_cons.mpr ⟨rfl, fun _ h => absurd h List.not_mem_nil⟩⟩) ?_
                              exact ih4309 (z4291 + 1) μ4347 (f_g + 1) f_c T4349 (mF.up (mF.up (mF.up (mF.call mF.refl F4296 rfl) (A_166 hw) u4339 rfl) (A_167 hw) u4345 rfl) (A_106 hw) u4348 rfl) u4348.1 (u4348.f (Or.inr (by decide)) (u4345.f (Or.inl (mAt.ne (A_167 hw) (A_106 hw) rfl)) (u4339.f (Or.inl (mAt.ne (A_166 hw) (A_106 hw) rfl)) q4308))) (rW (c := 0) (d := 1000) (rAdd (e := 1) (f := 1000) h4333 (rR (x := 1)) rfl) rfl) (vc_X12_message_v_28 h4298 h4299 h4329 h4334 h4310 h4333) (vc_X12_message_v_29 h4298 h4299 h4329 h4334 h4310 h4333) (JC.keepJ I4300 hw ((mF.up (mF.up (mF.up mF.refl (A_166 hw) u4339 rfl) (A_167 hw) u4345 rfl) (A_106 hw) u4348 rfl) : mF [106088, 166999, 167999] w μ4292 μ4347) rfl) (RP.keep I4301 hw ((mF.up (mF.up (mF.up mF.refl (A_166 hw) u4339 rfl) (A_167 hw) u4345 rfl) (A_106 hw) u4348 rfl) : mF [106088, 166999, 167999] w μ4292 μ4347) rfl ((mG.upO (mG.upO (mG.upO mG.refl u4339 rfl) u4345 rfl) u4348 rfl) : mG [] μ4292 μ4347) (fun _ h => absurd h List.not_mem_nil)) (EP.keep I4302 hw ((mF.up (mF.up (mF.up mF.refl (A_166 hw) u4339 rfl) (A_167 hw) u4345 rfl) (A_106 hw) u4348 rfl) : mF [106088, 166999, 167999] w μ4292 μ4347) rfl) (HP.keep I4303 hw ((mF.up (mF.up (mF.up mF.refl (A_166 hw) u4339 rfl) (A_167 hw) u4345 rfl) (A_106 hw) u4348 rfl) : mF [106088, 166999, 167999] w μ4292 μ4347) rfl ((mG.upO (mG.upO (mG.upO mG.refl u4339 rfl) u4345 rfl) u4348 rfl) : mG [] μ4292 μ4347) (fun _ h => absurd h List.not_mem_nil)) (UPg.fr I4304 hw T4349 rfl ((mF.up (mF.up (mF.up mF.refl (A_166 hw) u4339 rfl) (A_167 hw) u4345 rfl) (A_106 hw) u4348 rfl) : mF [106088, 166999, 167999] w μ4292 μ4347) rfl rfl rfl ((mG.upO (mG.upO (mG.upO mG.refl u4339 rfl) u4345 rfl) u4348 rfl) : mG [] μ4292 μ4347) (fun _ h => absurd h List.not_mem_nil)) (G1.keep I4305 hw ((mF.up (mF.up (mF.up mF.refl (A_166 hw) u4339 rfl) (A_167 hw) u4345 rfl) (A_106 hw) u4348 rfl) : mF [106088, 166999, 167999] w μ4292 μ4347) rfl rfl ((mG.upO (mG.upO (mG.upO mG.refl u4339 rfl) u4345 rfl) u4348 rfl) : mG [] μ4292 μ4347) (fun _ h => absurd h List.not_mem_nil)) (vc_X12_message_v_30 (nS h4306) h4298 h4299 h4329 h4334 h4310 h4333)
                          refine mr_lvS (lv' := [(0, .ref 106), (3, iv 0)]) (List.forall_mem_cons.mpr ⟨rfl, List.forall_mem_cons.mpr ⟨rfl, fun _ h => absurd h List.not_mem_nil⟩⟩) ?_
                          exact L4293 1002 0 μ3534 z3517 z3520 T3536 mF.refl (u3535.f (Or.inr (by decide)) (u3525.f (Or.inr (by decide)) q3518)) (u3535.f (Or.inr (by decide)) (u3525.f (Or.inr (by decide)) q3521)) (rW (c := 0) (d := 1000) (rR (x := 0)) rfl) (vc_X12_message_v_31 h3523 h3519 h3522) (vc_X12_message_v_32 h3523 h3519 h3522) (JC.keepJ I3509 hw ((mF.up (mF.up mF.refl (A_106 hw) u3525 rfl) (A_106 hw) u3535 rfl) : mF [106001, 106097] w μ3505 μ3534) rfl) (RP.keep I3510 hw ((mF.up (mF.up mF.refl (A_106 hw) u3525 rfl) (A_106 hw) u3535 rfl) : mF [106001, 106097] w μ3505 μ3534) rfl ((mG.upO (mG.upO mG.refl u3525 rfl) u3535 rfl) : mG [] μ3505 μ3534) (fun _ h => absurd h List.not_mem_nil)) (EP.keep I3511 hw ((mF.up (mF.up mF.refl (A_106 hw) u3525 rfl) (A_106 hw) u3535 rfl) : mF [106001, 106097] w μ3505 μ3534) rfl) (HP.keep I3512 hw ((mF.up (mF.up mF.refl (A_106 hw) u3525 rfl) (A_106 hw) u3535 rfl) : mF [106001, 106097] w μ3505 μ3534) rfl ((mG.upO (mG.upO mG.refl u3525 rfl) u3535 rfl) : mG [] μ3505 μ3534) (fun _ h => absurd h List.not_mem_nil)) (UPg.fr I3513 hw T3536 rfl ((mF.up (mF.up mF.refl (A_106 hw) u3525 rfl) (A_106 hw) u3535 rfl) : mF [106001, 106097] w μ3505 μ3534) rfl rfl rfl ((mG.upO (mG.upO mG.refl u3525 rfl) u3535 rfl) : mG [] μ3505 μ3534) (fun _ h => absurd h List.not_mem_nil)) (G1.keep I3514 hw ((mF.up (mF.up mF.refl (A_106 hw) u3525 rfl) (A_106 hw) u3535 rfl) : mF [106001, 106097] w μ3505 μ3534) rfl rfl ((mG.upO (mG.upO mG.refl u3525 rfl) u3535 rfl) : mG [] μ3505 μ3534) (fun _ h => absurd h List.not_mem_nil)) vc_X1_doActs_12_36
                        refine mr_icmp_eq (pc := 317) (tgt := 324) dX12_message_317 (by decide) h3529 (r32 (rR (x := (-99999999))) rfl) (fun h4350 => ?_) (fun h4350 => ?_)
                        · have h4351 : (-99999999) ≤ z3527 ∧ z3527 ≤ (-99999999) := (vc_X12_judgedAnew_21 h4350 h3529)
                          refine mr_iconst (pc := 324) (z := 0) dX12_message_324 ?_
                          exact J3533 0 (rW (c := 0) (d := 1) (rR (x := 0)) rfl)
                        refine mr_iconst (pc := 320) (z := 1) dX12_message_320 ?_
                        refine sv_goto (pc := 321) (tgt := 325) dX12_message_321 (by decide) ?_
                        exact J3533 1 (rW (c := 0) (d := 1) (rR (x := 1)) rfl)
                      refine mr_icmp_lt (pc := 146) (tgt := 159) dX12_message_146 (by decide) (r32 h3413 rfl) (r32 (rR (x := 2)) rfl) (fun h4352 => ?_) (fun h4352 => ?_)
                      · have h4353 : 0 ≤ z3411 ∧ z3411 ≤ 1 := (vc_X3_readParts_20 h4352 h3413)
                        refine sv_aload_n (pc := 159) dX12_message_159 rfl rfl ?_
                        refine mr_iconst (pc := 160) (z := 1) dX12_message_160 ?_
                        refine mr_iconst (pc := 161) (z := 0) dX12_message_161 ?_
                        refine mr_cVV (pc := 162) (c_X12_fails hw T3410 (rW (c := 0) (d := 3) (rR (x := 1)) rfl) (rW (c := (-2147483648)) (d := 2147483647) (rR (x := 0)) rfl)) (gOk _ _ _ _ _) dX12_message_162 (tX12_fails _ _ _ _ _) ⟨wV_X12_fails, wL_X12_fails⟩ wM_X12_620 (gCX12 _ _ _ _ _) rfl (A_106 hw) rfl ⟨le_t rfl, le_t rfl⟩ ⟨le_t rfl, le_t rfl⟩ rfl (le_t rfl) fun μ4354 T4355 F4356 h4357 => ?_
                        refine sv_goto (pc := 165) (tgt := 303) dX12_message_165 (by decide) ?_
                        refine mr_lvS (lv' := [(0, .ref 106)]) (List.forall_mem_cons.mpr ⟨rfl, fun _ h => absurd h List.not_mem_nil⟩) ?_
                        exact J3516 μ4354 T4355 (mF.call mF.refl F4356 rfl) (mG.fr mG.refl F4356 (A_126 hw) rfl) (JC.keepJ I3393 hw ((mF.call (mF.up mF.refl (A_106 hw) u3409 rfl) F4356 rfl) : mF [106096, 172999] w μ3387 μ4354) rfl) (RP.keep I3394 hw ((mF.call (mF.up mF.refl (A_106 hw) u3409 rfl) F4356 rfl) : mF [106096, 172999] w μ3387 μ4354) rfl ((mG.fr (mG.upO mG.refl u3409 rfl) F4356 (A_126 hw) rfl) : mG [] μ3387 μ4354) (fun _ h => absurd h List.not_mem_nil)) (EP.keep I3395 hw ((mF.call (mF.up mF.refl (A_106 hw) u3409 rfl) F4356 rfl) : mF [106096, 172999] w μ3387 μ4354) rfl) (HP.keep I3396 hw ((mF.call (mF.up mF.refl (A_106 hw) u3409 rfl) F4356 rfl) : mF [106096, 172999] w μ3387 μ4354) rfl ((mG.fr (mG.upO mG.refl u3409 rfl) F4356 (A_126 hw) rfl) : mG [] μ3387 μ4354) (fun _ h => absurd h List.not_mem_nil)) (UPg.fr I3397 hw T4355 rfl ((mF.call (mF.up mF.refl (A_106 hw) u3409 rfl) F4356 rfl) : mF [106096, 172999] w μ3387 μ4354) rfl rfl rfl ((mG.fr (mG.upO mG.refl u3409 rfl) F4356 (A_126 hw) rfl) : mG [] μ3387 μ4354) (fun _ h => absurd h List.not_mem_nil)) (G1.keep I3398 hw ((mF.call (mF.up mF.refl (A_106 hw) u3409 rfl) F4356 rfl) : mF [106096, 172999] w μ3387 μ4354) rfl rfl ((mG.fr (mG.upO mG.refl u3409 rfl) F4356 (A_126 hw) rfl) : mG [] μ3387 μ4354) (fun _ h => absurd h List.not_mem_nil)) (by rw [(F4356.f (A_106 hw) rfl (u3409.f (Or.inr (by decide)) (F3391.f (A_106 hw) rfl (u2937.f (Or.inl (mAt.ne (A_126 hw) (A_106 hw) rfl)) (u2930.f (Or.inl (mAt.ne (A_126 hw) (A_106 hw) rfl)) (u2927.f (Or.inr (by decide)) (u2924.f (Or.inr (by decide)) (u2921.f (Or.inr (by decide)) (u2918.f (Or.inr (by decide)) (u2915.f (Or.inr (by decide)) u2912.1)))))))))), (F4356.f (A_106 hw) rfl (u3409.f (Or.inr (by decide)) (F3391.f (A_106 hw) rfl (u2937.f (Or.inl (mAt.ne (A_126 hw) (A_106 hw) rfl)) (u2930.f (Or.inl (mAt.ne (A_126 hw) (A_106 hw) rfl)) (u2927.f (Or.inr (by decide)) (u2924.f (Or.inr (by decide)) (u2921.f (Or.inr (by decide)) (u2918.f (Or.inr (by decide)) u2915.1)))))))))]; exact vc_X12_message_v_35)
                      have h4358 : 2 ≤ z3411 ∧ z3411 ≤ 1000 := (vc_X3_readParts_21 h4352 h3413)
                      refine mr_iconst (pc := 149) (z := 2) dX12_message_149 ?_
                      refine mr_iload_n (pc := 150) (z := z3421) dX12_message_150 rfl rfl ?_
                      refine mr_iadd (pc := 151) (x := 2) (y := z3421) dX12_message_151 ?_
                      refine sv_aload_n (pc := 152) dX12_message_152 rfl rfl ?_
                      refine gk_X12_1 (pc := 153) dX12_message_153 wF_X12_1 (A_106 hw) q3412 ?_
                      refine mr_icmp_le (pc := 156) (tgt := 168) dX12_message_156 (by decide) (r32 (rAdd (e := 2) (f := 65537) (rR (x := 2)) h3422 rfl) rfl) (r32 h4358 rfl) (fun h4359 => ?_) (fun h4359 => ?_)
                      · have h4360 : 0 ≤ z3421 ∧ z3421 ≤ 998 := (vc_X12_message_v_37 h4359 h4352 h4358 h3422)
                        refine sv_aload_n (pc := 168) dX12_message_168 rfl rfl ?_
                        refine mr_iconst (pc := 169) (z := 2) dX12_message_169 ?_
                        refine mr_iconst (pc := 170) (z := 2) dX12_message_170 ?_
                        refine mr_iload_n (pc := 171) (z := z3421) dX12_message_171 rfl rfl ?_
                        refine mr_iadd (pc := 172) (x := 2) (y := z3421) dX12_message_172 ?_
                        refine mr_iconst (pc := 173) (z := 1) dX12_message_173 ?_
                        refine mr_cVI (pc := 174) (c_X12_partOf hw T3410 (rW (c := 0) (d := 1000) (rR (x := 2)) rfl) (rW (c := 0) (d := 1000) (rAdd (e := 2) (f := 1000) (rR (x := 2)) h4360 rfl) rfl) (rW (c := 0) (d := 1) (rR (x := 1)) rfl) q3412 (u3409.f (Or.inr (by decide)) (F3391.f (A_106 hw) rfl (u2937.f (Or.inl (mAt.ne (A_126 hw) (A_106 hw) rfl)) (u2930.f (Or.inl (mAt.ne (A_126 hw) (A_106 hw) rfl)) (u2927.f (Or.inr (by decide)) (u2924.f (Or.inr (by decide)) (u2921.f (Or.inr (by decide)) (u2918.f (Or.inr (by decide)) (u2915.f (Or.inr (by decide)) u2912.1))))))))) (u3409.f (Or.inr (by decide)) (F3391.f (A_106 hw) rfl (u2937.f (Or.inl (mAt.ne (A_126 hw) (A_106 hw) rfl)) (u2930.f (Or.inl (mAt.ne (A_126 hw) (A_106 hw) rfl)) (u2927.f (Or.inr (by decide)) (u2924.f (Or.inr (by decide)) (u2921.f (Or.inr (by decide)) (u2918.f (Or.inr (by decide)) u2915.1)))))))) (vc_X12_message_v_38 h4359 h4352 h4358 h4360) (vc_X12_message_v_39 h4352 h4359 h4358 h4360) (vc_X12_message_v_40 h4359 h4352 h4358 h4360)) (gOk _ _ _ _ _) dX12_message_174 (tX12_partOf _ _ _ _ _) ⟨wV_X12_partOf, wL_X12_partOf⟩ wM_X12_658 (gCX12 _ _ _ _ _) rfl (A_106 hw) rfl ⟨le_t rfl, le_t rfl⟩ ⟨le_t rfl, le_t rfl⟩ rfl (le_t rfl) fun z4365 μ4361 T4362 F4363 h4364 => ?_
                        obtain ⟨z4366, z4368, q4367, q4369, h4370⟩ := h4364
                        have h4371 : (0 ≤ z4366 ∧ z4366 ≤ 1000) := by rw [← q4367]; exact T4362 106 106 (A_106 hw) 88
                        have h4372 : (0 ≤ z4368 ∧ z4368 ≤ 1000) := by rw [← q4369]; exact T4362 106 106 (A_106 hw) 91
                        refine sv_pop (pc := 177) dX12_message_177 rfl ?_
                        refine mr_iconst (pc := 178) (z := 2) dX12_message_178 ?_
                        refine mr_iload_n (pc := 179) (z := z3421) dX12_message_179 rfl rfl ?_
                        refine mr_iadd (pc := 180) (x := 2) (y := z3421) dX12_message_180 ?_
                        refine mr_istore_n (pc := 181) (lv' := [(3, iv (2 + z3421)), (2, iv z3421), (0, .ref 106)]) dX12_message_181 rfl (by decide) rfl ?_
                        refine mr_iload_n (pc := 182) (z := (2 + z3421)) dX12_message_182 rfl rfl ?_
                        refine mr_iconst (pc := 183) (z := 2) dX12_message_183 ?_
                        refine mr_iadd (pc := 184) (x := (2 + z3421)) (y := 2) dX12_message_184 ?_
                        refine sv_aload_n (pc := 185) dX12_message_185 rfl rfl ?_
                        refine gk_X12_1 (pc := 186) dX12_message_186 wF_X12_1 (A_106 hw) (F4363.f (A_106 hw) rfl q3412) ?_
                        have J4382 : ∀ (z4380 : Int), ((0 ≤ z4380 ∧ z4380 ≤ 65535)) → sV (gG l D c H0 sa) mX12_message (sRm 5 0 0) (sZ (gG l D c H0 sa) 0 0 (qI w [106001, 106088, 106091, 106093, 106096, 106097, 106098, 106099, 106101, 106102, 126999, 166999, 167999, 168999, 169999, 170999, 171999, 172999, 173999] μ (fun z μ1 => ∃ o_q : Int, μ1 106 1 = o_q ∧ ((-2147483648) ≤ z ∧ z ≤ 2147483647) ∧ mG [(960, 1000)] μ μ1 ∧ JC l D c H0 sa μ1 ∧ RP μ1 ∧ EP μ1 ∧ HP μ1 ∧ UP l D c H0 sa μ1 ∧ G1 μ1 ∧ (o_q = 0) ∧ True))) 202 [(0, .ref 106), (3, iv (2 + z3421))] [iv z4380] (mk w μ4361) 0 0 := by
                          intro z4380 h4381
                          refine mr_istore (pc := 202) (lv' := [(4, iv z4380), (0, .ref 106), (3, iv (2 + z3421))]) dX12_message_202 (by decide) rfl ?_
                          refine mr_iload_n (pc := 204) (z := (2 + z3421)) dX12_message_204 rfl rfl ?_
                          refine mr_iconst (pc := 205) (z := 2) dX12_message_205 ?_
                          refine mr_iadd (pc := 206) (x := (2 + z3421)) (y := 2) dX12_message_206 ?_
                          refine sv_aload_n (pc := 207) dX12_message_207 rfl rfl ?_
                          refine gk_X12_1 (pc := 208) dX12_message_208 wF_X12_1 (A_106 hw) (F4363.f (A_106 hw) rfl q3412) ?_
                          refine mr_icmp_gt (pc := 211) (tgt := 227) dX12_message_211 (by decide) (r32 (rAdd (e := 4) (f := 1002) (rAdd (e := 2) (f := 1000) (rR (x := 2)) h4360 rfl) (rR (x := 2)) rfl) rfl) (r32 h4358 rfl) (fun h4383 => ?_) (fun h4383 => ?_)
                          · refine sv_aload_n (pc := 227) dX12_message_227 rfl rfl ?_
                            refine mr_iconst (pc := 228) (z := 1) dX12_message_228 ?_
                            refine mr_iload_n (pc := 229) (z := (2 + z3421)) dX12_message_229 rfl rfl ?_
                            refine mr_cVV (pc := 230) (c_X12_fails hw T4362 (rW (c := 0) (d := 3) (rR (x := 1)) rfl) (rW (c := (-2147483648)) (d := 2147483647) (rAdd (e := 2) (f := 1000) (rR (x := 2)) h4360 rfl) rfl)) (gOk _ _ _ _ _) dX12_message_230 (tX12_fails _ _ _ _ _) ⟨wV_X12_fails, wL_X12_fails⟩ wM_X12_620 (gCX12 _ _ _ _ _) rfl (A_106 hw) rfl ⟨le_t rfl, le_t rfl⟩ ⟨le_t rfl, le_t rfl⟩ rfl (le_t rfl) fun μ4384 T4385 F4386 h4387 => ?_
                            refine sv_goto (pc := 233) (tgt := 303) dX12_message_233 (by decide) ?_
                            refine mr_lvS (lv' := [(0, .ref 106)]) (List.forall_mem_cons.mpr ⟨rfl, fun _ h => absurd h List.not_mem_nil⟩) ?_
                            exact J3516 μ4384 T4385 (mF.call (mF.call mF.refl F4363 rfl) F4386 rfl) (mG.fr (mG.fr mG.refl F4363 (A_126 hw) rfl) F4386 (A_126 hw) rfl) (JC.keepJ I3393 hw ((mF.call (mF.call (mF.up mF.refl (A_106 hw) u3409 rfl) F4363 rfl) F4386 rfl) : mF [106088, 106091, 106096, 166999, 167999, 168999, 169999, 172999] w μ3387 μ4384) rfl) (RP.keep I3394 hw ((mF.call (mF.call (mF.up mF.refl (A_106 hw) u3409 rfl) F4363 rfl) F4386 rfl) : mF [106088, 106091, 106096, 166999, 167999, 168999, 169999, 172999] w μ3387 μ4384) rfl ((mG.fr (mG.fr (mG.upO mG.refl u3409 rfl) F4363 (A_126 hw) rfl) F4386 (A_126 hw) rfl) : mG [] μ3387 μ4384) (fun _ h => absurd h List.not_mem_nil)) (EP.keep I3395 hw ((mF.call (mF.call (mF.up mF.refl (A_106 hw) u3409 rfl) F4363 rfl) F4386 rfl) : mF [106088, 106091, 106096, 166999, 167999, 168999, 169999, 172999] w μ3387 μ4384) rfl) (HP.keep I3396 hw ((mF.call (mF.call (mF.up mF.refl (A_106 hw) u3409 rfl) F4363 rfl) F4386 rfl) : mF [106088, 106091, 106096, 166999, 167999, 168999, 169999, 172999] w μ3387 μ4384) rfl ((mG.fr (mG.fr (mG.upO mG.refl u3409 rfl) F4363 (A_126 hw) rfl) F4386 (A_126 hw) rfl) : mG [] μ3387 μ4384) (fun _ h => absurd h List.not_mem_nil)) (UPg.fr I3397 hw T4385 rfl ((mF.call (mF.call (mF.up mF.refl (A_106 hw) u3409 rfl) F4363 rfl) F4386 rfl) : mF [106088, 106091, 106096, 166999, 167999, 168999, 169999, 172999] w μ3387 μ4384) rfl rfl rfl ((mG.fr (mG.fr (mG.upO mG.refl u3409 rfl) F4363 (A_126 hw) rfl) F4386 (A_126 hw) rfl) : mG [] μ3387 μ4384) (fun _ h => absurd h List.not_mem_nil)) (G1.keep I3398 hw ((mF.call (mF.call (mF.up mF.refl (A_106 hw) u3409 rfl) F4363 rfl) F4386 rfl) : mF [106088, 106091, 106096, 166999, 167999, 168999, 169999, 172999] w μ3387 μ4384) rfl rfl ((mG.fr (mG.fr (mG.upO mG.refl u3409 rfl) F4363 (A_126 hw) rfl) F4386 (A_126 hw) rfl) : mG [] μ3387 μ4384) (fun _ h => absurd h List.not_mem_nil)) (by rw [(F4386.f (A_106 hw) rfl q4367), (F4386.f (A_106 hw) rfl q4369)]; exact (vc_X12_message_v_41 h4370.2.1 h4359 h4383 h4358 h4360 h4371 h4372))
                          have h4388 : 0 ≤ z3421 ∧ z3421 ≤ 996 := (vc_X12_message_v_42 h4383 h4352 h4359 h4370.2.1 h4358 h4360 h4371 h4372)
                          have h4389 : 4 ≤ z3411 ∧ z3411 ≤ 1000 := (vc_X12_message_v_43 h4383 h4352 h4359 h4370.2.1 h4358 h4388 h4371 h4372)
                          refine mr_iload_n (pc := 214) (z := (2 + z3421)) dX12_message_214 rfl rfl ?_
                          refine mr_iconst (pc := 215) (z := 2) dX12_message_215 ?_
                          refine mr_iadd (pc := 216) (x := (2 + z3421)) (y := 2) dX12_message_216 ?_
                          refine mr_iload (pc := 217) (z := z4380) dX12_message_217 rfl ?_
                          refine mr_iadd (pc := 219) (x := ((2 + z3421) + 2)) (y := z4380) dX12_message_219 ?_
                          refine sv_aload_n (pc := 220) dX12_message_220 rfl rfl ?_
                          refine gk_X12_1 (pc := 221) dX12_message_221 wF_X12_1 (A_106 hw) (F4363.f (A_106 hw) rfl q3412) ?_
                          refine mr_icmp_le (pc := 224) (tgt := 236) dX12_message_224 (by decide) (r32 (rAdd (e := 4) (f := 66535) (rAdd (e := 4) (f := 1000) (rAdd (e := 2) (f := 998) (rR (x := 2)) h4388 rfl) (rR (x := 2)) rfl) h4381 rfl) rfl) (r32 h4389 rfl) (fun h4390 => ?_) (fun h4390 => ?_)
                          · have h4391 : 0 ≤ z4380 ∧ z4380 ≤ 996 := (vc_X12_message_v_44 h4390 h4352 h4359 h4370.2.1 h4383 h4389 h4388 h4371 h4372 h4381)
                            refine sv_aload_n (pc := 236) dX12_message_236 rfl rfl ?_
                            refine mr_iload_n (pc := 237) (z := (2 + z3421)) dX12_message_237 rfl rfl ?_
                            refine mr_iconst (pc := 238) (z := 2) dX12_message_238 ?_
                            refine mr_iadd (pc := 239) (x := (2 + z3421)) (y := 2) dX12_message_239 ?_
                            refine mr_iload_n (pc := 240) (z := (2 + z3421)) dX12_message_240 rfl rfl ?_
                            refine mr_iconst (pc := 241) (z := 2) dX12_message_241 ?_
                            refine mr_iadd (pc := 242) (x := (2 + z3421)) (y := 2) dX12_message_242 ?_
                            refine mr_iload (pc := 243) (z := z4380) dX12_message_243 rfl ?_
                            refine mr_iadd (pc := 245) (x := ((2 + z3421) + 2)) (y := z4380) dX12_message_245 ?_
                            refine mr_cVV (pc := 246) (c_X12_attributes_u hw T4362 (rW (c := 0) (d := 1002) (rAdd (e := 4) (f := 1000) (rAdd (e := 2) (f := 998) (rR (x := 2)) h4388 rfl) (rR (x := 2)) rfl) rfl) (vc_X12_message_v_45 h4359 h4370.2.1 h4383 h4390 h4352 h4389 h4388 h4371 h4372 h4391) (F4363.f (A_106 hw) rfl q3412) (F4363.f (A_106 hw) rfl (u3409.f (Or.inr (by decide)) (F3391.f (A_106 hw) rfl (u2937.f (Or.inl (mAt.ne (A_126 hw) (A_106 hw) rfl)) (u2930.f (Or.inl (mAt.ne (A_126 hw) (A_106 hw) rfl)) (u2927.f (Or.inr (by decide)) (u2924.f (Or.inr (by decide)) (u2921.f (Or.inr (by decide)) u2918.1)))))))) (vc_X12_message_v_46 h4352 h4359 h4370.2.1 h4383 h4390 h4389 h4388 h4371 h4372 h4391) (vc_X12_message_v_47 h4359 h4370.2.1 h4383 h4390 h4352 h4389 h4388 h4371 h4372 h4391)) (gOk _ _ _ _ _) dX12_message_246 (tX12_attributes _ _ _ _ _) ⟨wV_X12_attributes, wL_X12_attributes⟩ wM_X12_662 (gCX12 _ _ _ _ _) rfl (A_106 hw) rfl ⟨le_t rfl, le_t rfl⟩ ⟨le_t rfl, le_t rfl⟩ rfl (le_t rfl) fun μ4392 T4393 F4394 h4395 => ?_
                            refine sv_aload_n (pc := 249) dX12_message_249 rfl rfl ?_
                            refine mr_iload_n (pc := 250) (z := (2 + z3421)) dX12_message_250 rfl rfl ?_
                            refine mr_iconst (pc := 251) (z := 2) dX12_message_251 ?_
                            refine mr_iadd (pc := 252) (x := (2 + z3421)) (y := 2) dX12_message_252 ?_
                            refine mr_iload (pc := 253) (z := z4380) dX12_message_253 rfl ?_
                            refine mr_iadd (pc := 255) (x := ((2 + z3421) + 2)) (y := z4380) dX12_message_255 ?_
                            refine sv_aload_n (pc := 256) dX12_message_256 rfl rfl ?_
                            refine gk_X12_1 (pc := 257) dX12_message_257 wF_X12_1 (A_106 hw) (F4394.f (A_106 hw) rfl (F4363.f (A_106 hw) rfl q3412)) ?_
                            refine mr_iconst (pc := 260) (z := 0) dX12_message_260 ?_
                            refine mr_cVI (pc := 261) (c_X12_partOf hw T4393 (vc_X12_message_v_45 h4359 h4370.2.1 h4383 h4390 h4352 h4389 h4388 h4371 h4372 h4391) (rW (c := 0) (d := 1000) h4389 rfl) (rW (c := 0) (d := 1) (rR (x := 0)) rfl) (F4394.f (A_106 hw) rfl (F4363.f (A_106 hw) rfl q3412)) (F4394.f (A_106 hw) rfl q4367) (F4394.f (A_106 hw) rfl q4369) (vc_X12_message_v_46 h4352 h4359 h4370.2.1 h4383 h4390 h4389 h4388 h4371 h4372 h4391) (vc_X12_message_v_48 h4352 h4359 h4383 h4390 h4370.2.1 h4389 h4388 h4371 h4372 h4391) (vc_X12_message_v_49 h4352 h4359 h4370.2.1 h4383 h4390 h4389 h4388 h4371 h4372 h4391)) (gOk _ _ _ _ _) dX12_message_261 (tX12_partOf _ _ _ _ _) ⟨wV_X12_partOf, wL_X12_partOf⟩ wM_X12_658 (gCX12 _ _ _ _ _) rfl (A_106 hw) rfl ⟨le_t rfl, le_t rfl⟩ ⟨le_t rfl, le_t rfl⟩ rfl (le_t rfl) fun z4400 μ4396 T4397 F4398 h4399 => ?_
                            obtain ⟨z4401, z4403, q4402, q4404, h4405⟩ := h4399
                            have h4406 : (0 ≤ z4401 ∧ z4401 ≤ 1000) := by rw [← q4402]; exact T4397 106 106 (A_106 hw) 88
                            have h4407 : (0 ≤ z4403 ∧ z4403 ≤ 1000) := by rw [← q4404]; exact T4397 106 106 (A_106 hw) 91
                            refine sv_pop (pc := 264) dX12_message_264 rfl ?_
                            refine sv_aload_n (pc := 265) dX12_message_265 rfl rfl ?_
                            refine gk_X12_1 (pc := 266) dX12_message_266 wF_X12_1 (A_106 hw) (F4398.f (A_106 hw) rfl (F4394.f (A_106 hw) rfl (F4363.f (A_106 hw) rfl q3412))) ?_
                            refine mr_iload_n (pc := 269) (z := (2 + z3421)) dX12_message_269 rfl rfl ?_
                            refine mr_iconst (pc := 270) (z := 2) dX12_message_270 ?_
                            refine mr_iadd (pc := 271) (x := (2 + z3421)) (y := 2) dX12_message_271 ?_
                            refine mr_iload (pc := 272) (z := z4380) dX12_message_272 rfl ?_
                            refine mr_iadd (pc := 274) (x := ((2 + z3421) + 2)) (y := z4380) dX12_message_274 ?_
                            refine mr_icmp_le (pc := 275) (tgt := 303) dX12_message_275 (by decide) (r32 h4389 rfl) (r32 (rAdd (e := 4) (f := 1996) (rAdd (e := 4) (f := 1000) (rAdd (e := 2) (f := 998) (rR (x := 2)) h4388 rfl) (rR (x := 2)) rfl) h4391 rfl) rfl) (fun h4408 => ?_) (fun h4408 => ?_)
                            · refine mr_lvS (lv' := [(0, .ref 106)]) (List.forall_mem_cons.mpr ⟨rfl, fun _ h => absurd h List.not_mem_nil⟩) ?_
                              exact J3516 μ4396 T4397 (mF.call (mF.call (mF.call mF.refl F4363 rfl) F4394 rfl) F4398 rfl) (mG.fr (mG.call (mG.fr mG.refl F4363 (A_126 hw) rfl) h4395.1 (List.forall_mem_cons.mpr ⟨⟨_, List.mem_cons_self, vc_X12_message_v_50⟩, (fun _ h => absurd h List.not_mem_nil)⟩)) F4398 (A_126 hw) rfl) (JC.keepJ I3393 hw ((mF.call (mF.call (mF.call (mF.up mF.refl (A_106 hw) u3409 rfl) F4363 rfl) F4394 rfl) F4398 rfl) : mF [106088, 106091, 106093, 106096, 106098, 106099, 106101, 126999, 166999, 167999, 168999, 169999, 170999, 171999, 172999, 173999] w μ3387 μ4396) rfl) (RP.keep I3394 hw ((mF.call (mF.call (mF.call (mF.up mF.refl (A_106 hw) u3409 rfl) F4363 rfl) F4394 rfl) F4398 rfl) : mF [106088, 106091, 106093, 106096, 106098, 106099, 106101, 126999, 166999, 167999, 168999, 169999, 170999, 171999, 172999, 173999] w μ3387 μ4396) rfl ((mG.fr (mG.call (mG.fr (mG.upO mG.refl u3409 rfl) F4363 (A_126 hw) rfl) h4395.1 (List.forall_mem_cons.mpr ⟨⟨_, List.mem_cons_self, vc_X12_marksRight_f_4⟩, (fun _ h => absurd h List.not_mem_nil)⟩)) F4398 (A_126 hw) rfl) : mG [(961, 1000)] μ3387 μ4396) (List.forall_mem_cons.mpr ⟨vc_X12_message_v_52, (fun _ h => absurd h List.not_mem_nil)⟩)) (EP.keep I3395 hw ((mF.call (mF.call (mF.call (mF.up mF.refl (A_106 hw) u3409 rfl) F4363 rfl) F4394 rfl) F4398 rfl) : mF [106088, 106091, 106093, 106096, 106098, 106099, 106101, 126999, 166999, 167999, 168999, 169999, 170999, 171999, 172999, 173999] w μ3387 μ4396) rfl) (HP.keep I3396 hw ((mF.call (mF.call (mF.call (mF.up mF.refl (A_106 hw) u3409 rfl) F4363 rfl) F4394 rfl) F4398 rfl) : mF [106088, 106091, 106093, 106096, 106098, 106099, 106101, 126999, 166999, 167999, 168999, 169999, 170999, 171999, 172999, 173999] w μ3387 μ4396) rfl ((mG.fr (mG.call (mG.fr (mG.upO mG.refl u3409 rfl) F4363 (A_126 hw) rfl) h4395.1 (List.forall_mem_cons.mpr ⟨⟨_, List.mem_cons_self, vc_X12_marksRight_f_4⟩, (fun _ h => absurd h List.not_mem_nil)⟩)) F4398 (A_126 hw) rfl) : mG [(961, 1000)] μ3387 μ4396) (List.forall_mem_cons.mpr ⟨vc_X12_message_v_53, (fun _ h => absurd h List.not_mem_nil)⟩)) (UPg.fr I3397 hw T4397 rfl ((mF.call (mF.call (mF.call (mF.up mF.refl (A_106 hw) u3409 rfl) F4363 rfl) F4394 rfl) F4398 rfl) : mF [106088, 106091, 106093, 106096, 106098, 106099, 106101, 126999, 166999, 167999, 168999, 169999, 170999, 171999, 172999, 173999] w μ3387 μ4396) rfl rfl rfl ((mG.fr (mG.call (mG.fr (mG.upO mG.refl u3409 rfl) F4363 (A_126 hw) rfl) h4395.1 (List.forall_mem_cons.mpr ⟨⟨_, List.mem_cons_self, vc_X12_marksRight_f_4⟩, (fun _ h => absurd h List.not_mem_nil)⟩)) F4398 (A_126 hw) rfl) : mG [(961, 1000)] μ3387 μ4396) (List.forall_mem_cons.mpr ⟨vc_X12_message_v_53, (fun _ h => absurd h List.not_mem_nil)⟩)) (G1.keep I3398 hw ((mF.call (mF.call (mF.call (mF.up mF.refl (A_106 hw) u3409 rfl) F4363 rfl) F4394 rfl) F4398 rfl) : mF [106088, 106091, 106093, 106096, 106098, 106099, 106101, 126999, 166999, 167999, 168999, 169999, 170999, 171999, 172999, 173999] w μ3387 μ4396) rfl rfl ((mG.fr (mG.call (mG.fr (mG.upO mG.refl u3409 rfl) F4363 (A_126 hw) rfl) h4395.1 (List.forall_mem_cons.mpr ⟨⟨_, List.mem_cons_self, vc_X12_marksRight_f_4⟩, (fun _ h => absurd h List.not_mem_nil)⟩)) F4398 (A_126 hw) rfl) : mG [(961, 1000)] μ3387 μ4396) (List.forall_mem_cons.mpr ⟨vc_X12_message_v_54, (fun _ h => absurd h List.not_mem_nil)⟩)) (by rw [q4402, q4404]; exact (vc_X12_message_v_55 h4405.2.1 h4352 h4359 h4370.2.1 h4383 h4390 h4408 h4389 h4388 h4371 h4372 h4391 h4406 h4407))
                            have h4409 : 5 ≤ z3411 ∧ z3411 ≤ 1000 := (vc_X12_message_v_56 h4408 h4352 h4359 h4370.2.1 h4383 h4390 h4405.2.1 h4389 h4388 h4371 h4372 h4391 h4406 h4407)
                            have h4410 : 0 ≤ z3421 ∧ z3421 ≤ 995 := (vc_X12_message_v_57 h4408 h4352 h4359 h4370.2.1 h4383 h4390 h4405.2.1 h4409 h4388 h4371 h4372 h4391 h4406 h4407)
                            have h4411 : 0 ≤ z4380 ∧ z4380 ≤ 995 := (vc_X12_message_v_58 h4408 h4352 h4359 h4370.2.1 h4383 h4390 h4405.2.1 h4409 h4410 h4371 h4372 h4391 h4406 h4407)
                            refine sv_aload_n (pc := 278) dX12_message_278 rfl rfl ?_
                            refine gf_X12_98 (pc := 279) dX12_message_279 wF_X12_631 (A_106 hw) T4397 fun z4412 q4413 h4414 => ?_
                            refine mr_if_eq (pc := 282) (tgt := 292) dX12_message_282 (by decide) (r32 h4414 rfl) (fun h4415 => ?_) (fun h4415 => ?_)
                            · have h4416 : 0 ≤ z4412 ∧ z4412 ≤ 0 := (vc_X12_ring_22 h4415 h4414)
                              refine sv_aload_n (pc := 292) dX12_message_292 rfl rfl ?_
                              refine mr_iconst (pc := 293) (z := 2) dX12_message_293 ?_
                              refine mr_iload_n (pc := 294) (z := (2 + z3421)) dX12_message_294 rfl rfl ?_
                              refine mr_iconst (pc := 295) (z := 2) dX12_message_295 ?_
                              refine mr_iadd (pc := 296) (x := (2 + z3421)) (y := 2) dX12_message_296 ?_
                              refine mr_iload (pc := 297) (z := z4380) dX12_message_297 rfl ?_
                              refine mr_iadd (pc := 299) (x := ((2 + z3421) + 2)) (y := z4380) dX12_message_299 ?_
                              refine mr_cVV (pc := 300) (c_X12_fails hw T4397 (rW (c := 0) (d := 3) (rR (x := 2)) rfl) (rW (c := (-2147483648)) (d := 2147483647) (rAdd (e := 4) (f := 1994) (rAdd (e := 4) (f := 999) (rAdd (e := 2) (f := 997) (rR (x := 2)) h4410 rfl) (rR (x := 2)) rfl) h4411 rfl) rfl)) (gOk _ _ _ _ _) dX12_message_300 (tX12_fails _ _ _ _ _) ⟨wV_X12_fails, wL_X12_fails⟩ wM_X12_620 (gCX12 _ _ _ _ _) rfl (A_106 hw) rfl ⟨le_t rfl, le_t rfl⟩ ⟨le_t rfl, le_t rfl⟩ rfl (le_t rfl) fun μ4417 T4418 F4419 h4420 => ?_
                              refine mr_lvS (lv' := [(0, .ref 106)]) (List.forall_mem_cons.mpr ⟨rfl, fun _ h => absurd h List.not_mem_nil⟩) ?_
                              exact J3516 μ4417 T4418 (mF.call (mF.call (mF.call (mF.call mF.refl F4363 rfl) F4394 rfl) F4398 rfl) F4419 rfl) (mG.fr (mG.fr (mG.call (mG.fr mG.refl F4363 (A_126 hw) rfl) h4395.1 (List.forall_mem_cons.mpr ⟨⟨_, List.mem_cons_self, vc_X12_message_v_50⟩, (fun _ h => absurd h List.not_mem_nil)⟩)) F4398 (A_126 hw) rfl) F4419 (A_126 hw) rfl) (JC.keepJ I3393 hw ((mF.call (mF.call (mF.call (mF.call (mF.up mF.refl (A_106 hw) u3409 rfl) F4363 rfl) F4394 rfl) F4398 rfl) F4419 rfl) : mF [106088, 106091, 106093, 106096, 106098, 106099, 106101, 126999, 166999, 167999, 168999, 169999, 170999, 171999, 172999, 173999] w μ3387 μ4417) rfl) (RP.keep I3394 hw ((mF.call (mF.call (mF.call (mF.call (mF.up mF.refl (A_106 hw) u3409 rfl) F4363 rfl) F4394 rfl) F4398 rfl) F4419 rfl) : mF [106088, 106091, 106093, 106096, 106098, 106099, 106101, 126999, 166999, 167999, 168999, 169999, 170999, 171999, 172999, 173999] w μ3387 μ4417) rfl ((mG.fr (mG.fr (mG.call (mG.fr (mG.upO mG.refl u3409 rfl) F4363 (A_126 hw) rfl) h4395.1 (List.forall_mem_cons.mpr ⟨⟨_, List.mem_cons_self, vc_X12_marksRight_f_4⟩, (fun _ h => absurd h List.not_mem_nil)⟩)) F4398 (A_126 hw) rfl) F4419 (A_126 hw) rfl) : mG [(961, 1000)] μ3387 μ4417) (List.forall_mem_cons.mpr ⟨vc_X12_message_v_52, (fun _ h => absurd h List.not_mem_nil)⟩)) (EP.keep I3395 hw ((mF.call (mF.call (mF.call (mF.call (mF.up mF.refl (A_106 hw) u3409 rfl) F4363 rfl) F4394 rfl) F4398 rfl) F4419 rfl) : mF [106088, 106091, 106093, 106096, 106098, 106099, 106101, 126999, 166999, 167999, 168999, 169999, 170999, 171999, 172999, 173999] w μ3387 μ4417) rfl) (HP.keep I3396 hw ((mF.call (mF.call (mF.call (mF.call (mF.up mF.refl (A_106 hw) u3409 rfl) F4363 rfl) F4394 rfl) F4398 rfl) F4419 rfl) : mF [106088, 106091, 106093, 106096, 106098, 106099, 106101, 126999, 166999, 167999, 168999, 169999, 170999, 171999, 172999, 173999] w μ3387 μ4417) rfl ((mG.fr (mG.fr (mG.call (mG.fr (mG.upO mG.refl u3409 rfl) F4363 (A_126 hw) rfl) h4395.1 (List.forall_mem_cons.mpr ⟨⟨_, List.mem_cons_self, vc_X12_marksRight_f_4⟩, (fun _ h => absurd h List.not_mem_nil)⟩)) F4398 (A_126 hw) rfl) F4419 (A_126 hw) rfl) : mG [(961, 1000)] μ3387 μ4417) (List.forall_mem_cons.mpr ⟨vc_X12_message_v_53, (fun _ h => absurd h List.not_mem_nil)⟩)) (UPg.fr I3397 hw T4418 rfl ((mF.call (mF.call (mF.call (mF.call (mF.up mF.refl (A_106 hw) u3409 rfl) F4363 rfl) F4394 rfl) F4398 rfl) F4419 rfl) : mF [106088, 106091, 106093, 106096, 106098, 106099, 106101, 126999, 166999, 167999, 168999, 169999, 170999, 171999, 172999, 173999] w μ3387 μ4417) rfl rfl rfl ((mG.fr (mG.fr (mG.call (mG.fr (mG.upO mG.refl u3409 rfl) F4363 (A_126 hw) rfl) h4395.1 (List.forall_mem_cons.mpr ⟨⟨_, List.mem_cons_self, vc_X12_marksRight_f_4⟩, (fun _ h => absurd h List.not_mem_nil)⟩)) F4398 (A_126 hw) rfl) F4419 (A_126 hw) rfl) : mG [(961, 1000)] μ3387 μ4417) (List.forall_mem_cons.mpr ⟨vc_X12_message_v_53, (fun _ h => absurd h List.not_mem_nil)⟩)) (G1.keep I3398 hw ((mF.call (mF.call (mF.call (mF.call (mF.up mF.refl (A_106 hw) u3409 rfl) F4363 rfl) F4394 rfl) F4398 rfl) F4419 rfl) : mF [106088, 106091, 106093, 106096, 106098, 106099, 106101, 126999, 166999, 167999, 168999, 169999, 170999, 171999, 172999, 173999] w μ3387 μ4417) rfl rfl ((mG.fr (mG.fr (mG.call (mG.fr (mG.upO mG.refl u3409 rfl) F4363 (A_126 hw) rfl) h4395.1 (List.forall_mem_cons.mpr ⟨⟨_, List.mem_cons_self, vc_X12_marksRight_f_4⟩, (fun _ h => absurd h List.not_mem_nil)⟩)) F4398 (A_126 hw) rfl) F4419 (A_126 hw) rfl) : mG [(961, 1000)] μ3387 μ4417) (List.forall_mem_cons.mpr ⟨vc_X12_message_v_54, (fun _ h => absurd h List.not_mem_nil)⟩)) (by rw [(F4419.f (A_106 hw) rfl q4402), (F4419.f (A_106 hw) rfl q4404)]; exact (vc_X12_message_v_60 h4405.2.1 h4352 h4359 h4370.2.1 h4383 h4390 h4408 h4409 h4410 h4371 h4372 h4411 h4406 h4407))
                            have h4421 : 1 ≤ z4412 ∧ z4412 ≤ 1 := (vc_X12_ring_24 h4415 h4414)
                            refine sv_aload_n (pc := 285) dX12_message_285 rfl rfl ?_
                            refine gf_X12_99 (pc := 286) dX12_message_286 wF_X12_634 (A_106 hw) T4397 fun z4422 q4423 h4424 => ?_
                            refine mr_if_ne (pc := 289) (tgt := 303) dX12_message_289 (by decide) (r32 h4424 rfl) (fun h4425 => ?_) (fun h4425 => ?_)
                            · have h4426 : 1 ≤ z4422 ∧ z4422 ≤ 1 := (vc_X12_ring_24 h4425 h4424)
                              refine mr_lvS (lv' := [(0, .ref 106)]) (List.forall_mem_cons.mpr ⟨rfl, fun _ h => absurd h List.not_mem_nil⟩) ?_
                              exact J3516 μ4396 T4397 (mF.call (mF.call (mF.call mF.refl F4363 rfl) F4394 rfl) F4398 rfl) (mG.fr (mG.call (mG.fr mG.refl F4363 (A_126 hw) rfl) h4395.1 (List.forall_mem_cons.mpr ⟨⟨_, List.mem_cons_self, vc_X12_message_v_50⟩, (fun _ h => absurd h List.not_mem_nil)⟩)) F4398 (A_126 hw) rfl) (JC.keepJ I3393 hw ((mF.call (mF.call (mF.call (mF.up mF.refl (A_106 hw) u3409 rfl) F4363 rfl) F4394 rfl) F4398 rfl) : mF [106088, 106091, 106093, 106096, 106098, 106099, 106101, 126999, 166999, 167999, 168999, 169999, 170999, 171999, 172999, 173999] w μ3387 μ4396) rfl) (RP.keep I3394 hw ((mF.call (mF.call (mF.call (mF.up mF.refl (A_106 hw) u3409 rfl) F4363 rfl) F4394 rfl) F4398 rfl) : mF [106088, 106091, 106093, 106096, 106098, 106099, 106101, 126999, 166999, 167999, 168999, 169999, 170999, 171999, 172999, 173999] w μ3387 μ4396) rfl ((mG.fr (mG.call (mG.fr (mG.upO mG.refl u3409 rfl) F4363 (A_126 hw) rfl) h4395.1 (List.forall_mem_cons.mpr ⟨⟨_, List.mem_cons_self, vc_X12_marksRight_f_4⟩, (fun _ h => absurd h List.not_mem_nil)⟩)) F4398 (A_126 hw) rfl) : mG [(961, 1000)] μ3387 μ4396) (List.forall_mem_cons.mpr ⟨vc_X12_message_v_52, (fun _ h => absurd h List.not_mem_nil)⟩)) (EP.keep I3395 hw ((mF.call (mF.call (mF.call (mF.up mF.refl (A_106 hw) u3409 rfl) F4363 rfl) F4394 rfl) F4398 rfl) : mF [106088, 106091, 106093, 106096, 106098, 106099, 106101, 126999, 166999, 167999, 168999, 169999, 170999, 171999, 172999, 173999] w μ3387 μ4396) rfl) (HP.keep I3396 hw ((mF.call (mF.call (mF.call (mF.up mF.refl (A_106 hw) u3409 rfl) F4363 rfl) F4394 rfl) F4398 rfl) : mF [106088, 106091, 106093, 106096, 106098, 106099, 106101, 126999, 166999, 167999, 168999, 169999, 170999, 171999, 172999, 173999] w μ3387 μ4396) rfl ((mG.fr (mG.call (mG.fr (mG.upO mG.refl u3409 rfl) F4363 (A_126 hw) rfl) h4395.1 (List.forall_mem_cons.mpr ⟨⟨_, List.mem_cons_self, vc_X12_marksRight_f_4⟩, (fun _ h => absurd h List.not_mem_nil)⟩)) F4398 (A_126 hw) rfl) : mG [(961, 1000)] μ3387 μ4396) (List.forall_mem_cons.mpr ⟨vc_X12_message_v_53, (fun _ h => absurd h List.not_mem_nil)⟩)) (UPg.fr I3397 hw T4397 rfl ((mF.call (mF.call (mF.call (mF.up mF.refl (A_106 hw) u3409 rfl) F4363 rfl) F4394 rfl) F4398 rfl) : mF [106088, 106091, 106093, 106096, 106098, 106099, 106101, 126999, 166999, 167999, 168999, 169999, 170999, 171999, 172999, 173999] w μ3387 μ4396) rfl rfl rfl ((mG.fr (mG.call (mG.fr (mG.upO mG.refl u3409 rfl) F4363 (A_126 hw) rfl) h4395.1 (List.forall_mem_cons.mpr ⟨⟨_, List.mem_cons_self, vc_X12_marksRight_f_4⟩, (fun _ h => absurd h List.not_mem_nil)⟩)) F4398 (A_126 hw) rfl) : mG [(961, 1000)] μ3387 μ4396) (List.forall_mem_cons.mpr ⟨vc_X12_message_v_53, (fun _ h => absurd h List.not_mem_nil)⟩)) (G1.keep I3398 hw ((mF.call (mF.call (mF.call (mF.up mF.refl (A_106 hw) u3409 rfl) F4363 rfl) F4394 rfl) F4398 rfl) : mF [106088, 106091, 106093, 106096, 106098, 106099, 106101, 126999, 166999, 167999, 168999, 169999, 170999, 171999, 172999, 173999] w μ3387 μ4396) rfl rfl ((mG.fr (mG.call (mG.fr (mG.upO mG.refl u3409 rfl) F4363 (A_126 hw) rfl) h4395.1 (List.forall_mem_cons.mpr ⟨⟨_, List.mem_cons_self, vc_X12_marksRight_f_4⟩, (fun _ h => absurd h List.not_mem_nil)⟩)) F4398 (A_126 hw) rfl) : mG [(961, 1000)] μ3387 μ4396) (List.forall_mem_cons.mpr ⟨vc_X12_message_v_54, (fun _ h => absurd h List.not_mem_nil)⟩)) (by rw [q4402, q4404]; exact (vc_X12_message_v_60 h4405.2.1 h4352 h4359 h4370.2.1 h4383 h4390 h4408 h4409 h4410 h4371 h4372 h4411 h4406 h4407))
                            have h4427 : 0 ≤ z4422 ∧ z4422 ≤ 0 := (vc_X12_ring_22 h4425 h4424)
                            refine sv_aload_n (pc := 292) dX12_message_292 rfl rfl ?_
                            refine mr_iconst (pc := 293) (z := 2) dX12_message_293 ?_
                            refine mr_iload_n (pc := 294) (z := (2 + z3421)) dX12_message_294 rfl rfl ?_
                            refine mr_iconst (pc := 295) (z := 2) dX12_message_295 ?_
                            refine mr_iadd (pc := 296) (x := (2 + z3421)) (y := 2) dX12_message_296 ?_
                            refine mr_iload (pc := 297) (z := z4380) dX12_message_297 rfl ?_
                            refine mr_iadd (pc := 299) (x := ((2 + z3421) + 2)) (y := z4380) dX12_message_299 ?_
                            refine mr_cVV (pc := 300) (c_X12_fails hw T4397 (rW (c := 0) (d := 3) (rR (x := 2)) rfl) (rW (c := (-2147483648)) (d := 2147483647) (rAdd (e := 4) (f := 1994) (rAdd (e := 4) (f := 999) (rAdd (e := 2) (f := 997) (rR (x := 2)) h4410 rfl) (rR (x := 2)) rfl) h4411 rfl) rfl)) (gOk _ _ _ _ _) dX12_message_300 (tX12_fails _ _ _ _ _) ⟨wV_X12_fails, wL_X12_fails⟩ wM_X12_620 (gCX12 _ _ _ _ _) rfl (A_106 hw) rfl ⟨le_t rfl, le_t rfl⟩ ⟨le_t rfl, le_t rfl⟩ rfl (le_t rfl) fun μ4428 T4429 F4430 h4431 => ?_
                            refine mr_lvS (lv' := [(0, .ref 106)]) (List.forall_mem_cons.mpr ⟨rfl, fun _ h => absurd h List.not_mem_nil⟩) ?_
                            exact J3516 μ4428 T4429 (mF.call (mF.call (mF.call (mF.call mF.refl F4363 rfl) F4394 rfl) F4398 rfl) F4430 rfl) (mG.fr (mG.fr (mG.call (mG.fr mG.refl F4363 (A_126 hw) rfl) h4395.1 (List.forall_mem_cons.mpr ⟨⟨_, List.mem_cons_self, vc_X12_message_v_50⟩, (fun _ h => absurd h List.not_mem_nil)⟩)) F4398 (A_126 hw) rfl) F4430 (A_126 hw) rfl) (JC.keepJ I3393 hw ((mF.call (mF.call (mF.call (mF.call (mF.up mF.refl (A_106 hw) u3409 rfl) F4363 rfl) F4394 rfl) F4398 rfl) F4430 rfl) : mF [106088, 106091, 106093, 106096, 106098, 106099, 106101, 126999, 166999, 167999, 168999, 169999, 170999, 171999, 172999, 173999] w μ3387 μ4428) rfl) (RP.keep I3394 hw ((mF.call (mF.call (mF.call (mF.call (mF.up mF.refl (A_106 hw) u3409 rfl) F4363 rfl) F4394 rfl) F4398 rfl) F4430 rfl) : mF [106088, 106091, 106093, 106096, 106098, 106099, 106101, 126999, 166999, 167999, 168999, 169999, 170999, 171999, 172999, 173999] w μ3387 μ4428) rfl ((mG.fr (mG.fr (mG.call (mG.fr (mG.upO mG.refl u3409 rfl) F4363 (A_126 hw) rfl) h4395.1 (List.forall_mem_cons.mpr ⟨⟨_, List.mem_cons_self, vc_X12_marksRight_f_4⟩, (fun _ h => absurd h List.not_mem_nil)⟩)) F4398 (A_126 hw) rfl) F4430 (A_126 hw) rfl) : mG [(961, 1000)] μ3387 μ4428) (List.forall_mem_cons.mpr ⟨vc_X12_message_v_52, (fun _ h => absurd h List.not_mem_nil)⟩)) (EP.keep I3395 hw ((mF.call (mF.call (mF.call (mF.call (mF.up mF.refl (A_106 hw) u3409 rfl) F4363 rfl) F4394 rfl) F4398 rfl) F4430 rfl) : mF [106088, 106091, 106093, 106096, 106098, 106099, 106101, 126999, 166999, 167999, 168999, 169999, 170999, 171999, 172999, 173999] w μ3387 μ4428) rfl) (HP.keep I3396 hw ((mF.call (mF.call (mF.call (mF.call (mF.up mF.refl (A_106 hw) u3409 rfl) F4363 rfl) F4394 rfl) F4398 rfl) F4430 rfl) : mF [106088, 106091, 106093, 106096, 106098, 106099, 106101, 126999, 166999, 167999, 168999, 169999, 170999, 171999, 172999, 173999] w μ3387 μ4428) rfl ((mG.fr (mG.fr (mG.call (mG.fr (mG.upO mG.refl u3409 rfl) F4363 (A_126 hw) rfl) h4395.1 (List.forall_mem_cons.mpr ⟨⟨_, List.mem_cons_self, vc_X12_marksRight_f_4⟩, (fun _ h => absurd h List.not_mem_nil)⟩)) F4398 (A_126 hw) rfl) F4430 (A_126 hw) rfl) : mG [(961, 1000)] μ3387 μ4428) (List.forall_mem_cons.mpr ⟨vc_X12_message_v_53, (fun _ h => absurd h List.not_mem_nil)⟩)) (UPg.fr I3397 hw T4429 rfl ((mF.call (mF.call (mF.call (mF.call (mF.up mF.refl (A_106 hw) u3409 rfl) F4363 rfl) F4394 rfl) F4398 rfl) F4430 rfl) : mF [106088, 106091, 106093, 106096, 106098, 106099, 106101, 126999, 166999, 167999, 168999, 169999, 170999, 171999, 172999, 173999] w μ3387 μ4428) rfl rfl rfl ((mG.fr (mG.fr (mG.call (mG.fr (mG.upO mG.refl u3409 rfl) F4363 (A_126 hw) rfl) h4395.1 (List.forall_mem_cons.mpr ⟨⟨_, List.mem_cons_self, vc_X12_marksRight_f_4⟩, (fun _ h => absurd h List.not_mem_nil)⟩)) F4398 (A_126 hw) rfl) F4430 (A_126 hw) rfl) : mG [(961, 1000)] μ3387 μ4428) (List.forall_mem_cons.mpr ⟨vc_X12_message_v_53, (fun _ h => absurd h List.not_mem_nil)⟩)) (G1.keep I3398 hw ((mF.call (mF.call (mF.call (mF.call (mF.up mF.refl (A_106 hw) u3409 rfl) F4363 rfl) F4394 rfl) F4398 rfl) F4430 rfl) : mF [106088, 106091, 106093, 106096, 106098, 106099, 106101, 126999, 166999, 167999, 168999, 169999, 170999, 171999, 172999, 173999] w μ3387 μ4428) rfl rfl ((mG.fr (mG.fr (mG.call (mG.fr (mG.upO mG.refl u3409 rfl) F4363 (A_126 hw) rfl) h4395.1 (List.forall_mem_cons.mpr ⟨⟨_, List.mem_cons_self, vc_X12_marksRight_f_4⟩, (fun _ h => absurd h List.not_mem_nil)⟩)) F4398 (A_126 hw) rfl) F4430 (A_126 hw) rfl) : mG [(961, 1000)] μ3387 μ4428) (List.forall_mem_cons.mpr ⟨vc_X12_message_v_54, (fun _ h => absurd h List.not_mem_nil)⟩)) (by rw [(F4430.f (A_106 hw) rfl q4402), (F4430.f (A_106 hw) rfl q4404)]; exact (vc_X12_message_v_60 h4405.2.1 h4352 h4359 h4370.2.1 h4383 h4390 h4408 h4409 h4410 h4371 h4372 h4411 h4406 h4407))
                          refine sv_aload_n (pc := 227) dX12_message_227 rfl rfl ?_
                          refine mr_iconst (pc := 228) (z := 1) dX12_message_228 ?_
                          refine mr_iload_n (pc := 229) (z := (2 + z3421)) dX12_message_229 rfl rfl ?_
                          refine mr_cVV (pc := 230) (c_X12_fails hw T4362 (rW (c := 0) (d := 3) (rR (x := 1)) rfl) (rW (c := (-2147483648)) (d := 2147483647) (rAdd (e := 2) (f := 998) (rR (x := 2)) h4388 rfl) rfl)) (gOk _ _ _ _ _) dX12_message_230 (tX12_fails _ _ _ _ _) ⟨wV_X12_fails, wL_X12_fails⟩ wM_X12_620 (gCX12 _ _ _ _ _) rfl (A_106 hw) rfl ⟨le_t rfl, le_t rfl⟩ ⟨le_t rfl, le_t rfl⟩ rfl (le_t rfl) fun μ4432 T4433 F4434 h4435 => ?_
                          refine sv_goto (pc := 233) (tgt := 303) dX12_message_233 (by decide) ?_
                          refine mr_lvS (lv' := [(0, .ref 106)]) (List.forall_mem_cons.mpr ⟨rfl, fun _ h => absurd h List.not_mem_nil⟩) ?_
                          exact J3516 μ4432 T4433 (mF.call (mF.call mF.refl F4363 rfl) F4434 rfl) (mG.fr (mG.fr mG.refl F4363 (A_126 hw) rfl) F4434 (A_126 hw) rfl) (JC.keepJ I3393 hw ((mF.call (mF.call (mF.up mF.refl (A_106 hw) u3409 rfl) F4363 rfl) F4434 rfl) : mF [106088, 106091, 106096, 166999, 167999, 168999, 169999, 172999] w μ3387 μ4432) rfl) (RP.keep I3394 hw ((mF.call (mF.call (mF.up mF.refl (A_106 hw) u3409 rfl) F4363 rfl) F4434 rfl) : mF [106088, 106091, 106096, 166999, 167999, 168999, 169999, 172999] w μ3387 μ4432) rfl ((mG.fr (mG.fr (mG.upO mG.refl u3409 rfl) F4363 (A_126 hw) rfl) F4434 (A_126 hw) rfl) : mG [] μ3387 μ4432) (fun _ h => absurd h List.not_mem_nil)) (EP.keep I3395 hw ((mF.call (mF.call (mF.up mF.refl (A_106 hw) u3409 rfl) F4363 rfl) F4434 rfl) : mF [106088, 106091, 106096, 166999, 167999, 168999, 169999, 172999] w μ3387 μ4432) rfl) (HP.keep I3396 hw ((mF.call (mF.call (mF.up mF.refl (A_106 hw) u3409 rfl) F4363 rfl) F4434 rfl) : mF [106088, 106091, 106096, 166999, 167999, 168999, 169999, 172999] w μ3387 μ4432) rfl ((mG.fr (mG.fr (mG.upO mG.refl u3409 rfl) F4363 (A_126 hw) rfl) F4434 (A_126 hw) rfl) : mG [] μ3387 μ4432) (fun _ h => absurd h List.not_mem_nil)) (UPg.fr I3397 hw T4433 rfl ((mF.call (mF.call (mF.up mF.refl (A_106 hw) u3409 rfl) F4363 rfl) F4434 rfl) : mF [106088, 106091, 106096, 166999, 167999, 168999, 169999, 172999] w μ3387 μ4432) rfl rfl rfl ((mG.fr (mG.fr (mG.upO mG.refl u3409 rfl) F4363 (A_126 hw) rfl) F4434 (A_126 hw) rfl) : mG [] μ3387 μ4432) (fun _ h => absurd h List.not_mem_nil)) (G1.keep I3398 hw ((mF.call (mF.call (mF.up mF.refl (A_106 hw) u3409 rfl) F4363 rfl) F4434 rfl) : mF [106088, 106091, 106096, 166999, 167999, 168999, 169999, 172999] w μ3387 μ4432) rfl rfl ((mG.fr (mG.fr (mG.upO mG.refl u3409 rfl) F4363 (A_126 hw) rfl) F4434 (A_126 hw) rfl) : mG [] μ3387 μ4432) (fun _ h => absurd h List.not_mem_nil)) (by rw [(F4434.f (A_106 hw) rfl q4367), (F4434.f (A_106 hw) rfl q4369)]; exact (vc_X12_message_v_64 h4370.2.1 h4359 h4383 h4390 h4389 h4388 h4371 h4372 h4381))
                        refine mr_icmp_gt (pc := 189) (tgt := 201) dX12_message_189 (by decide) (r32 (rAdd (e := 4) (f := 1002) (rAdd (e := 2) (f := 1000) (rR (x := 2)) h4360 rfl) (rR (x := 2)) rfl) rfl) (r32 h4358 rfl) (fun h4436 => ?_) (fun h4436 => ?_)
                        · refine mr_iconst (pc := 201) (z := 0) dX12_message_201 ?_
                          refine mr_lvS (lv' := [(0, .ref 106), (3, iv (2 + z3421))]) (List.forall_mem_cons.mpr ⟨rfl, List.forall_mem_cons.mpr ⟨rfl, fun _ h => absurd h List.not_mem_nil⟩⟩) ?_
                          exact J4382 0 (rW (c := 0) (d := 65535) (rR (x := 0)) rfl)
                        have h4437 : 0 ≤ z3421 ∧ z3421 ≤ 996 := (vc_X12_message_v_42 h4436 h4352 h4359 h4370.2.1 h4358 h4360 h4371 h4372)
                        have h4438 : 4 ≤ z3411 ∧ z3411 ≤ 1000 := (vc_X12_message_v_43 h4436 h4352 h4359 h4370.2.1 h4358 h4437 h4371 h4372)
                        refine sv_aload_n (pc := 192) dX12_message_192 rfl rfl ?_
                        refine mr_iload_n (pc := 193) (z := (2 + z3421)) dX12_message_193 rfl rfl ?_
                        refine mr_iconst (pc := 194) (z := 2) dX12_message_194 ?_
                        refine mr_cVP (pc := 195) (c_X12_number_f2 hw T4362 (rW (c := 0) (d := 1000) (rAdd (e := 2) (f := 998) (rR (x := 2)) h4437 rfl) rfl) (rW (c := 0) (d := 2) (rR (x := 2)) rfl) (F4363.f (A_106 hw) rfl q3412) (vc_X12_message_v_65 h4352 h4359 h4370.2.1 h4436 h4438 h4437 h4371 h4372)) (gOk _ _ _ _ _) dX12_message_195 (tX12_number _ _ _ _ _) ⟨wV_X12_number, wL_X12_number⟩ wM_X12_623 (gCX12 _ _ _ _ _) rfl (A_106 hw) rfl ⟨le_t rfl, le_t rfl⟩ ⟨le_t rfl, le_t rfl⟩ rfl (le_t rfl) fun z4443 h4442 => ?_
                        refine sv_goto (pc := 198) (tgt := 202) dX12_message_198 (by decide) ?_
                        refine mr_lvS (lv' := [(0, .ref 106), (3, iv (2 + z3421))]) (List.forall_mem_cons.mpr ⟨rfl, List.forall_mem_cons.mpr ⟨rfl, fun _ h => absurd h List.not_mem_nil⟩⟩) ?_
                        exact J4382 z4443 h4442.1
                      have h4444 : 1 ≤ z3421 ∧ z3421 ≤ 65535 := (vc_X12_message_v_66 h4359 h4352 h4358 h3422)
                      refine sv_aload_n (pc := 159) dX12_message_159 rfl rfl ?_
                      refine mr_iconst (pc := 160) (z := 1) dX12_message_160 ?_
                      refine mr_iconst (pc := 161) (z := 0) dX12_message_161 ?_
                      refine mr_cVV (pc := 162) (c_X12_fails hw T3410 (rW (c := 0) (d := 3) (rR (x := 1)) rfl) (rW (c := (-2147483648)) (d := 2147483647) (rR (x := 0)) rfl)) (gOk _ _ _ _ _) dX12_message_162 (tX12_fails _ _ _ _ _) ⟨wV_X12_fails, wL_X12_fails⟩ wM_X12_620 (gCX12 _ _ _ _ _) rfl (A_106 hw) rfl ⟨le_t rfl, le_t rfl⟩ ⟨le_t rfl, le_t rfl⟩ rfl (le_t rfl) fun μ4445 T4446 F4447 h4448 => ?_
                      refine sv_goto (pc := 165) (tgt := 303) dX12_message_165 (by decide) ?_
                      refine mr_lvS (lv' := [(0, .ref 106)]) (List.forall_mem_cons.mpr ⟨rfl, fun _ h => absurd h List.not_mem_nil⟩) ?_
                      exact J3516 μ4445 T4446 (mF.call mF.refl F4447 rfl) (mG.fr mG.refl F4447 (A_126 hw) rfl) (JC.keepJ I3393 hw ((mF.call (mF.up mF.refl (A_106 hw) u3409 rfl) F4447 rfl) : mF [106096, 172999] w μ3387 μ4445) rfl) (RP.keep I3394 hw ((mF.call (mF.up mF.refl (A_106 hw) u3409 rfl) F4447 rfl) : mF [106096, 172999] w μ3387 μ4445) rfl ((mG.fr (mG.upO mG.refl u3409 rfl) F4447 (A_126 hw) rfl) : mG [] μ3387 μ4445) (fun _ h => absurd h List.not_mem_nil)) (EP.keep I3395 hw ((mF.call (mF.up mF.refl (A_106 hw) u3409 rfl) F4447 rfl) : mF [106096, 172999] w μ3387 μ4445) rfl) (HP.keep I3396 hw ((mF.call (mF.up mF.refl (A_106 hw) u3409 rfl) F4447 rfl) : mF [106096, 172999] w μ3387 μ4445) rfl ((mG.fr (mG.upO mG.refl u3409 rfl) F4447 (A_126 hw) rfl) : mG [] μ3387 μ4445) (fun _ h => absurd h List.not_mem_nil)) (UPg.fr I3397 hw T4446 rfl ((mF.call (mF.up mF.refl (A_106 hw) u3409 rfl) F4447 rfl) : mF [106096, 172999] w μ3387 μ4445) rfl rfl rfl ((mG.fr (mG.upO mG.refl u3409 rfl) F4447 (A_126 hw) rfl) : mG [] μ3387 μ4445) (fun _ h => absurd h List.not_mem_nil)) (G1.keep I3398 hw ((mF.call (mF.up mF.refl (A_106 hw) u3409 rfl) F4447 rfl) : mF [106096, 172999] w μ3387 μ4445) rfl rfl ((mG.fr (mG.upO mG.refl u3409 rfl) F4447 (A_126 hw) rfl) : mG [] μ3387 μ4445) (fun _ h => absurd h List.not_mem_nil)) (by rw [(F4447.f (A_106 hw) rfl (u3409.f (Or.inr (by decide)) (F3391.f (A_106 hw) rfl (u2937.f (Or.inl (mAt.ne (A_126 hw) (A_106 hw) rfl)) (u2930.f (Or.inl (mAt.ne (A_126 hw) (A_106 hw) rfl)) (u2927.f (Or.inr (by decide)) (u2924.f (Or.inr (by decide)) (u2921.f (Or.inr (by decide)) (u2918.f (Or.inr (by decide)) (u2915.f (Or.inr (by decide)) u2912.1)))))))))), (F4447.f (A_106 hw) rfl (u3409.f (Or.inr (by decide)) (F3391.f (A_106 hw) rfl (u2937.f (Or.inl (mAt.ne (A_126 hw) (A_106 hw) rfl)) (u2930.f (Or.inl (mAt.ne (A_126 hw) (A_106 hw) rfl)) (u2927.f (Or.inr (by decide)) (u2924.f (Or.inr (by decide)) (u2921.f (Or.inr (by decide)) (u2918.f (Or.inr (by decide)) u2915.1)))))))))]; exact vc_X12_message_v_35)
                    refine mr_icmp_lt (pc := 127) (tgt := 139) dX12_message_127 (by decide) (r32 h3413 rfl) (r32 (rR (x := 2)) rfl) (fun h4449 => ?_) (fun h4449 => ?_)
                    · have h4450 : 0 ≤ z3411 ∧ z3411 ≤ 1 := (vc_X3_readParts_20 h4449 h3413)
                      refine mr_iconst (pc := 139) (z := 0) dX12_message_139 ?_
                      refine mr_lvS (lv' := [(0, .ref 106)]) (List.forall_mem_cons.mpr ⟨rfl, fun _ h => absurd h List.not_mem_nil⟩) ?_
                      exact J3423 0 (rW (c := 0) (d := 65535) (rR (x := 0)) rfl)
                    have h4451 : 2 ≤ z3411 ∧ z3411 ≤ 1000 := (vc_X3_readParts_21 h4449 h3413)
                    refine sv_aload_n (pc := 130) dX12_message_130 rfl rfl ?_
                    refine mr_iconst (pc := 131) (z := 0) dX12_message_131 ?_
                    refine mr_iconst (pc := 132) (z := 2) dX12_message_132 ?_
                    refine mr_cVP (pc := 133) (c_X12_number_f2 hw T3410 (rW (c := 0) (d := 1000) (rR (x := 0)) rfl) (rW (c := 0) (d := 2) (rR (x := 2)) rfl) q3412 (vc_X12_message_v_67 h4449 h4451)) (gOk _ _ _ _ _) dX12_message_133 (tX12_number _ _ _ _ _) ⟨wV_X12_number, wL_X12_number⟩ wM_X12_623 (gCX12 _ _ _ _ _) rfl (A_106 hw) rfl ⟨le_t rfl, le_t rfl⟩ ⟨le_t rfl, le_t rfl⟩ rfl (le_t rfl) fun z4456 h4455 => ?_
                    refine sv_goto (pc := 136) (tgt := 140) dX12_message_136 (by decide) ?_
                    refine mr_lvS (lv' := [(0, .ref 106)]) (List.forall_mem_cons.mpr ⟨rfl, fun _ h => absurd h List.not_mem_nil⟩) ?_
                    exact J3423 z4456 h4455.1
                  have h4457 : 2 ≤ z3386 ∧ z3386 ≤ 5 := (vc_X12_message_v_68 h3406 h3389)
                  refine sv_aload_n (pc := 102) dX12_message_102 rfl rfl ?_
                  refine gf_X12_32 (pc := 103) dX12_message_103 wF_X12_148 (A_106 hw) T3390 ?_
                  refine mr_iload_n (pc := 106) (z := 960) dX12_message_106 rfl rfl ?_
                  refine mr_iload_n (pc := 107) (z := z3386) dX12_message_107 rfl rfl ?_
                  refine mr_iadd (pc := 108) (x := 960) (y := z3386) dX12_message_108 ?_
                  refine mr_iconst (pc := 109) (z := 0) dX12_message_109 ?_
                  refine ss_126 (pc := 110) dX12_message_110 (A_126 hw) T3390 (rIx (n := 84000) (rAdd (e := 962) (f := 965) (rR (x := 960)) h4457 rfl) rfl) (vc_X12_message_v_69 h3406 h4457) fun μ4458 u4459 T4460 => ?_
                  have I4461 : RP μ4458 := RP.up I3394 u4459 (u4459.f (Or.inl (mAt.ne (A_126 hw) (A_106 hw) rfl)) (F3391.f (A_106 hw) rfl (u2937.f (Or.inl (mAt.ne (A_126 hw) (A_106 hw) rfl)) q2933))) (vc_X12_message_v_70 h3406 h4457) (vc_X12_message_v_71 h3406 h2934 h4457)
                  refine mr_iinc (pc := 111) (lv' := [(2, iv (z3386 + 1)), (0, .ref 106), (1, iv 960)]) dX12_message_111 rfl (by decide) rfl ?_
                  refine sv_goto (pc := 114) (tgt := 96) dX12_message_114 (by decide) ?_
                  refine mr_lvS (lv' := [(0, .ref 106), (1, iv 960), (2, iv (z3386 + 1))]) (List.forall_mem_cons.mpr ⟨rfl, List.forall_mem_cons.mpr ⟨rfl, List.forall_mem_cons.mpr ⟨rfl, fun _ h => absurd h List.not_mem_nil⟩⟩⟩) ?_
                  exact ih3400 (z3386 + 1) μ4458 T4460 (mF.up (mF.call mF.refl F3391 rfl) (A_126 hw) u4459 rfl) (mG.up (mG.call mG.refl G3392 (List.forall_mem_cons.mpr ⟨⟨_, List.mem_cons_self, vc_X12_message_v_15⟩, (fun _ h => absurd h List.not_mem_nil)⟩)) u4459 List.mem_cons_self (vc_X12_message_v_73 h3406 h4457)) (rW (c := 2) (d := 6) (rAdd (e := 3) (f := 6) h4457 (rR (x := 1)) rfl) rfl) (JC.keepJ I3393 hw ((mF.up mF.refl (A_126 hw) u4459 rfl) : mF [126999] w μ3387 μ4458) rfl) I4461 (EP.keep I3395 hw ((mF.up mF.refl (A_126 hw) u4459 rfl) : mF [126999] w μ3387 μ4458) rfl) (HP.keep I3396 hw ((mF.up mF.refl (A_126 hw) u4459 rfl) : mF [126999] w μ3387 μ4458) rfl ((mG.up mG.refl u4459 List.mem_cons_self (vc_X12_message_v_74 h3406 h4457)) : mG [((960 + z3386), ((960 + z3386) + 1))] μ3387 μ4458) (List.forall_mem_cons.mpr ⟨(vc_X12_message_v_75 h3406 h4457), (fun _ h => absurd h List.not_mem_nil)⟩)) (UPg.fr I3397 hw T4460 rfl ((mF.up mF.refl (A_126 hw) u4459 rfl) : mF [126999] w μ3387 μ4458) rfl rfl rfl ((mG.up mG.refl u4459 List.mem_cons_self (vc_X12_message_v_74 h3406 h4457)) : mG [((960 + z3386), ((960 + z3386) + 1))] μ3387 μ4458) (List.forall_mem_cons.mpr ⟨(vc_X12_message_v_75 h3406 h4457), (fun _ h => absurd h List.not_mem_nil)⟩)) (G1.keep I3398 hw ((mF.up mF.refl (A_126 hw) u4459 rfl) : mF [126999] w μ3387 μ4458) rfl rfl ((mG.up mG.refl u4459 List.mem_cons_self (vc_X12_message_v_74 h3406 h4457)) : mG [((960 + z3386), ((960 + z3386) + 1))] μ3387 μ4458) (List.forall_mem_cons.mpr ⟨(vc_X12_message_v_76 h3406 h4457), (fun _ h => absurd h List.not_mem_nil)⟩)) (vc_X12_message_v_72 (nS h3399) h3406 h4457)
              refine mr_lvS (lv' := [(0, .ref 106), (1, iv 960), (2, iv 2)]) (List.forall_mem_cons.mpr ⟨rfl, List.forall_mem_cons.mpr ⟨rfl, List.forall_mem_cons.mpr ⟨rfl, fun _ h => absurd h List.not_mem_nil⟩⟩⟩) ?_
              exact L3388 6 2 μ2936 T2938 mF.refl mG.refl (rW (c := 2) (d := 6) (rR (x := 2)) rfl) (JC.keepJ I2896 hw ((mF.up (mF.up (mF.up (mF.up (mF.up (mF.up (mF.up (mF.up mF.refl (A_106 hw) u2912 rfl) (A_106 hw) u2915 rfl) (A_106 hw) u2918 rfl) (A_106 hw) u2921 rfl) (A_106 hw) u2924 rfl) (A_106 hw) u2927 rfl) (A_126 hw) u2930 rfl) (A_126 hw) u2937 rfl) : mF [106088, 106091, 106093, 106098, 106099, 106101, 126999] w μ2890 μ2936) rfl) I2939 (EP.keep I2898 hw ((mF.up (mF.up (mF.up (mF.up (mF.up (mF.up (mF.up (mF.up mF.refl (A_106 hw) u2912 rfl) (A_106 hw) u2915 rfl) (A_106 hw) u2918 rfl) (A_106 hw) u2921 rfl) (A_106 hw) u2924 rfl) (A_106 hw) u2927 rfl) (A_126 hw) u2930 rfl) (A_126 hw) u2937 rfl) : mF [106088, 106091, 106093, 106098, 106099, 106101, 126999] w μ2890 μ2936) rfl) (HP.keep I2899 hw ((mF.up (mF.up (mF.up (mF.up (mF.up (mF.up (mF.up (mF.up mF.refl (A_106 hw) u2912 rfl) (A_106 hw) u2915 rfl) (A_106 hw) u2918 rfl) (A_106 hw) u2921 rfl) (A_106 hw) u2924 rfl) (A_106 hw) u2927 rfl) (A_126 hw) u2930 rfl) (A_126 hw) u2937 rfl) : mF [106088, 106091, 106093, 106098, 106099, 106101, 126999] w μ2890 μ2936) rfl ((mG.up (mG.up (mG.upO (mG.upO (mG.upO (mG.upO (mG.upO (mG.upO mG.refl u2912 rfl) u2915 rfl) u2918 rfl) u2921 rfl) u2924 rfl) u2927 rfl) u2930 List.mem_cons_self vc_X12_message_v_78) u2937 (List.mem_cons_of_mem _ List.mem_cons_self) vc_X12_message_v_79) : mG [(960, (960 + 1)), ((960 + 1), ((960 + 1) + 1))] μ2890 μ2936) (List.forall_mem_cons.mpr ⟨vc_X12_message_v_81, (List.forall_mem_cons.mpr ⟨vc_X12_message_v_80, (fun _ h => absurd h List.not_mem_nil)⟩)⟩)) (UPg.fr I2900 hw T2938 rfl ((mF.up (mF.up (mF.up (mF.up (mF.up (mF.up (mF.up (mF.up mF.refl (A_106 hw) u2912 rfl) (A_106 hw) u2915 rfl) (A_106 hw) u2918 rfl) (A_106 hw) u2921 rfl) (A_106 hw) u2924 rfl) (A_106 hw) u2927 rfl) (A_126 hw) u2930 rfl) (A_126 hw) u2937 rfl) : mF [106088, 106091, 106093, 106098, 106099, 106101, 126999] w μ2890 μ2936) rfl rfl rfl ((mG.up (mG.up (mG.upO (mG.upO (mG.upO (mG.upO (mG.upO (mG.upO mG.refl u2912 rfl) u2915 rfl) u2918 rfl) u2921 rfl) u2924 rfl) u2927 rfl) u2930 List.mem_cons_self vc_X12_message_v_78) u2937 (List.mem_cons_of_mem _ List.mem_cons_self) vc_X12_message_v_79) : mG [(960, (960 + 1)), ((960 + 1), ((960 + 1) + 1))] μ2890 μ2936) (List.forall_mem_cons.mpr ⟨vc_X12_message_v_81, (List.forall_mem_cons.mpr ⟨vc_X12_message_v_80, (fun _ h => absurd h List.not_mem_nil)⟩)⟩)) (G1.keep I2901 hw ((mF.up (mF.up (mF.up (mF.up (mF.up (mF.up (mF.up (mF.up mF.refl (A_106 hw) u2912 rfl) (A_106 hw) u2915 rfl) (A_106 hw) u2918 rfl) (A_106 hw) u2921 rfl) (A_106 hw) u2924 rfl) (A_106 hw) u2927 rfl) (A_126 hw) u2930 rfl) (A_126 hw) u2937 rfl) : mF [106088, 106091, 106093, 106098, 106099, 106101, 126999] w μ2890 μ2936) rfl rfl ((mG.up (mG.up (mG.upO (mG.upO (mG.upO (mG.upO (mG.upO (mG.upO mG.refl u2912 rfl) u2915 rfl) u2918 rfl) u2921 rfl) u2924 rfl) u2927 rfl) u2930 List.mem_cons_self vc_X12_message_v_78) u2937 (List.mem_cons_of_mem _ List.mem_cons_self) vc_X12_message_v_79) : mG [(960, (960 + 1)), ((960 + 1), ((960 + 1) + 1))] μ2890 μ2936) (List.forall_mem_cons.mpr ⟨vc_X12_message_v_83, (List.forall_mem_cons.mpr ⟨vc_X12_message_v_82, (fun _ h => absurd h List.not_mem_nil)⟩)⟩)) vc_X12_message_v_77
            have h4462 : 0 ≤ z2889 ∧ z2889 ≤ 255 := (vc_X3_putNumber_5 h2909 h2892)
            refine sv_aload_n (pc := 30) dX12_message_30 rfl rfl ?_
            refine gf_X12_94 (pc := 31) dX12_message_31 wF_X12_475 (A_106 hw) T2893 ?_
            refine mr_iload_n (pc := 34) (z := z2889) dX12_message_34 rfl rfl ?_
            refine mr_iconst (pc := 35) (z := 0) dX12_message_35 ?_
            refine ss_171 (pc := 36) dX12_message_36 (A_171 hw) T2893 (rIx (n := 256) h4462 rfl) (rW (c := 0) (d := 1) (rR (x := 0)) rfl) fun μ4463 u4464 T4465 => ?_
            refine mr_iinc (pc := 37) (lv' := [(1, iv (z2889 + 1)), (0, .ref 106)]) dX12_message_37 rfl (by decide) rfl ?_
            refine sv_goto (pc := 40) (tgt := 23) dX12_message_40 (by decide) ?_
            refine mr_lvS (lv' := [(0, .ref 106), (1, iv (z2889 + 1))]) (List.forall_mem_cons.mpr ⟨rfl, List.forall_mem_cons.mpr ⟨rfl, fun _ h => absurd h List.not_mem_nil⟩⟩) ?_
            exact ih2903 (z2889 + 1) μ4463 T4465 (mF.up (mF.call mF.refl F2894 rfl) (A_171 hw) u4464 rfl) (rW (c := 0) (d := 256) (rAdd (e := 1) (f := 256) h4462 (rR (x := 1)) rfl) rfl) (JC.keepJ I2896 hw ((mF.up mF.refl (A_171 hw) u4464 rfl) : mF [171999] w μ2890 μ4463) rfl) (RP.keep I2897 hw ((mF.up mF.refl (A_171 hw) u4464 rfl) : mF [171999] w μ2890 μ4463) rfl ((mG.upO mG.refl u4464 rfl) : mG [] μ2890 μ4463) (fun _ h => absurd h List.not_mem_nil)) (EP.keep I2898 hw ((mF.up mF.refl (A_171 hw) u4464 rfl) : mF [171999] w μ2890 μ4463) rfl) (HP.keep I2899 hw ((mF.up mF.refl (A_171 hw) u4464 rfl) : mF [171999] w μ2890 μ4463) rfl ((mG.upO mG.refl u4464 rfl) : mG [] μ2890 μ4463) (fun _ h => absurd h List.not_mem_nil)) (UPg.fr I2900 hw T4465 rfl ((mF.up mF.refl (A_171 hw) u4464 rfl) : mF [171999] w μ2890 μ4463) rfl rfl rfl ((mG.upO mG.refl u4464 rfl) : mG [] μ2890 μ4463) (fun _ h => absurd h List.not_mem_nil)) (G1.keep I2901 hw ((mF.up mF.refl (A_171 hw) u4464 rfl) : mF [171999] w μ2890 μ4463) rfl rfl ((mG.upO mG.refl u4464 rfl) : mG [] μ2890 μ4463) (fun _ h => absurd h List.not_mem_nil)) (vc_X12_message_v_85 (nS h2902) h2909 h4462)
        refine mr_lvS (lv' := [(0, .ref 106), (1, iv 0)]) (List.forall_mem_cons.mpr ⟨rfl, List.forall_mem_cons.mpr ⟨rfl, fun _ h => absurd h List.not_mem_nil⟩⟩) ?_
        exact L2891 258 0 μ1864 T1867 mF.refl (rW (c := 0) (d := 256) (rR (x := 0)) rfl) I1870 I1871 I1872 I1873 I1874 I1875 vc_X12_message_v_86
      have h4466 : 0 ≤ z1863 ∧ z1863 ≤ 3 := (vc_X12_tie_u_24 h1883 h1866)
      refine sv_aload_n (pc := 7) dX12_message_7 rfl rfl ?_
      refine gf_X12_95 (pc := 8) dX12_message_8 wF_X12_478 (A_106 hw) T1867 ?_
      refine mr_iload_n (pc := 11) (z := z1863) dX12_message_11 rfl rfl ?_
      refine mr_ldc (pc := 12) (z := (-99999999)) dX12_message_12 wG_X12_29 (by decide) ?_
      refine ss_172 (pc := 14) dX12_message_14 (A_172 hw) T1867 (rIx (n := 4) h4466 rfl) (rW (c := (-2147483648)) (d := 2147483647) (rR (x := (-99999999))) rfl) fun μ4467 u4468 T4469 => ?_
      refine mr_iinc (pc := 15) (lv' := [(1, iv (z1863 + 1)), (0, .ref 106)]) dX12_message_15 rfl (by decide) rfl ?_
      refine sv_goto (pc := 18) (tgt := 2) dX12_message_18 (by decide) ?_
      refine mr_lvS (lv' := [(0, .ref 106), (1, iv (z1863 + 1))]) (List.forall_mem_cons.mpr ⟨rfl, List.forall_mem_cons.mpr ⟨rfl, fun _ h => absurd h List.not_mem_nil⟩⟩) ?_
      exact ih1877 (z1863 + 1) μ4467 T4469 (mF.up (mF.call mF.refl F1868 rfl) (A_172 hw) u4468 rfl) (rW (c := 0) (d := 4) (rAdd (e := 1) (f := 4) h4466 (rR (x := 1)) rfl) rfl) (JC.keepJ I1870 hw ((mF.up mF.refl (A_172 hw) u4468 rfl) : mF [172999] w μ1864 μ4467) rfl) (RP.keep I1871 hw ((mF.up mF.refl (A_172 hw) u4468 rfl) : mF [172999] w μ1864 μ4467) rfl ((mG.upO mG.refl u4468 rfl) : mG [] μ1864 μ4467) (fun _ h => absurd h List.not_mem_nil)) (EP.keep I1872 hw ((mF.up mF.refl (A_172 hw) u4468 rfl) : mF [172999] w μ1864 μ4467) rfl) (HP.keep I1873 hw ((mF.up mF.refl (A_172 hw) u4468 rfl) : mF [172999] w μ1864 μ4467) rfl ((mG.upO mG.refl u4468 rfl) : mG [] μ1864 μ4467) (fun _ h => absurd h List.not_mem_nil)) (UPg.fr I1874 hw T4469 rfl ((mF.up mF.refl (A_172 hw) u4468 rfl) : mF [172999] w μ1864 μ4467) rfl rfl rfl ((mG.upO mG.refl u4468 rfl) : mG [] μ1864 μ4467) (fun _ h => absurd h List.not_mem_nil)) (G1.keep I1875 hw ((mF.up mF.refl (A_172 hw) u4468 rfl) : mF [172999] w μ1864 μ4467) rfl rfl ((mG.upO mG.refl u4468 rfl) : mG [] μ1864 μ4467) (fun _ h => absurd h List.not_mem_nil)) (vc_X12_tie_u_27 (nS h1876) h1883 h4466)
  refine mr_lvS (lv' := [(0, .ref 106), (1, iv 0)]) (List.forall_mem_cons.mpr ⟨rfl, List.forall_mem_cons.mpr ⟨rfl, fun _ h => absurd h List.not_mem_nil⟩⟩) ?_
  exact L1865 6 0 μ hT mF.refl (rW (c := 0) (d := 4) (rR (x := 0)) rfl) hIJC hIRP hIEP hIHP hIUP hIG1 vc_X12_prefixOut_14
theorem vc_X10_maskOf_v_1 {p1 : Int} (h0 : ¬ p1 = 0) (h1 : 0 ≤ p1 ∧ p1 ≤ 32) : 1 ≤ p1 ∧ p1 ≤ 32 := by omega
theorem vc_X10_maskOf_v_2 {p1 : Int} (h0 : ¬ p1 = 0) (h1 : 1 ≤ p1 ∧ p1 ≤ 32) : ¬ p1 = 0 := by omega
theorem vc_X10_maskOf_v_3 {p1 : Int} (h0 : p1 = 0) (h1 : 0 ≤ p1 ∧ p1 ≤ 32) : 0 ≤ p1 ∧ p1 ≤ 0 := by omega
set_option maxRecDepth 4000 in
set_option maxHeartbeats 4000000 in
theorem c_X10_maskOf_v {l : Launch} {D : va_G} {c : Nat → ClassId} {H0 : Heap} {sa : Nat × Nat × (Nat → Int32)} {w : mW} {μ : mM} (hw : mWF w) (hT : mT w μ) {p1 : Int} (hp1 : 0 ≤ p1 ∧ p1 ≤ 32) : sC (gG l D c H0 sa) mX10_maskOf 1 0 0 [iv p1] (mk w μ) (qP w μ (fun z => ((-2147483648) ≤ z ∧ z ≤ 2147483647) ∧ (z = mskF p1) ∧ True)) := by
  refine sC.of rfl (by decide) (le_t rfl) ?_
  refine mr_lvE (lv' := [(0, iv p1)]) rfl ?_
  refine mr_iload_n (pc := 0) (z := p1) dX10_maskOf_0 rfl rfl ?_
  refine mr_if_ne (pc := 1) (tgt := 8) dX10_maskOf_1 (by decide) (r32 hp1 rfl) (fun h1 => ?_) (fun h1 => ?_)
  · have h2 : 1 ≤ p1 ∧ p1 ≤ 32 := (vc_X10_maskOf_v_1 h1 hp1)
    refine mr_iconst (pc := 8) (z := (-1)) dX10_maskOf_8 ?_
    refine mr_bipush (pc := 9) (z := 32) dX10_maskOf_9 (by decide) ?_
    refine mr_iload_n (pc := 11) (z := p1) dX10_maskOf_11 rfl rfl ?_
    refine mr_isub (pc := 12) (x := 32) (y := p1) dX10_maskOf_12 ?_
    refine mr_ishl (pc := 13) (x := (-1)) (y := (32 - p1)) dX10_maskOf_13 ?_
    refine mr_gen (P := fun z => (-2147483648) ≤ z ∧ z ≤ 2147483647) (r32i _) fun z3 q4 h5 => ?_
    exact mr_iretP dX10_maskOf_14 rfl (le_t rfl) (le_t rfl) ⟨h5, (mskF.pos (vc_X10_maskOf_v_2 h1 h2) q4), trivial⟩
  have h6 : 0 ≤ p1 ∧ p1 ≤ 0 := (vc_X10_maskOf_v_3 h1 hp1)
  refine mr_iconst (pc := 4) (z := 0) dX10_maskOf_4 ?_
  refine sv_goto (pc := 5) (tgt := 14) dX10_maskOf_5 (by decide) ?_
  exact mr_iretP dX10_maskOf_14 rfl (le_t rfl) (le_t rfl) ⟨(rW (c := (-2147483648)) (d := 2147483647) (rR (x := 0)) rfl), (mskF.zero (vc_X12_goes_7 h1 h6)), trivial⟩
set_option maxRecDepth 4000 in
set_option maxHeartbeats 4000000 in
theorem c_X12_mask_v {l : Launch} {D : va_G} {c : Nat → ClassId} {H0 : Heap} {sa : Nat × Nat × (Nat → Int32)} {w : mW} {μ : mM} (hw : mWF w) (hT : mT w μ) {p1 : Int} (hp1 : 0 ≤ p1 ∧ p1 ≤ 32) : sC (gG l D c H0 sa) mX12_mask 1 0 0 [iv p1] (mk w μ) (qP w μ (fun z => ((-2147483648) ≤ z ∧ z ≤ 2147483647) ∧ (z = mskF p1) ∧ True)) := by
  refine sC.of rfl (by decide) (le_t rfl) ?_
  refine mr_lvE (lv' := [(0, iv p1)]) rfl ?_
  refine mr_iload_n (pc := 0) (z := p1) dX12_mask_0 rfl rfl ?_
  refine mr_if_ne (pc := 1) (tgt := 8) dX12_mask_1 (by decide) (r32 hp1 rfl) (fun h1 => ?_) (fun h1 => ?_)
  · have h2 : 1 ≤ p1 ∧ p1 ≤ 32 := (vc_X10_maskOf_v_1 h1 hp1)
    refine mr_iconst (pc := 8) (z := (-1)) dX12_mask_8 ?_
    refine mr_bipush (pc := 9) (z := 32) dX12_mask_9 (by decide) ?_
    refine mr_iload_n (pc := 11) (z := p1) dX12_mask_11 rfl rfl ?_
    refine mr_isub (pc := 12) (x := 32) (y := p1) dX12_mask_12 ?_
    refine mr_ishl (pc := 13) (x := (-1)) (y := (32 - p1)) dX12_mask_13 ?_
    refine mr_gen (P := fun z => (-2147483648) ≤ z ∧ z ≤ 2147483647) (r32i _) fun z3 q4 h5 => ?_
    exact mr_iretP dX12_mask_14 rfl (le_t rfl) (le_t rfl) ⟨h5, (mskF.pos (vc_X10_maskOf_v_2 h1 h2) q4), trivial⟩
  have h6 : 0 ≤ p1 ∧ p1 ≤ 0 := (vc_X10_maskOf_v_3 h1 hp1)
  refine mr_iconst (pc := 4) (z := 0) dX12_mask_4 ?_
  refine sv_goto (pc := 5) (tgt := 14) dX12_mask_5 (by decide) ?_
  exact mr_iretP dX12_mask_14 rfl (le_t rfl) (le_t rfl) ⟨(rW (c := (-2147483648)) (d := 2147483647) (rR (x := 0)) rfl), (mskF.zero (vc_X12_goes_7 h1 h6)), trivial⟩
theorem vc_X11_feedNumber_v_1 {f_t0 : Int} (h0 : f_t0 ≤ 996) (h1 : 0 ≤ f_t0 ∧ f_t0 ≤ 1000) : 0 ≤ f_t0 ∧ f_t0 ≤ 996 := by omega
theorem vc_X11_feedNumber_v_2 {f_t f_t0 z328 : Int} (h0 : (z328 - (-9)) < ((0 : Nat) : Int)) (h1 : 8 * f_t + z328 = 8 * f_t0 + 24) (h2 : f_t0 ≤ 996) (h3 : f_t0 ≤ f_t) (h4 : 0 ≤ f_t0 ∧ f_t0 ≤ 996) (h5 : (-8) ≤ z328 ∧ z328 ≤ 24) : False := by omega
theorem vc_X11_feedNumber_v_3 {f_t f_t0 z328 : Int} (h0 : z328 < 0) (h1 : 8 * f_t + z328 = 8 * f_t0 + 24) (h2 : 0 ≤ f_t ∧ f_t ≤ 1000) (h3 : 0 ≤ f_t0 ∧ f_t0 ≤ 996) (h4 : (-8) ≤ z328 ∧ z328 ≤ 24) : (-8) ≤ z328 ∧ z328 ≤ (-1) := by omega
theorem vc_X11_feedNumber_v_4 {f_t f_t0 z328 : Int} (h0 : f_t0 ≤ 996) (h1 : 8 * f_t + z328 = 8 * f_t0 + 24) (h2 : f_t0 ≤ f_t) (h3 : z328 < 0) (h4 : 0 ≤ f_t ∧ f_t ≤ 1000) (h5 : 0 ≤ f_t0 ∧ f_t0 ≤ 996) (h6 : (-8) ≤ z328 ∧ z328 ≤ (-1)) : f_t = f_t0 + 4 := by omega
theorem vc_X11_feedNumber_v_5 {f_t f_t0 z328 : Int} (h0 : f_t0 ≤ 996) (h1 : 8 * f_t + z328 = 8 * f_t0 + 24) (h2 : f_t0 ≤ f_t) (h3 : z328 < 0) (h4 : 0 ≤ f_t ∧ f_t ≤ 1000) (h5 : 0 ≤ f_t0 ∧ f_t0 ≤ 996) (h6 : (-8) ≤ z328 ∧ z328 ≤ (-1)) : f_t0 + 4 = f_t := by omega
theorem vc_X11_feedNumber_v_6 {f_t f_t0 z328 : Int} (h0 : 0 ≤ z328) (h1 : 8 * f_t + z328 = 8 * f_t0 + 24) (h2 : 0 ≤ f_t ∧ f_t ≤ 1000) (h3 : 0 ≤ f_t0 ∧ f_t0 ≤ 996) (h4 : (-8) ≤ z328 ∧ z328 ≤ 24) : 0 ≤ z328 ∧ z328 ≤ 24 := by omega
theorem vc_X11_feedNumber_v_7 {f_t f_t0 z328 : Int} (h0 : 8 * f_t + z328 = 8 * f_t0 + 24) (h1 : f_t0 ≤ f_t) (h2 : f_t0 ≤ 996) (h3 : 0 ≤ z328) (h4 : 0 ≤ f_t ∧ f_t ≤ 1000) (h5 : 0 ≤ f_t0 ∧ f_t0 ≤ 996) (h6 : 0 ≤ z328 ∧ z328 ≤ 24) : 0 ≤ f_t ∧ f_t < 1000 := by omega
theorem vc_X11_feedNumber_v_8 {f_t f_t0 z328 : Int} (h0 : 8 * f_t + z328 = 8 * f_t0 + 24) (h1 : f_t0 ≤ f_t) (h2 : f_t0 ≤ 996) (h3 : 0 ≤ z328) (h4 : 0 ≤ f_t ∧ f_t ≤ 1000) (h5 : 0 ≤ f_t0 ∧ f_t0 ≤ 996) (h6 : 0 ≤ z328 ∧ z328 ≤ 24) : 0 ≤ (f_t + 1) ∧ (f_t + 1) ≤ 1000 := by omega
theorem vc_X11_feedNumber_v_9 {f_t f_t0 z328 : Int} (h0 : f_t0 ≤ 996) (h1 : 8 * f_t + z328 = 8 * f_t0 + 24) (h2 : f_t0 ≤ f_t) (h3 : 0 ≤ z328) (h4 : 0 ≤ f_t ∧ f_t ≤ 1000) (h5 : 0 ≤ f_t0 ∧ f_t0 ≤ 996) (h6 : 0 ≤ z328 ∧ z328 ≤ 24) : 8 * (f_t + 1) + (z328 + (-8)) = 8 * f_t0 + 24 := by omega
theorem vc_X11_feedNumber_v_10 {f_t f_t0 z328 : Int} (h0 : f_t0 ≤ 996) (h1 : 8 * f_t + z328 = 8 * f_t0 + 24) (h2 : f_t0 ≤ f_t) (h3 : 0 ≤ z328) (h4 : 0 ≤ f_t ∧ f_t ≤ 1000) (h5 : 0 ≤ f_t0 ∧ f_t0 ≤ 996) (h6 : 0 ≤ z328 ∧ z328 ≤ 24) : f_t0 ≤ (f_t + 1) := by omega
theorem vc_X11_feedNumber_v_11 {N f_t f_t0 z328 : Int} (h0 : (z328 - (-9)) < N + 1) (h1 : 8 * f_t + z328 = 8 * f_t0 + 24) (h2 : 0 ≤ z328) (h3 : f_t0 ≤ 996) (h4 : f_t0 ≤ f_t) (h5 : 0 ≤ f_t ∧ f_t ≤ 1000) (h6 : 0 ≤ f_t0 ∧ f_t0 ≤ 996) (h7 : 0 ≤ z328 ∧ z328 ≤ 24) : ((z328 + (-8)) - (-9)) < N := by omega
theorem vc_X11_feedNumber_v_12 {f_t f_t0 z328 : Int} (h0 : f_t0 ≤ 996) (h1 : 8 * f_t + z328 = 8 * f_t0 + 24) (h2 : f_t0 ≤ f_t) (h3 : 0 ≤ z328) (h4 : 0 ≤ f_t ∧ f_t ≤ 1000) (h5 : 0 ≤ f_t0 ∧ f_t0 ≤ 996) (h6 : 0 ≤ z328 ∧ z328 ≤ 24) : 0 ≤ f_t0 ∧ f_t0 ≤ f_t := by omega
theorem vc_X11_feedNumber_v_13 {f_t f_t0 z328 : Int} (h0 : f_t0 ≤ 996) (h1 : 8 * f_t + z328 = 8 * f_t0 + 24) (h2 : f_t0 ≤ f_t) (h3 : 0 ≤ z328) (h4 : 0 ≤ f_t ∧ f_t ≤ 1000) (h5 : 0 ≤ f_t0 ∧ f_t0 ≤ 996) (h6 : 0 ≤ z328 ∧ z328 ≤ 24) : z328 = 24 - 8 * (f_t - f_t0) := by omega
theorem vc_X11_feedNumber_v_14 {f_t f_t0 z328 : Int} (h0 : 8 * f_t + z328 = 8 * f_t0 + 24) (h1 : f_t0 ≤ f_t) (h2 : f_t0 ≤ 996) (h3 : 0 ≤ z328) (h4 : 0 ≤ f_t ∧ f_t ≤ 1000) (h5 : 0 ≤ f_t0 ∧ f_t0 ≤ 996) (h6 : 0 ≤ z328 ∧ z328 ≤ 24) : (f_t + 1) = f_t + 1 := by omega
theorem vc_X11_feedNumber_v_15 {f_t0 : Int} (h0 : f_t0 ≤ 996) (h1 : 0 ≤ f_t0 ∧ f_t0 ≤ 996) : 8 * f_t0 + (24 : Int) = 8 * f_t0 + 24 := by omega
theorem vc_X11_feedNumber_v_16 {f_t0 : Int} (h0 : f_t0 ≤ 996) (h1 : 0 ≤ f_t0 ∧ f_t0 ≤ 996) : f_t0 ≤ f_t0 := by omega
set_option maxRecDepth 4000 in
set_option maxHeartbeats 4000000 in
theorem c_X11_feedNumber_v {l : Launch} {D : va_G} {c : Nat → ClassId} {H0 : Heap} {sa : Nat × Nat × (Nat → Int32)} {w : mW} {μ : mM} (hw : mWF w) (hT : mT w μ) {p1 : Int} (hp1 : (-2147483648) ≤ p1 ∧ p1 ≤ 2147483647) {f_t0 : Int} (q_f_t0 : μ 0 10 = f_t0) (hq0 : f_t0 ≤ 996) : sC (gG l D c H0 sa) mX11_feedNumber 1 0 0 [.ref 0, iv p1] (mk w μ) (qV w [10, 1999] μ (fun μ1 => ∃ o_t : Int, μ1 0 10 = o_t ∧ (o_t = f_t0 + 4) ∧ (fdN μ μ1 f_t0 (f_t0 + 4) p1) ∧ True)) := by
  refine sC.of rfl (by decide) (le_t rfl) ?_
  have ht_f_t0 : (0 ≤ f_t0 ∧ f_t0 ≤ 1000) := by rw [← q_f_t0]; exact hT 0 0 (A_0 hw) 10
  have h1 : 0 ≤ f_t0 ∧ f_t0 ≤ 996 := (vc_X11_feedNumber_v_1 hq0 ht_f_t0)
  refine mr_lvE (lv' := [(0, .ref 0), (1, iv p1)]) rfl ?_
  refine mr_bipush (pc := 0) (z := 24) dX11_feedNumber_0 (by decide) ?_
  refine mr_istore_n (pc := 2) (lv' := [(2, iv 24), (0, .ref 0), (1, iv p1)]) dX11_feedNumber_2 rfl (by decide) rfl ?_
  have L330 : ∀ (nL330 : Nat) (z328 : Int) (μ329 : mM) (f_t : Int), mT w μ329 → mF [10, 1999] w μ μ329 → μ329 0 (10) = f_t → ((-8) ≤ z328 ∧ z328 ≤ 24) → (8 * f_t + z328 = 8 * f_t0 + 24) → (f_t0 ≤ f_t) → fdN μ μ329 f_t0 f_t p1 → (z328 - (-9)) < (nL330 : Int) → sV (gG l D c H0 sa) mX11_feedNumber (sRm 1 0 0) (sZ (gG l D c H0 sa) 0 0 (qV w [10, 1999] μ (fun μ1 => ∃ o_t : Int, μ1 0 10 = o_t ∧ (o_t = f_t0 + 4) ∧ (fdN μ μ1 f_t0 (f_t0 + 4) p1) ∧ True))) 3 [(0, .ref 0), (1, iv p1), (2, iv z328)] [] (mk w μ329) 0 0 := by
    intro nL330
    induction nL330 with
    | zero => intro z328 μ329 f_t T332 F333 q339 h331 h335 h336 R337 h338; exact ((vc_X11_feedNumber_v_2 h338 h335 hq0 h336 h1 h331)).elim
    | succ nL330 ih340 =>
      intro z328 μ329 f_t T332 F333 q339 h331 h335 h336 R337 h338
      have h341 : (0 ≤ f_t ∧ f_t ≤ 1000) := by rw [← q339]; exact T332 0 0 (A_0 hw) (10)
      refine mr_iload_n (pc := 3) (z := z328) dX11_feedNumber_3 rfl rfl ?_
      refine mr_if_lt (pc := 4) (tgt := 39) dX11_feedNumber_4 (by decide) (r32 h331 rfl) (fun h356 => ?_) (fun h356 => ?_)
      · have h357 : (-8) ≤ z328 ∧ z328 ≤ (-1) := (vc_X11_feedNumber_v_3 h356 h335 h341 h1 h331)
        exact mr_vret dX11_feedNumber_39 rfl (le_t rfl) (le_t rfl) T332 (mF.call mF.refl F333 rfl) ⟨f_t, q339, (vc_X11_feedNumber_v_4 hq0 h335 h336 h356 h341 h1 h357), (fdN.fin R337 (vc_X11_feedNumber_v_5 hq0 h335 h336 h356 h341 h1 h357)), trivial⟩
      have h358 : 0 ≤ z328 ∧ z328 ≤ 24 := (vc_X11_feedNumber_v_6 h356 h335 h341 h1 h331)
      refine sv_aload_n (pc := 7) dX11_feedNumber_7 rfl rfl ?_
      refine gf_X11_0 (pc := 8) dX11_feedNumber_8 wF_X11_9 (A_0 hw) T332 ?_
      refine sv_aload_n (pc := 11) dX11_feedNumber_11 rfl rfl ?_
      refine gk_X11_10 (pc := 12) dX11_feedNumber_12 wF_X11_76 (A_0 hw) q339 ?_
      refine mr_iload_n (pc := 15) (z := p1) dX11_feedNumber_15 rfl rfl ?_
      refine mr_iload_n (pc := 16) (z := z328) dX11_feedNumber_16 rfl rfl ?_
      refine mr_iushr (pc := 17) (x := p1) (y := z328) dX11_feedNumber_17 ?_
      refine mr_gen (P := fun z => (-2147483648) ≤ z ∧ z ≤ 2147483647) (r32i _) fun z359 q360 h361 => ?_
      refine mr_sipush (pc := 18) (z := 255) dX11_feedNumber_18 (by decide) ?_
      refine mr_iand (pc := 21) (x := z359) (y := 255) dX11_feedNumber_21 ?_
      refine mr_gen (P := fun z => 0 ≤ z ∧ z ≤ 255) (rAndR (rR (x := 255)) rfl) fun z362 q363 h364 => ?_
      refine ss_1 (pc := 22) dX11_feedNumber_22 (A_1 hw) T332 (vc_X11_feedNumber_v_7 h335 h336 hq0 h356 h341 h1 h358) h364 fun μ365 u366 T367 => ?_
      refine sv_aload_n (pc := 23) dX11_feedNumber_23 rfl rfl ?_
      refine sv_dup (pc := 24) dX11_feedNumber_24 rfl ?_
      refine gk_X11_10 (pc := 25) dX11_feedNumber_25 wF_X11_76 (A_0 hw) (u366.f (Or.inl (mAt.ne (A_1 hw) (A_0 hw) rfl)) q339) ?_
      refine mr_iconst (pc := 28) (z := 1) dX11_feedNumber_28 ?_
      refine mr_iadd (pc := 29) (x := f_t) (y := 1) dX11_feedNumber_29 ?_
      refine pf_X11_10 (pc := 30) dX11_feedNumber_30 wF_X11_76 (A_0 hw) T367 (vc_X11_feedNumber_v_8 h335 h336 hq0 h356 h341 h1 h358) fun μ368 u369 T370 => ?_
      refine mr_iinc (pc := 33) (lv' := [(2, iv (z328 + (-8))), (0, .ref 0), (1, iv p1)]) dX11_feedNumber_33 rfl (by decide) rfl ?_
      refine sv_goto (pc := 36) (tgt := 3) dX11_feedNumber_36 (by decide) ?_
      refine mr_lvS (lv' := [(0, .ref 0), (1, iv p1), (2, iv (z328 + (-8)))]) (List.forall_mem_cons.mpr ⟨rfl, List.forall_mem_cons.mpr ⟨rfl, List.forall_mem_cons.mpr ⟨rfl, fun _ h => absurd h List.not_mem_nil⟩⟩⟩) ?_
      exact ih340 (z328 + (-8)) μ368 (f_t + 1) T370 (mF.up (mF.up (mF.call mF.refl F333 rfl) (A_1 hw) u366 rfl) (A_0 hw) u369 rfl) u369.1 (rW (c := (-8)) (d := 24) (rAdd (e := (-8)) (f := 16) h358 (rR (x := (-8))) rfl) rfl) (vc_X11_feedNumber_v_9 hq0 h335 h336 h356 h341 h1 h358) (vc_X11_feedNumber_v_10 hq0 h335 h336 h356 h341 h1 h358) (fdN.next R337 (vc_X11_feedNumber_v_12 hq0 h335 h336 h356 h341 h1 h358) q360 q363 (vc_X11_feedNumber_v_13 hq0 h335 h336 h356 h341 h1 h358) u366 (rowB (A_1 hw) ((mF.up mF.refl (A_0 hw) u369 rfl) : mF [10] w μ365 μ368) rfl rfl) (vc_X11_feedNumber_v_14 h335 h336 hq0 h356 h341 h1 h358)) (vc_X11_feedNumber_v_11 (nS h338) h335 h356 hq0 h336 h341 h1 h358)
  refine mr_lvS (lv' := [(0, .ref 0), (1, iv p1), (2, iv 24)]) (List.forall_mem_cons.mpr ⟨rfl, List.forall_mem_cons.mpr ⟨rfl, List.forall_mem_cons.mpr ⟨rfl, fun _ h => absurd h List.not_mem_nil⟩⟩⟩) ?_
  exact L330 34 24 μ f_t0 hT mF.refl q_f_t0 (rW (c := (-8)) (d := 24) (rR (x := 24)) rfl) (vc_X11_feedNumber_v_15 hq0 h1) (vc_X11_feedNumber_v_16 hq0 h1) fdN.start vc_X12_octet4_10
theorem vc_X11_feed_w_1 {f_q : Int} (h0 : (f_q + 20) ≤ 1000) (h1 : 0 ≤ f_q ∧ f_q ≤ 1000) : 0 ≤ f_q ∧ f_q ≤ 980 := by omega
theorem vc_X11_feed_w_2 {f_q : Int} (h0 : (f_q + 20) ≤ 1000) (h1 : 0 ≤ f_q ∧ f_q ≤ 980) : f_q ≤ 996 := by omega
theorem vc_X11_feed_w_3 {f_q z148 : Int} (h0 : (f_q + 20) ≤ 1000) (h1 : z148 = f_q + 4) (h2 : 0 ≤ f_q ∧ f_q ≤ 980) (h3 : 0 ≤ z148 ∧ z148 ≤ 1000) : (f_q + 4) ≤ 996 := by omega
theorem vc_X11_feed_w_4 {f_q z148 z157 : Int} (h0 : (f_q + 20) ≤ 1000) (h1 : z148 = f_q + 4) (h2 : z157 = (f_q + 4) + 4) (h3 : 0 ≤ f_q ∧ f_q ≤ 980) (h4 : 0 ≤ z148 ∧ z148 ≤ 1000) (h5 : 0 ≤ z157 ∧ z157 ≤ 1000) : ((f_q + 4) + 4) ≤ 996 := by omega
theorem vc_X11_feed_w_5 {f_q z148 z157 z166 : Int} (h0 : (f_q + 20) ≤ 1000) (h1 : z148 = f_q + 4) (h2 : z157 = (f_q + 4) + 4) (h3 : z166 = ((f_q + 4) + 4) + 4) (h4 : 0 ≤ f_q ∧ f_q ≤ 980) (h5 : 0 ≤ z148 ∧ z148 ≤ 1000) (h6 : 0 ≤ z157 ∧ z157 ≤ 1000) (h7 : 0 ≤ z166 ∧ z166 ≤ 1000) : (((f_q + 4) + 4) + 4) ≤ 996 := by omega
theorem vc_X11_feed_w_6 {f_q z148 z157 z166 z175 : Int} (h0 : (f_q + 20) ≤ 1000) (h1 : z148 = f_q + 4) (h2 : z157 = (f_q + 4) + 4) (h3 : z166 = ((f_q + 4) + 4) + 4) (h4 : z175 = (((f_q + 4) + 4) + 4) + 4) (h5 : 0 ≤ f_q ∧ f_q ≤ 980) (h6 : 0 ≤ z148 ∧ z148 ≤ 1000) (h7 : 0 ≤ z157 ∧ z157 ≤ 1000) (h8 : 0 ≤ z166 ∧ z166 ≤ 1000) (h9 : 0 ≤ z175 ∧ z175 ≤ 1000) : ((((f_q + 4) + 4) + 4) + 4) ≤ 996 := by omega
theorem vc_X11_feed_w_7 {f_q z148 z157 z166 z175 z184 : Int} (h0 : (f_q + 20) ≤ 1000) (h1 : z148 = f_q + 4) (h2 : z157 = (f_q + 4) + 4) (h3 : z166 = ((f_q + 4) + 4) + 4) (h4 : z175 = (((f_q + 4) + 4) + 4) + 4) (h5 : z184 = ((((f_q + 4) + 4) + 4) + 4) + 4) (h6 : 0 ≤ f_q ∧ f_q ≤ 980) (h7 : 0 ≤ z148 ∧ z148 ≤ 1000) (h8 : 0 ≤ z157 ∧ z157 ≤ 1000) (h9 : 0 ≤ z166 ∧ z166 ≤ 1000) (h10 : 0 ≤ z175 ∧ z175 ≤ 1000) (h11 : 0 ≤ z184 ∧ z184 ≤ 1000) : f_q ≤ 980 → (((((f_q + 4) + 4) + 4) + 4) + 4) = f_q + 20 ∧ (((((f_q + 4) + 4) + 4) + 4) + 4) = f_q + 20 := by omega
theorem vc_X11_feed_w_8 {f_q z148 z157 z166 z175 z184 : Int} (h0 : (f_q + 20) ≤ 1000) (h1 : z148 = f_q + 4) (h2 : z157 = (f_q + 4) + 4) (h3 : z166 = ((f_q + 4) + 4) + 4) (h4 : z175 = (((f_q + 4) + 4) + 4) + 4) (h5 : z184 = ((((f_q + 4) + 4) + 4) + 4) + 4) (h6 : 0 ≤ f_q ∧ f_q ≤ 980) (h7 : 0 ≤ z148 ∧ z148 ≤ 1000) (h8 : 0 ≤ z157 ∧ z157 ≤ 1000) (h9 : 0 ≤ z166 ∧ z166 ≤ 1000) (h10 : 0 ≤ z175 ∧ z175 ≤ 1000) (h11 : 0 ≤ z184 ∧ z184 ≤ 1000) : 980 < f_q → (((((f_q + 4) + 4) + 4) + 4) + 4) = -3 ∧ (((((f_q + 4) + 4) + 4) + 4) + 4) = f_q := by omega
theorem vc_X11_feed_w_9 {f_q z148 z157 z166 z175 z184 : Int} (h0 : (f_q + 20) ≤ 1000) (h1 : z148 = f_q + 4) (h2 : z157 = (f_q + 4) + 4) (h3 : z166 = ((f_q + 4) + 4) + 4) (h4 : z175 = (((f_q + 4) + 4) + 4) + 4) (h5 : z184 = ((((f_q + 4) + 4) + 4) + 4) + 4) (h6 : 0 ≤ f_q ∧ f_q ≤ 980) (h7 : 0 ≤ z148 ∧ z148 ≤ 1000) (h8 : 0 ≤ z157 ∧ z157 ≤ 1000) (h9 : 0 ≤ z166 ∧ z166 ≤ 1000) (h10 : 0 ≤ z175 ∧ z175 ≤ 1000) (h11 : 0 ≤ z184 ∧ z184 ≤ 1000) : (f_q + 4) = f_q + 4 := by omega
theorem vc_X11_feed_w_10 {f_q z148 z157 z166 z175 z184 : Int} (h0 : (f_q + 20) ≤ 1000) (h1 : z148 = f_q + 4) (h2 : z157 = (f_q + 4) + 4) (h3 : z166 = ((f_q + 4) + 4) + 4) (h4 : z175 = (((f_q + 4) + 4) + 4) + 4) (h5 : z184 = ((((f_q + 4) + 4) + 4) + 4) + 4) (h6 : 0 ≤ f_q ∧ f_q ≤ 980) (h7 : 0 ≤ z148 ∧ z148 ≤ 1000) (h8 : 0 ≤ z157 ∧ z157 ≤ 1000) (h9 : 0 ≤ z166 ∧ z166 ≤ 1000) (h10 : 0 ≤ z175 ∧ z175 ≤ 1000) (h11 : 0 ≤ z184 ∧ z184 ≤ 1000) : ((f_q + 4) + 4) = f_q + 8 := by omega
theorem vc_X11_feed_w_11 {f_q z148 z157 z166 z175 z184 : Int} (h0 : (f_q + 20) ≤ 1000) (h1 : z148 = f_q + 4) (h2 : z157 = (f_q + 4) + 4) (h3 : z166 = ((f_q + 4) + 4) + 4) (h4 : z175 = (((f_q + 4) + 4) + 4) + 4) (h5 : z184 = ((((f_q + 4) + 4) + 4) + 4) + 4) (h6 : 0 ≤ f_q ∧ f_q ≤ 980) (h7 : 0 ≤ z148 ∧ z148 ≤ 1000) (h8 : 0 ≤ z157 ∧ z157 ≤ 1000) (h9 : 0 ≤ z166 ∧ z166 ≤ 1000) (h10 : 0 ≤ z175 ∧ z175 ≤ 1000) (h11 : 0 ≤ z184 ∧ z184 ≤ 1000) : (((f_q + 4) + 4) + 4) = f_q + 12 := by omega
theorem vc_X11_feed_w_12 {f_q z148 z157 z166 z175 z184 : Int} (h0 : (f_q + 20) ≤ 1000) (h1 : z148 = f_q + 4) (h2 : z157 = (f_q + 4) + 4) (h3 : z166 = ((f_q + 4) + 4) + 4) (h4 : z175 = (((f_q + 4) + 4) + 4) + 4) (h5 : z184 = ((((f_q + 4) + 4) + 4) + 4) + 4) (h6 : 0 ≤ f_q ∧ f_q ≤ 980) (h7 : 0 ≤ z148 ∧ z148 ≤ 1000) (h8 : 0 ≤ z157 ∧ z157 ≤ 1000) (h9 : 0 ≤ z166 ∧ z166 ≤ 1000) (h10 : 0 ≤ z175 ∧ z175 ≤ 1000) (h11 : 0 ≤ z184 ∧ z184 ≤ 1000) : ((((f_q + 4) + 4) + 4) + 4) = f_q + 16 := by omega
theorem vc_X11_feed_w_13 {f_q z148 z157 z166 z175 z184 : Int} (h0 : (f_q + 20) ≤ 1000) (h1 : z148 = f_q + 4) (h2 : z157 = (f_q + 4) + 4) (h3 : z166 = ((f_q + 4) + 4) + 4) (h4 : z175 = (((f_q + 4) + 4) + 4) + 4) (h5 : z184 = ((((f_q + 4) + 4) + 4) + 4) + 4) (h6 : 0 ≤ f_q ∧ f_q ≤ 980) (h7 : 0 ≤ z148 ∧ z148 ≤ 1000) (h8 : 0 ≤ z157 ∧ z157 ≤ 1000) (h9 : 0 ≤ z166 ∧ z166 ≤ 1000) (h10 : 0 ≤ z175 ∧ z175 ≤ 1000) (h11 : 0 ≤ z184 ∧ z184 ≤ 1000) : 0 ≤ (((((f_q + 4) + 4) + 4) + 4) + 4) := by omega
theorem vc_X11_feed_w_14 {f_q z148 z157 z166 z175 z184 : Int} (h0 : (f_q + 20) ≤ 1000) (h1 : z148 = f_q + 4) (h2 : z157 = (f_q + 4) + 4) (h3 : z166 = ((f_q + 4) + 4) + 4) (h4 : z175 = (((f_q + 4) + 4) + 4) + 4) (h5 : z184 = ((((f_q + 4) + 4) + 4) + 4) + 4) (h6 : 0 ≤ f_q ∧ f_q ≤ 980) (h7 : 0 ≤ z148 ∧ z148 ≤ 1000) (h8 : 0 ≤ z157 ∧ z157 ≤ 1000) (h9 : 0 ≤ z166 ∧ z166 ≤ 1000) (h10 : 0 ≤ z175 ∧ z175 ≤ 1000) (h11 : 0 ≤ z184 ∧ z184 ≤ 1000) : 0 ≤ f_q := by omega
theorem vc_X11_feed_w_15 {f_q : Int} (h0 : 1000 < (f_q + 20)) (h1 : 0 ≤ f_q ∧ f_q ≤ 1000) : 981 ≤ f_q ∧ f_q ≤ 1000 := by omega
theorem vc_X11_feed_w_16 {f_q : Int} (h0 : 1000 < (f_q + 20)) (h1 : 981 ≤ f_q ∧ f_q ≤ 1000) : f_q ≤ 980 → (-3 : Int) = f_q + 20 ∧ f_q = f_q + 20 := by omega
theorem vc_X11_feed_w_17 {f_q : Int} (h0 : 1000 < (f_q + 20)) (h1 : 981 ≤ f_q ∧ f_q ≤ 1000) : 980 < f_q → (-3 : Int) = -3 ∧ f_q = f_q := by omega
set_option maxRecDepth 4000 in
set_option maxHeartbeats 4000000 in
theorem c_X11_feed_w {l : Launch} {D : va_G} {c : Nat → ClassId} {H0 : Heap} {sa : Nat × Nat × (Nat → Int32)} {w : mW} {μ : mM} (hw : mWF w) (hT : mT w μ) {p1 : Int} (hp1 : (-2147483648) ≤ p1 ∧ p1 ≤ 2147483647) {p2 : Int} (hp2 : (-2147483648) ≤ p2 ∧ p2 ≤ 2147483647) {p3 : Int} (hp3 : (-2147483648) ≤ p3 ∧ p3 ≤ 2147483647) {p4 : Int} (hp4 : (-2147483648) ≤ p4 ∧ p4 ≤ 2147483647) {p5 : Int} (hp5 : (-2147483648) ≤ p5 ∧ p5 ≤ 2147483647) {f_q : Int} (q_f_q : μ 0 10 = f_q) : sC (gG l D c H0 sa) mX11_feed 2 0 0 [.ref 0, iv p1, iv p2, iv p3, iv p4, iv p5] (mk w μ) (qI w [10, 1999] μ (fun z μ1 => ∃ o_q : Int, μ1 0 10 = o_q ∧ ((-2147483648) ≤ z ∧ z ≤ 2147483647) ∧ (f_q ≤ 980 → z = f_q + 20 ∧ o_q = f_q + 20) ∧ (980 < f_q → z = -3 ∧ o_q = f_q) ∧ (((z < 0 ∧ μ1 1 = μ 1) ∨ (0 ≤ z ∧ fdC μ μ1 f_q p1 p2 p3 p4 p5))) ∧ True)) := by
  refine sC.of rfl (by decide) (le_t rfl) ?_
  have ht_f_q : (0 ≤ f_q ∧ f_q ≤ 1000) := by rw [← q_f_q]; exact hT 0 0 (A_0 hw) 10
  refine mr_lvE (lv' := [(0, .ref 0), (1, iv p1), (2, iv p2), (3, iv p3), (4, iv p4), (5, iv p5)]) rfl ?_
  refine sv_aload_n (pc := 0) dX11_feed_0 rfl rfl ?_
  refine gk_X11_10 (pc := 1) dX11_feed_1 wF_X11_76 (A_0 hw) q_f_q ?_
  refine mr_bipush (pc := 4) (z := 20) dX11_feed_4 (by decide) ?_
  refine mr_iadd (pc := 6) (x := f_q) (y := 20) dX11_feed_6 ?_
  refine mr_sipush (pc := 7) (z := 1000) dX11_feed_7 (by decide) ?_
  refine mr_icmp_le (pc := 10) (tgt := 16) dX11_feed_10 (by decide) (r32 (rAdd (e := 20) (f := 1020) ht_f_q (rR (x := 20)) rfl) rfl) (r32 (rR (x := 1000)) rfl) (fun h142 => ?_) (fun h142 => ?_)
  · have h143 : 0 ≤ f_q ∧ f_q ≤ 980 := (vc_X11_feed_w_1 h142 ht_f_q)
    refine sv_aload_n (pc := 16) dX11_feed_16 rfl rfl ?_
    refine mr_iload_n (pc := 17) (z := p1) dX11_feed_17 rfl rfl ?_
    refine mr_cVV (pc := 18) (c_X11_feedNumber_v hw hT hp1 q_f_q (vc_X11_feed_w_2 h142 h143)) (gOk _ _ _ _ _) dX11_feed_18 (tX11_feedNumber _ _ _ _ _) ⟨wV_X11_feedNumber, wL_X11_feedNumber⟩ wM_X11_80 (gCX11 _ _ _ _ _) rfl (A_0 hw) rfl ⟨le_t rfl, le_t rfl⟩ ⟨le_t rfl, le_t rfl⟩ rfl (le_t rfl) fun μ144 T145 F146 h147 => ?_
    obtain ⟨z148, q149, h150⟩ := h147
    have h151 : (0 ≤ z148 ∧ z148 ≤ 1000) := by rw [← q149]; exact T145 0 0 (A_0 hw) 10
    have q152 : μ144 0 10 = (f_q + 4) := q149.trans h150.1
    refine sv_aload_n (pc := 21) dX11_feed_21 rfl rfl ?_
    refine mr_iload_n (pc := 22) (z := p2) dX11_feed_22 rfl rfl ?_
    refine mr_cVV (pc := 23) (c_X11_feedNumber_v hw T145 hp2 q152 (vc_X11_feed_w_3 h142 h150.1 h143 h151)) (gOk _ _ _ _ _) dX11_feed_23 (tX11_feedNumber _ _ _ _ _) ⟨wV_X11_feedNumber, wL_X11_feedNumber⟩ wM_X11_80 (gCX11 _ _ _ _ _) rfl (A_0 hw) rfl ⟨le_t rfl, le_t rfl⟩ ⟨le_t rfl, le_t rfl⟩ rfl (le_t rfl) fun μ153 T154 F155 h156 => ?_
    obtain ⟨z157, q158, h159⟩ := h156
    have h160 : (0 ≤ z157 ∧ z157 ≤ 1000) := by rw [← q158]; exact T154 0 0 (A_0 hw) 10
    have q161 : μ153 0 10 = ((f_q + 4) + 4) := q158.trans h159.1
    refine sv_aload_n (pc := 26) dX11_feed_26 rfl rfl ?_
    refine mr_iload_n (pc := 27) (z := p3) dX11_feed_27 rfl rfl ?_
    refine mr_cVV (pc := 28) (c_X11_feedNumber_v hw T154 hp3 q161 (vc_X11_feed_w_4 h142 h150.1 h159.1 h143 h151 h160)) (gOk _ _ _ _ _) dX11_feed_28 (tX11_feedNumber _ _ _ _ _) ⟨wV_X11_feedNumber, wL_X11_feedNumber⟩ wM_X11_80 (gCX11 _ _ _ _ _) rfl (A_0 hw) rfl ⟨le_t rfl, le_t rfl⟩ ⟨le_t rfl, le_t rfl⟩ rfl (le_t rfl) fun μ162 T163 F164 h165 => ?_
    obtain ⟨z166, q167, h168⟩ := h165
    have h169 : (0 ≤ z166 ∧ z166 ≤ 1000) := by rw [← q167]; exact T163 0 0 (A_0 hw) 10
    have q170 : μ162 0 10 = (((f_q + 4) + 4) + 4) := q167.trans h168.1
    refine sv_aload_n (pc := 31) dX11_feed_31 rfl rfl ?_
    refine mr_iload (pc := 32) (z := p4) dX11_feed_32 rfl ?_
    refine mr_cVV (pc := 34) (c_X11_feedNumber_v hw T163 hp4 q170 (vc_X11_feed_w_5 h142 h150.1 h159.1 h168.1 h143 h151 h160 h169)) (gOk _ _ _ _ _) dX11_feed_34 (tX11_feedNumber _ _ _ _ _) ⟨wV_X11_feedNumber, wL_X11_feedNumber⟩ wM_X11_80 (gCX11 _ _ _ _ _) rfl (A_0 hw) rfl ⟨le_t rfl, le_t rfl⟩ ⟨le_t rfl, le_t rfl⟩ rfl (le_t rfl) fun μ171 T172 F173 h174 => ?_
    obtain ⟨z175, q176, h177⟩ := h174
    have h178 : (0 ≤ z175 ∧ z175 ≤ 1000) := by rw [← q176]; exact T172 0 0 (A_0 hw) 10
    have q179 : μ171 0 10 = ((((f_q + 4) + 4) + 4) + 4) := q176.trans h177.1
    refine sv_aload_n (pc := 37) dX11_feed_37 rfl rfl ?_
    refine mr_iload (pc := 38) (z := p5) dX11_feed_38 rfl ?_
    refine mr_cVV (pc := 40) (c_X11_feedNumber_v hw T172 hp5 q179 (vc_X11_feed_w_6 h142 h150.1 h159.1 h168.1 h177.1 h143 h151 h160 h169 h178)) (gOk _ _ _ _ _) dX11_feed_40 (tX11_feedNumber _ _ _ _ _) ⟨wV_X11_feedNumber, wL_X11_feedNumber⟩ wM_X11_80 (gCX11 _ _ _ _ _) rfl (A_0 hw) rfl ⟨le_t rfl, le_t rfl⟩ ⟨le_t rfl, le_t rfl⟩ rfl (le_t rfl) fun μ180 T181 F182 h183 => ?_
    obtain ⟨z184, q185, h186⟩ := h183
    have h187 : (0 ≤ z184 ∧ z184 ≤ 1000) := by rw [← q185]; exact T181 0 0 (A_0 hw) 10
    have q188 : μ180 0 10 = (((((f_q + 4) + 4) + 4) + 4) + 4) := q185.trans h186.1
    refine sv_aload_n (pc := 43) dX11_feed_43 rfl rfl ?_
    refine gk_X11_10 (pc := 44) dX11_feed_44 wF_X11_76 (A_0 hw) q188 ?_
    exact mr_iret dX11_feed_47 rfl (le_t rfl) (le_t rfl) T181 (mF.call (mF.call (mF.call (mF.call (mF.call mF.refl F146 rfl) F155 rfl) F164 rfl) F173 rfl) F182 rfl) ⟨(((((f_q + 4) + 4) + 4) + 4) + 4), q188, (rW (c := (-2147483648)) (d := 2147483647) (rAdd (e := 20) (f := 1000) (rAdd (e := 16) (f := 996) (rAdd (e := 12) (f := 992) (rAdd (e := 8) (f := 988) (rAdd (e := 4) (f := 984) h143 (rR (x := 4)) rfl) (rR (x := 4)) rfl) (rR (x := 4)) rfl) (rR (x := 4)) rfl) (rR (x := 4)) rfl) rfl), (vc_X11_feed_w_7 h142 h150.1 h159.1 h168.1 h177.1 h186.1 h143 h151 h160 h169 h178 h187), (vc_X11_feed_w_8 h142 h150.1 h159.1 h168.1 h177.1 h186.1 h143 h151 h160 h169 h178 h187), (Or.inr ⟨(vc_X11_feed_w_13 h142 h150.1 h159.1 h168.1 h177.1 h186.1 h143 h151 h160 h169 h178 h187), fdC.mk (vc_X11_feed_w_14 h142 h150.1 h159.1 h168.1 h177.1 h186.1 h143 h151 h160 h169 h178 h187) h150.2.1 (vc_X11_feed_w_9 h142 h150.1 h159.1 h168.1 h177.1 h186.1 h143 h151 h160 h169 h178 h187) h159.2.1 (vc_X11_feed_w_10 h142 h150.1 h159.1 h168.1 h177.1 h186.1 h143 h151 h160 h169 h178 h187) h168.2.1 (vc_X11_feed_w_11 h142 h150.1 h159.1 h168.1 h177.1 h186.1 h143 h151 h160 h169 h178 h187) h177.2.1 (vc_X11_feed_w_12 h142 h150.1 h159.1 h168.1 h177.1 h186.1 h143 h151 h160 h169 h178 h187) h186.2.1⟩), trivial⟩
  have h189 : 981 ≤ f_q ∧ f_q ≤ 1000 := (vc_X11_feed_w_15 h142 ht_f_q)
  refine mr_bipush (pc := 13) (z := (-3)) dX11_feed_13 (by decide) ?_
  exact mr_iret dX11_feed_15 rfl (le_t rfl) (le_t rfl) hT mF.refl ⟨f_q, q_f_q, (rW (c := (-2147483648)) (d := 2147483647) (rR (x := (-3))) rfl), (vc_X11_feed_w_16 h142 h189), (vc_X11_feed_w_17 h142 h189), (Or.inl ⟨by decide, rfl⟩), trivial⟩
theorem vc_X12_feed_w_4 {f_q : Int} (h0 : (f_q + 20) ≤ 1000) (h1 : 0 ≤ f_q ∧ f_q ≤ 980) : f_q ≤ 980 → (f_q + 20) = f_q + 20 ∧ (f_q + 20) = f_q + 20 := by omega
theorem vc_X12_feed_w_5 {f_q : Int} (h0 : (f_q + 20) ≤ 1000) (h1 : 0 ≤ f_q ∧ f_q ≤ 980) : 980 < f_q → (f_q + 20) = -3 ∧ (f_q + 20) = f_q := by omega
theorem vc_X12_feed_w_6 {f_q : Int} (h0 : (f_q + 20) ≤ 1000) (h1 : 0 ≤ f_q ∧ f_q ≤ 980) : 0 ≤ (f_q + 20) := by omega
theorem vc_X12_feed_w_7 {z1935 : Int} (h0 : 20 ≤ z1935) (h1 : 20 ≤ z1935 ∧ z1935 ≤ 20) : 20 ≤ z1935 := by omega
theorem vc_X12_feed_w_9 {z1935 : Int} (h0 : 4 ≤ z1935) (h1 : z1935 < 20) (h2 : 0 ≤ z1935 ∧ z1935 ≤ 19) : 4 ≤ z1935 ∧ z1935 ≤ 19 := by omega
theorem vc_X12_feed_w_10 {z1935 : Int} (h0 : 8 ≤ z1935) (h1 : z1935 < 20) (h2 : 4 ≤ z1935) (h3 : 4 ≤ z1935 ∧ z1935 ≤ 19) : 8 ≤ z1935 ∧ z1935 ≤ 19 := by omega
theorem vc_X12_feed_w_11 {z1935 : Int} (h0 : 12 ≤ z1935) (h1 : z1935 < 20) (h2 : 4 ≤ z1935) (h3 : 8 ≤ z1935) (h4 : 8 ≤ z1935 ∧ z1935 ≤ 19) : 12 ≤ z1935 ∧ z1935 ≤ 19 := by omega
theorem vc_X12_feed_w_12 {z1935 : Int} (h0 : 16 ≤ z1935) (h1 : z1935 < 20) (h2 : 4 ≤ z1935) (h3 : 8 ≤ z1935) (h4 : 12 ≤ z1935) (h5 : 12 ≤ z1935 ∧ z1935 ≤ 19) : 16 ≤ z1935 ∧ z1935 ≤ 19 := by omega
theorem vc_X12_feed_w_14 {N z1935 z2029 : Int} (h0 : (21 - z1935) < N + 1) (h1 : z1935 < 20) (h2 : 4 ≤ z1935) (h3 : 8 ≤ z1935) (h4 : 12 ≤ z1935) (h5 : 16 ≤ z1935) (h6 : z1935 % 4 = z2029) (h7 : 16 ≤ z1935 ∧ z1935 ≤ 19) (h8 : 0 ≤ z2029 ∧ z2029 ≤ 3) : (21 - (z1935 + 1)) < N := by omega
theorem vc_X12_feed_w_15 {p1 p2 p3 p4 p5 z1935 z2029 : Int} (h0 : z1935 < 20) (h1 : 4 ≤ z1935) (h2 : 8 ≤ z1935) (h3 : 12 ≤ z1935) (h4 : 16 ≤ z1935) (h5 : z1935 % 4 = z2029) (h6 : (-2147483648) ≤ p1 ∧ p1 ≤ 2147483647) (h7 : (-2147483648) ≤ p2 ∧ p2 ≤ 2147483647) (h8 : (-2147483648) ≤ p3 ∧ p3 ≤ 2147483647) (h9 : (-2147483648) ≤ p4 ∧ p4 ≤ 2147483647) (h10 : (-2147483648) ≤ p5 ∧ p5 ≤ 2147483647) (h11 : 16 ≤ z1935 ∧ z1935 ≤ 19) (h12 : 0 ≤ z2029 ∧ z2029 ≤ 3) : (z1935 < 4 ∧ p5 = p1) ∨ (4 ≤ z1935 ∧ z1935 < 8 ∧ p5 = p2) ∨ (8 ≤ z1935 ∧ z1935 < 12 ∧ p5 = p3) ∨ (12 ≤ z1935 ∧ z1935 < 16 ∧ p5 = p4) ∨ (16 ≤ z1935 ∧ p5 = p5) := by omega
theorem vc_X12_feed_w_16 {f_q : Int} (h0 : (f_q + 20) ≤ 1000) (h1 : 0 ≤ f_q ∧ f_q ≤ 980) : 0 ≤ f_q := by omega
theorem vc_X12_feed_w_17 {z1935 z2029 : Int} (h0 : z1935 < 20) (h1 : 4 ≤ z1935) (h2 : 8 ≤ z1935) (h3 : 12 ≤ z1935) (h4 : 16 ≤ z1935) (h5 : z1935 % 4 = z2029) (h6 : 16 ≤ z1935 ∧ z1935 ≤ 19) (h7 : 0 ≤ z2029 ∧ z2029 ≤ 3) : 0 ≤ z1935 := by omega
theorem vc_X12_feed_w_18 {z1935 z2029 : Int} (h0 : z1935 < 20) (h1 : 4 ≤ z1935) (h2 : 8 ≤ z1935) (h3 : 12 ≤ z1935) (h4 : 16 ≤ z1935) (h5 : z1935 % 4 = z2029) (h6 : 16 ≤ z1935 ∧ z1935 ≤ 19) (h7 : 0 ≤ z2029 ∧ z2029 ≤ 3) : (24 - (8 * z2029)) = 0 ∨ (24 - (8 * z2029)) = 8 ∨ (24 - (8 * z2029)) = 16 ∨ (24 - (8 * z2029)) = 24 := by omega
theorem vc_X12_feed_w_19 {z1935 z2029 : Int} (h0 : z1935 < 20) (h1 : 4 ≤ z1935) (h2 : 8 ≤ z1935) (h3 : 12 ≤ z1935) (h4 : 16 ≤ z1935) (h5 : z1935 % 4 = z2029) (h6 : 16 ≤ z1935 ∧ z1935 ≤ 19) (h7 : 0 ≤ z2029 ∧ z2029 ≤ 3) : (24 - (8 * z2029)) = 24 - 8 * (z1935 % 4) := by omega
theorem vc_X12_feed_w_20 {f_q z1935 z2029 : Int} (h0 : (f_q + 20) ≤ 1000) (h1 : z1935 < 20) (h2 : 4 ≤ z1935) (h3 : 8 ≤ z1935) (h4 : 12 ≤ z1935) (h5 : 16 ≤ z1935) (h6 : z1935 % 4 = z2029) (h7 : 0 ≤ f_q ∧ f_q ≤ 980) (h8 : 16 ≤ z1935 ∧ z1935 ≤ 19) (h9 : 0 ≤ z2029 ∧ z2029 ≤ 3) : (f_q + z1935) = f_q + z1935 := by omega
theorem vc_X12_feed_w_21 {z1935 : Int} (h0 : z1935 < 16) (h1 : z1935 < 20) (h2 : 4 ≤ z1935) (h3 : 8 ≤ z1935) (h4 : 12 ≤ z1935) (h5 : 12 ≤ z1935 ∧ z1935 ≤ 19) : 12 ≤ z1935 ∧ z1935 ≤ 15 := by omega
theorem vc_X12_feed_w_22 {N z1935 z2042 : Int} (h0 : (21 - z1935) < N + 1) (h1 : z1935 < 20) (h2 : 4 ≤ z1935) (h3 : 8 ≤ z1935) (h4 : 12 ≤ z1935) (h5 : z1935 < 16) (h6 : z1935 % 4 = z2042) (h7 : 12 ≤ z1935 ∧ z1935 ≤ 15) (h8 : 0 ≤ z2042 ∧ z2042 ≤ 3) : (21 - (z1935 + 1)) < N := by omega
theorem vc_X12_feed_w_23 {p1 p2 p3 p4 p5 z1935 z2042 : Int} (h0 : z1935 < 20) (h1 : 4 ≤ z1935) (h2 : 8 ≤ z1935) (h3 : 12 ≤ z1935) (h4 : z1935 < 16) (h5 : z1935 % 4 = z2042) (h6 : (-2147483648) ≤ p1 ∧ p1 ≤ 2147483647) (h7 : (-2147483648) ≤ p2 ∧ p2 ≤ 2147483647) (h8 : (-2147483648) ≤ p3 ∧ p3 ≤ 2147483647) (h9 : (-2147483648) ≤ p4 ∧ p4 ≤ 2147483647) (h10 : (-2147483648) ≤ p5 ∧ p5 ≤ 2147483647) (h11 : 12 ≤ z1935 ∧ z1935 ≤ 15) (h12 : 0 ≤ z2042 ∧ z2042 ≤ 3) : (z1935 < 4 ∧ p4 = p1) ∨ (4 ≤ z1935 ∧ z1935 < 8 ∧ p4 = p2) ∨ (8 ≤ z1935 ∧ z1935 < 12 ∧ p4 = p3) ∨ (12 ≤ z1935 ∧ z1935 < 16 ∧ p4 = p4) ∨ (16 ≤ z1935 ∧ p4 = p5) := by omega
theorem vc_X12_feed_w_24 {z1935 z2042 : Int} (h0 : z1935 < 20) (h1 : 4 ≤ z1935) (h2 : 8 ≤ z1935) (h3 : 12 ≤ z1935) (h4 : z1935 < 16) (h5 : z1935 % 4 = z2042) (h6 : 12 ≤ z1935 ∧ z1935 ≤ 15) (h7 : 0 ≤ z2042 ∧ z2042 ≤ 3) : 0 ≤ z1935 := by omega
theorem vc_X12_feed_w_25 {z1935 z2042 : Int} (h0 : z1935 < 20) (h1 : 4 ≤ z1935) (h2 : 8 ≤ z1935) (h3 : 12 ≤ z1935) (h4 : z1935 < 16) (h5 : z1935 % 4 = z2042) (h6 : 12 ≤ z1935 ∧ z1935 ≤ 15) (h7 : 0 ≤ z2042 ∧ z2042 ≤ 3) : (24 - (8 * z2042)) = 0 ∨ (24 - (8 * z2042)) = 8 ∨ (24 - (8 * z2042)) = 16 ∨ (24 - (8 * z2042)) = 24 := by omega
theorem vc_X12_feed_w_26 {z1935 z2042 : Int} (h0 : z1935 < 20) (h1 : 4 ≤ z1935) (h2 : 8 ≤ z1935) (h3 : 12 ≤ z1935) (h4 : z1935 < 16) (h5 : z1935 % 4 = z2042) (h6 : 12 ≤ z1935 ∧ z1935 ≤ 15) (h7 : 0 ≤ z2042 ∧ z2042 ≤ 3) : (24 - (8 * z2042)) = 24 - 8 * (z1935 % 4) := by omega
theorem vc_X12_feed_w_27 {f_q z1935 z2042 : Int} (h0 : (f_q + 20) ≤ 1000) (h1 : z1935 < 20) (h2 : 4 ≤ z1935) (h3 : 8 ≤ z1935) (h4 : 12 ≤ z1935) (h5 : z1935 < 16) (h6 : z1935 % 4 = z2042) (h7 : 0 ≤ f_q ∧ f_q ≤ 980) (h8 : 12 ≤ z1935 ∧ z1935 ≤ 15) (h9 : 0 ≤ z2042 ∧ z2042 ≤ 3) : (f_q + z1935) = f_q + z1935 := by omega
theorem vc_X12_feed_w_28 {z1935 : Int} (h0 : z1935 < 12) (h1 : z1935 < 20) (h2 : 4 ≤ z1935) (h3 : 8 ≤ z1935) (h4 : 8 ≤ z1935 ∧ z1935 ≤ 19) : 8 ≤ z1935 ∧ z1935 ≤ 11 := by omega
theorem vc_X12_feed_w_29 {N z1935 z2055 : Int} (h0 : (21 - z1935) < N + 1) (h1 : z1935 < 20) (h2 : 4 ≤ z1935) (h3 : 8 ≤ z1935) (h4 : z1935 < 12) (h5 : z1935 % 4 = z2055) (h6 : 8 ≤ z1935 ∧ z1935 ≤ 11) (h7 : 0 ≤ z2055 ∧ z2055 ≤ 3) : (21 - (z1935 + 1)) < N := by omega
theorem vc_X12_feed_w_30 {p1 p2 p3 p4 p5 z1935 z2055 : Int} (h0 : z1935 < 20) (h1 : 4 ≤ z1935) (h2 : 8 ≤ z1935) (h3 : z1935 < 12) (h4 : z1935 % 4 = z2055) (h5 : (-2147483648) ≤ p1 ∧ p1 ≤ 2147483647) (h6 : (-2147483648) ≤ p2 ∧ p2 ≤ 2147483647) (h7 : (-2147483648) ≤ p3 ∧ p3 ≤ 2147483647) (h8 : (-2147483648) ≤ p4 ∧ p4 ≤ 2147483647) (h9 : (-2147483648) ≤ p5 ∧ p5 ≤ 2147483647) (h10 : 8 ≤ z1935 ∧ z1935 ≤ 11) (h11 : 0 ≤ z2055 ∧ z2055 ≤ 3) : (z1935 < 4 ∧ p3 = p1) ∨ (4 ≤ z1935 ∧ z1935 < 8 ∧ p3 = p2) ∨ (8 ≤ z1935 ∧ z1935 < 12 ∧ p3 = p3) ∨ (12 ≤ z1935 ∧ z1935 < 16 ∧ p3 = p4) ∨ (16 ≤ z1935 ∧ p3 = p5) := by omega
theorem vc_X12_feed_w_31 {z1935 z2055 : Int} (h0 : z1935 < 20) (h1 : 4 ≤ z1935) (h2 : 8 ≤ z1935) (h3 : z1935 < 12) (h4 : z1935 % 4 = z2055) (h5 : 8 ≤ z1935 ∧ z1935 ≤ 11) (h6 : 0 ≤ z2055 ∧ z2055 ≤ 3) : 0 ≤ z1935 := by omega
theorem vc_X12_feed_w_32 {z1935 z2055 : Int} (h0 : z1935 < 20) (h1 : 4 ≤ z1935) (h2 : 8 ≤ z1935) (h3 : z1935 < 12) (h4 : z1935 % 4 = z2055) (h5 : 8 ≤ z1935 ∧ z1935 ≤ 11) (h6 : 0 ≤ z2055 ∧ z2055 ≤ 3) : (24 - (8 * z2055)) = 0 ∨ (24 - (8 * z2055)) = 8 ∨ (24 - (8 * z2055)) = 16 ∨ (24 - (8 * z2055)) = 24 := by omega
theorem vc_X12_feed_w_33 {z1935 z2055 : Int} (h0 : z1935 < 20) (h1 : 4 ≤ z1935) (h2 : 8 ≤ z1935) (h3 : z1935 < 12) (h4 : z1935 % 4 = z2055) (h5 : 8 ≤ z1935 ∧ z1935 ≤ 11) (h6 : 0 ≤ z2055 ∧ z2055 ≤ 3) : (24 - (8 * z2055)) = 24 - 8 * (z1935 % 4) := by omega
theorem vc_X12_feed_w_34 {f_q z1935 z2055 : Int} (h0 : (f_q + 20) ≤ 1000) (h1 : z1935 < 20) (h2 : 4 ≤ z1935) (h3 : 8 ≤ z1935) (h4 : z1935 < 12) (h5 : z1935 % 4 = z2055) (h6 : 0 ≤ f_q ∧ f_q ≤ 980) (h7 : 8 ≤ z1935 ∧ z1935 ≤ 11) (h8 : 0 ≤ z2055 ∧ z2055 ≤ 3) : (f_q + z1935) = f_q + z1935 := by omega
theorem vc_X12_feed_w_35 {z1935 : Int} (h0 : z1935 < 8) (h1 : z1935 < 20) (h2 : 4 ≤ z1935) (h3 : 4 ≤ z1935 ∧ z1935 ≤ 19) : 4 ≤ z1935 ∧ z1935 ≤ 7 := by omega
theorem vc_X12_feed_w_36 {N z1935 z2068 : Int} (h0 : (21 - z1935) < N + 1) (h1 : z1935 < 20) (h2 : 4 ≤ z1935) (h3 : z1935 < 8) (h4 : z1935 % 4 = z2068) (h5 : 4 ≤ z1935 ∧ z1935 ≤ 7) (h6 : 0 ≤ z2068 ∧ z2068 ≤ 3) : (21 - (z1935 + 1)) < N := by omega
theorem vc_X12_feed_w_37 {p1 p2 p3 p4 p5 z1935 z2068 : Int} (h0 : z1935 < 20) (h1 : 4 ≤ z1935) (h2 : z1935 < 8) (h3 : z1935 % 4 = z2068) (h4 : (-2147483648) ≤ p1 ∧ p1 ≤ 2147483647) (h5 : (-2147483648) ≤ p2 ∧ p2 ≤ 2147483647) (h6 : (-2147483648) ≤ p3 ∧ p3 ≤ 2147483647) (h7 : (-2147483648) ≤ p4 ∧ p4 ≤ 2147483647) (h8 : (-2147483648) ≤ p5 ∧ p5 ≤ 2147483647) (h9 : 4 ≤ z1935 ∧ z1935 ≤ 7) (h10 : 0 ≤ z2068 ∧ z2068 ≤ 3) : (z1935 < 4 ∧ p2 = p1) ∨ (4 ≤ z1935 ∧ z1935 < 8 ∧ p2 = p2) ∨ (8 ≤ z1935 ∧ z1935 < 12 ∧ p2 = p3) ∨ (12 ≤ z1935 ∧ z1935 < 16 ∧ p2 = p4) ∨ (16 ≤ z1935 ∧ p2 = p5) := by omega
theorem vc_X12_feed_w_38 {z1935 z2068 : Int} (h0 : z1935 < 20) (h1 : 4 ≤ z1935) (h2 : z1935 < 8) (h3 : z1935 % 4 = z2068) (h4 : 4 ≤ z1935 ∧ z1935 ≤ 7) (h5 : 0 ≤ z2068 ∧ z2068 ≤ 3) : 0 ≤ z1935 := by omega
theorem vc_X12_feed_w_39 {z1935 z2068 : Int} (h0 : z1935 < 20) (h1 : 4 ≤ z1935) (h2 : z1935 < 8) (h3 : z1935 % 4 = z2068) (h4 : 4 ≤ z1935 ∧ z1935 ≤ 7) (h5 : 0 ≤ z2068 ∧ z2068 ≤ 3) : (24 - (8 * z2068)) = 0 ∨ (24 - (8 * z2068)) = 8 ∨ (24 - (8 * z2068)) = 16 ∨ (24 - (8 * z2068)) = 24 := by omega
theorem vc_X12_feed_w_40 {z1935 z2068 : Int} (h0 : z1935 < 20) (h1 : 4 ≤ z1935) (h2 : z1935 < 8) (h3 : z1935 % 4 = z2068) (h4 : 4 ≤ z1935 ∧ z1935 ≤ 7) (h5 : 0 ≤ z2068 ∧ z2068 ≤ 3) : (24 - (8 * z2068)) = 24 - 8 * (z1935 % 4) := by omega
theorem vc_X12_feed_w_41 {f_q z1935 z2068 : Int} (h0 : (f_q + 20) ≤ 1000) (h1 : z1935 < 20) (h2 : 4 ≤ z1935) (h3 : z1935 < 8) (h4 : z1935 % 4 = z2068) (h5 : 0 ≤ f_q ∧ f_q ≤ 980) (h6 : 4 ≤ z1935 ∧ z1935 ≤ 7) (h7 : 0 ≤ z2068 ∧ z2068 ≤ 3) : (f_q + z1935) = f_q + z1935 := by omega
theorem vc_X12_feed_w_42 {z1935 : Int} (h0 : z1935 < 4) (h1 : z1935 < 20) (h2 : 0 ≤ z1935 ∧ z1935 ≤ 19) : 0 ≤ z1935 ∧ z1935 ≤ 3 := by omega
theorem vc_X12_feed_w_43 {N z1935 z2081 : Int} (h0 : (21 - z1935) < N + 1) (h1 : z1935 < 20) (h2 : z1935 < 4) (h3 : z1935 % 4 = z2081) (h4 : 0 ≤ z1935 ∧ z1935 ≤ 3) (h5 : 0 ≤ z2081 ∧ z2081 ≤ 3) : (21 - (z1935 + 1)) < N := by omega
theorem vc_X12_feed_w_44 {p1 p2 p3 p4 p5 z1935 z2081 : Int} (h0 : z1935 < 20) (h1 : z1935 < 4) (h2 : z1935 % 4 = z2081) (h3 : (-2147483648) ≤ p1 ∧ p1 ≤ 2147483647) (h4 : (-2147483648) ≤ p2 ∧ p2 ≤ 2147483647) (h5 : (-2147483648) ≤ p3 ∧ p3 ≤ 2147483647) (h6 : (-2147483648) ≤ p4 ∧ p4 ≤ 2147483647) (h7 : (-2147483648) ≤ p5 ∧ p5 ≤ 2147483647) (h8 : 0 ≤ z1935 ∧ z1935 ≤ 3) (h9 : 0 ≤ z2081 ∧ z2081 ≤ 3) : (z1935 < 4 ∧ p1 = p1) ∨ (4 ≤ z1935 ∧ z1935 < 8 ∧ p1 = p2) ∨ (8 ≤ z1935 ∧ z1935 < 12 ∧ p1 = p3) ∨ (12 ≤ z1935 ∧ z1935 < 16 ∧ p1 = p4) ∨ (16 ≤ z1935 ∧ p1 = p5) := by omega
theorem vc_X12_feed_w_45 {z1935 z2081 : Int} (h0 : z1935 < 20) (h1 : z1935 < 4) (h2 : z1935 % 4 = z2081) (h3 : 0 ≤ z1935 ∧ z1935 ≤ 3) (h4 : 0 ≤ z2081 ∧ z2081 ≤ 3) : 0 ≤ z1935 := by omega
theorem vc_X12_feed_w_46 {z1935 z2081 : Int} (h0 : z1935 < 20) (h1 : z1935 < 4) (h2 : z1935 % 4 = z2081) (h3 : 0 ≤ z1935 ∧ z1935 ≤ 3) (h4 : 0 ≤ z2081 ∧ z2081 ≤ 3) : (24 - (8 * z2081)) = 0 ∨ (24 - (8 * z2081)) = 8 ∨ (24 - (8 * z2081)) = 16 ∨ (24 - (8 * z2081)) = 24 := by omega
theorem vc_X12_feed_w_47 {z1935 z2081 : Int} (h0 : z1935 < 20) (h1 : z1935 < 4) (h2 : z1935 % 4 = z2081) (h3 : 0 ≤ z1935 ∧ z1935 ≤ 3) (h4 : 0 ≤ z2081 ∧ z2081 ≤ 3) : (24 - (8 * z2081)) = 24 - 8 * (z1935 % 4) := by omega
theorem vc_X12_feed_w_48 {f_q z1935 z2081 : Int} (h0 : (f_q + 20) ≤ 1000) (h1 : z1935 < 20) (h2 : z1935 < 4) (h3 : z1935 % 4 = z2081) (h4 : 0 ≤ f_q ∧ f_q ≤ 980) (h5 : 0 ≤ z1935 ∧ z1935 ≤ 3) (h6 : 0 ≤ z2081 ∧ z2081 ≤ 3) : (f_q + z1935) = f_q + z1935 := by omega
theorem vc_X12_feed_w_50  : ((0 : Int) : Int) ≤ (0 : Int) := by omega
set_option maxRecDepth 4000 in
set_option maxHeartbeats 4000000 in
theorem c_X12_feed_w {l : Launch} {D : va_G} {c : Nat → ClassId} {H0 : Heap} {sa : Nat × Nat × (Nat → Int32)} {w : mW} {μ : mM} (hw : mWF w) (hT : mT w μ) {p1 : Int} (hp1 : (-2147483648) ≤ p1 ∧ p1 ≤ 2147483647) {p2 : Int} (hp2 : (-2147483648) ≤ p2 ∧ p2 ≤ 2147483647) {p3 : Int} (hp3 : (-2147483648) ≤ p3 ∧ p3 ≤ 2147483647) {p4 : Int} (hp4 : (-2147483648) ≤ p4 ∧ p4 ≤ 2147483647) {p5 : Int} (hp5 : (-2147483648) ≤ p5 ∧ p5 ≤ 2147483647) {f_q : Int} (q_f_q : μ 106 1 = f_q) : sC (gG l D c H0 sa) mX12_feed 1 0 0 [.ref 106, iv p1, iv p2, iv p3, iv p4, iv p5] (mk w μ) (qI w [106001, 107999] μ (fun z μ1 => ∃ o_q : Int, μ1 106 1 = o_q ∧ ((-2147483648) ≤ z ∧ z ≤ 2147483647) ∧ (f_q ≤ 980 → z = f_q + 20 ∧ o_q = f_q + 20) ∧ (980 < f_q → z = -3 ∧ o_q = f_q) ∧ (((z < 0 ∧ μ1 107 = μ 107) ∨ (0 ≤ z ∧ fdR μ μ1 f_q 20 p1 p2 p3 p4 p5))) ∧ True)) := by
  refine sC.of rfl (by decide) (le_t rfl) ?_
  have ht_f_q : (0 ≤ f_q ∧ f_q ≤ 1000) := by rw [← q_f_q]; exact hT 106 106 (A_106 hw) 1
  refine mr_lvE (lv' := [(0, .ref 106), (1, iv p1), (2, iv p2), (3, iv p3), (4, iv p4), (5, iv p5)]) rfl ?_
  refine sv_aload_n (pc := 0) dX12_feed_0 rfl rfl ?_
  refine gk_X12_1 (pc := 1) dX12_feed_1 wF_X12_1 (A_106 hw) q_f_q ?_
  refine mr_bipush (pc := 4) (z := 20) dX12_feed_4 (by decide) ?_
  refine mr_iadd (pc := 6) (x := f_q) (y := 20) dX12_feed_6 ?_
  refine mr_sipush (pc := 7) (z := 1000) dX12_feed_7 (by decide) ?_
  refine mr_icmp_le (pc := 10) (tgt := 16) dX12_feed_10 (by decide) (r32 (rAdd (e := 20) (f := 1020) ht_f_q (rR (x := 20)) rfl) rfl) (r32 (rR (x := 1000)) rfl) (fun h1111 => ?_) (fun h1111 => ?_)
  · have h1112 : 0 ≤ f_q ∧ f_q ≤ 980 := (vc_X11_feed_w_1 h1111 ht_f_q)
    refine mr_iconst (pc := 16) (z := 0) dX12_feed_16 ?_
    refine mr_istore (pc := 17) (lv' := [(6, iv 0), (0, .ref 106), (1, iv p1), (2, iv p2), (3, iv p3), (4, iv p4), (5, iv p5)]) dX12_feed_17 (by decide) rfl ?_
    have L1937 : ∀ (nL1937 : Nat) (z1935 : Int) (μ1936 : mM), mT w μ1936 → mF [107999] w μ μ1936 → (0 ≤ z1935 ∧ z1935 ≤ 20) → fdR μ μ1936 f_q z1935 p1 p2 p3 p4 p5 → (21 - z1935) < (nL1937 : Int) → sV (gG l D c H0 sa) mX12_feed (sRm 1 0 0) (sZ (gG l D c H0 sa) 0 0 (qI w [106001, 107999] μ (fun z μ1 => ∃ o_q : Int, μ1 106 1 = o_q ∧ ((-2147483648) ≤ z ∧ z ≤ 2147483647) ∧ (f_q ≤ 980 → z = f_q + 20 ∧ o_q = f_q + 20) ∧ (980 < f_q → z = -3 ∧ o_q = f_q) ∧ (((z < 0 ∧ μ1 107 = μ 107) ∨ (0 ≤ z ∧ fdR μ μ1 f_q 20 p1 p2 p3 p4 p5))) ∧ True))) 19 [(0, .ref 106), (1, iv p1), (2, iv p2), (3, iv p3), (4, iv p4), (5, iv p5), (6, iv z1935)] [] (mk w μ1936) 0 0 := by
      intro nL1937
      induction nL1937 with
      | zero => intro z1935 μ1936 T1939 F1940 h1938 R1942 h1943; exact ((vc_X12_tieOf_1 h1943 h1938)).elim
      | succ nL1937 ih1944 =>
        intro z1935 μ1936 T1939 F1940 h1938 R1942 h1943
        refine mr_iload (pc := 19) (z := z1935) dX12_feed_19 rfl ?_
        refine mr_bipush (pc := 21) (z := 20) dX12_feed_21 (by decide) ?_
        refine mr_icmp_ge (pc := 23) (tgt := 106) dX12_feed_23 (by decide) (r32 h1938 rfl) (r32 (rR (x := 20)) rfl) (fun h2015 => ?_) (fun h2015 => ?_)
        · have h2016 : 20 ≤ z1935 ∧ z1935 ≤ 20 := (vc_X12_same_29 h2015 h1938)
          refine sv_aload_n (pc := 106) dX12_feed_106 rfl rfl ?_
          refine sv_dup (pc := 107) dX12_feed_107 rfl ?_
          refine gk_X12_1 (pc := 108) dX12_feed_108 wF_X12_1 (A_106 hw) (F1940.f (A_106 hw) rfl q_f_q) ?_
          refine mr_bipush (pc := 111) (z := 20) dX12_feed_111 (by decide) ?_
          refine mr_iadd (pc := 113) (x := f_q) (y := 20) dX12_feed_113 ?_
          refine pf_X12_1 (pc := 114) dX12_feed_114 wF_X12_1 (A_106 hw) T1939 (rW (c := 0) (d := 1000) (rAdd (e := 20) (f := 1000) h1112 (rR (x := 20)) rfl) rfl) fun μ2017 u2018 T2019 => ?_
          refine sv_aload_n (pc := 117) dX12_feed_117 rfl rfl ?_
          refine gk_X12_1 (pc := 118) dX12_feed_118 wF_X12_1 (A_106 hw) u2018.1 ?_
          exact mr_iret dX12_feed_121 rfl (le_t rfl) (le_t rfl) T2019 (mF.up (mF.call mF.refl F1940 rfl) (A_106 hw) u2018 rfl) ⟨(f_q + 20), u2018.1, (rW (c := (-2147483648)) (d := 2147483647) (rAdd (e := 20) (f := 1000) h1112 (rR (x := 20)) rfl) rfl), (vc_X12_feed_w_4 h1111 h1112), (vc_X12_feed_w_5 h1111 h1112), (Or.inr ⟨(vc_X12_feed_w_6 h1111 h1112), fdR.of R1942 (rowB (A_107 hw) ((mF.up mF.refl (A_106 hw) u2018 rfl) : mF [106001] w μ1936 μ2017) rfl rfl) (vc_X12_feed_w_7 h2015 h2016)⟩), trivial⟩
        have h2020 : 0 ≤ z1935 ∧ z1935 ≤ 19 := (vc_X12_same_30 h2015 h1938)
        refine mr_iload (pc := 26) (z := z1935) dX12_feed_26 rfl ?_
        refine mr_iconst (pc := 28) (z := 4) dX12_feed_28 ?_
        refine mr_icmp_ge (pc := 29) (tgt := 36) dX12_feed_29 (by decide) (r32 h2020 rfl) (r32 (rR (x := 4)) rfl) (fun h2021 => ?_) (fun h2021 => ?_)
        · have h2022 : 4 ≤ z1935 ∧ z1935 ≤ 19 := (vc_X12_feed_w_9 h2021 h2015 h2020)
          refine mr_iload (pc := 36) (z := z1935) dX12_feed_36 rfl ?_
          refine mr_bipush (pc := 38) (z := 8) dX12_feed_38 (by decide) ?_
          refine mr_icmp_ge (pc := 40) (tgt := 47) dX12_feed_40 (by decide) (r32 h2022 rfl) (r32 (rR (x := 8)) rfl) (fun h2023 => ?_) (fun h2023 => ?_)
          · have h2024 : 8 ≤ z1935 ∧ z1935 ≤ 19 := (vc_X12_feed_w_10 h2023 h2015 h2021 h2022)
            refine mr_iload (pc := 47) (z := z1935) dX12_feed_47 rfl ?_
            refine mr_bipush (pc := 49) (z := 12) dX12_feed_49 (by decide) ?_
            refine mr_icmp_ge (pc := 51) (tgt := 58) dX12_feed_51 (by decide) (r32 h2024 rfl) (r32 (rR (x := 12)) rfl) (fun h2025 => ?_) (fun h2025 => ?_)
            · have h2026 : 12 ≤ z1935 ∧ z1935 ≤ 19 := (vc_X12_feed_w_11 h2025 h2015 h2021 h2023 h2024)
              refine mr_iload (pc := 58) (z := z1935) dX12_feed_58 rfl ?_
              refine mr_bipush (pc := 60) (z := 16) dX12_feed_60 (by decide) ?_
              refine mr_icmp_ge (pc := 62) (tgt := 70) dX12_feed_62 (by decide) (r32 h2026 rfl) (r32 (rR (x := 16)) rfl) (fun h2027 => ?_) (fun h2027 => ?_)
              · have h2028 : 16 ≤ z1935 ∧ z1935 ≤ 19 := (vc_X12_feed_w_12 h2027 h2015 h2021 h2023 h2025 h2026)
                refine mr_iload (pc := 70) (z := p5) dX12_feed_70 rfl ?_
                refine mr_istore (pc := 72) (lv' := [(7, iv p5), (0, .ref 106), (1, iv p1), (2, iv p2), (3, iv p3), (4, iv p4), (5, iv p5), (6, iv z1935)]) dX12_feed_72 (by decide) rfl ?_
                refine sv_aload_n (pc := 74) dX12_feed_74 rfl rfl ?_
                refine gf_X12_0 (pc := 75) dX12_feed_75 wF_X12_7 (A_106 hw) T1939 ?_
                refine sv_aload_n (pc := 78) dX12_feed_78 rfl rfl ?_
                refine gk_X12_1 (pc := 79) dX12_feed_79 wF_X12_1 (A_106 hw) (F1940.f (A_106 hw) rfl q_f_q) ?_
                refine mr_iload (pc := 82) (z := z1935) dX12_feed_82 rfl ?_
                refine mr_iadd (pc := 84) (x := f_q) (y := z1935) dX12_feed_84 ?_
                refine mr_iload (pc := 85) (z := p5) dX12_feed_85 rfl ?_
                refine mr_bipush (pc := 87) (z := 24) dX12_feed_87 (by decide) ?_
                refine mr_bipush (pc := 89) (z := 8) dX12_feed_89 (by decide) ?_
                refine mr_iload (pc := 91) (z := z1935) dX12_feed_91 rfl ?_
                refine mr_iconst (pc := 93) (z := 4) dX12_feed_93 ?_
                refine mr_irem (pc := 94) (x := z1935) (y := 4) dX12_feed_94 (rW (c := 0) (d := 2147483647) h2028 rfl) vc_X3_readMarks_1 ?_
                refine mr_gen (P := fun z => 0 ≤ z ∧ z ≤ 3) (rMod h2028 rfl) fun z2029 q2030 h2031 => ?_
                refine mr_imul (pc := 95) (x := 8) (y := z2029) dX12_feed_95 ?_
                refine mr_isub (pc := 96) (x := 24) (y := (8 * z2029)) dX12_feed_96 ?_
                refine mr_ishr (pc := 97) (x := p5) (y := (24 - (8 * z2029))) dX12_feed_97 ?_
                refine mr_gen (P := fun z => (-2147483648) ≤ z ∧ z ≤ 2147483647) (r32i _) fun z2032 q2033 h2034 => ?_
                refine mr_i2b (pc := 98) dX12_feed_98 ?_
                refine mr_gen (P := fun z => (-128) ≤ z ∧ z ≤ 127) (rByte _) fun z2035 q2036 h2037 => ?_
                refine ss_107 (pc := 99) dX12_feed_99 (A_107 hw) T1939 (rIx (n := 1000) (rAdd (e := 16) (f := 999) h1112 h2028 rfl) rfl) h2037 fun μ2038 u2039 T2040 => ?_
                refine mr_iinc (pc := 100) (lv' := [(6, iv (z1935 + 1)), (7, iv p5), (0, .ref 106), (1, iv p1), (2, iv p2), (3, iv p3), (4, iv p4), (5, iv p5)]) dX12_feed_100 rfl (by decide) rfl ?_
                refine sv_goto (pc := 103) (tgt := 19) dX12_feed_103 (by decide) ?_
                refine mr_lvS (lv' := [(0, .ref 106), (1, iv p1), (2, iv p2), (3, iv p3), (4, iv p4), (5, iv p5), (6, iv (z1935 + 1))]) (List.forall_mem_cons.mpr ⟨rfl, List.forall_mem_cons.mpr ⟨rfl, List.forall_mem_cons.mpr ⟨rfl, List.forall_mem_cons.mpr ⟨rfl, List.forall_mem_cons.mpr ⟨rfl, List.forall_mem_cons.mpr ⟨rfl, List.forall_mem_cons.mpr ⟨rfl, fun _ h => absurd h List.not_mem_nil⟩⟩⟩⟩⟩⟩⟩) ?_
                exact ih1944 (z1935 + 1) μ2038 T2040 (mF.up (mF.call mF.refl F1940 rfl) (A_107 hw) u2039 rfl) (rW (c := 0) (d := 20) (rAdd (e := 17) (f := 20) h2028 (rR (x := 1)) rfl) rfl) (fdR.next R1942 (vc_X12_feed_w_16 h1111 h1112) (vc_X12_feed_w_17 h2015 h2021 h2023 h2025 h2027 q2030 h2028 h2031) (vc_X12_feed_w_18 h2015 h2021 h2023 h2025 h2027 q2030 h2028 h2031) q2033 q2036 (vc_X12_feed_w_19 h2015 h2021 h2023 h2025 h2027 q2030 h2028 h2031) (fdS.is (vc_X12_feed_w_17 h2015 h2021 h2023 h2025 h2027 q2030 h2028 h2031) (vc_X12_feed_w_15 h2015 h2021 h2023 h2025 h2027 q2030 hp1 hp2 hp3 hp4 hp5 h2028 h2031)) u2039 (vc_X12_feed_w_20 h1111 h2015 h2021 h2023 h2025 h2027 q2030 h1112 h2028 h2031)) (vc_X12_feed_w_14 (nS h1943) h2015 h2021 h2023 h2025 h2027 q2030 h2028 h2031)
              have h2041 : 12 ≤ z1935 ∧ z1935 ≤ 15 := (vc_X12_feed_w_21 h2027 h2015 h2021 h2023 h2025 h2026)
              refine mr_iload (pc := 65) (z := p4) dX12_feed_65 rfl ?_
              refine sv_goto (pc := 67) (tgt := 72) dX12_feed_67 (by decide) ?_
              refine mr_istore (pc := 72) (lv' := [(7, iv p4), (0, .ref 106), (1, iv p1), (2, iv p2), (3, iv p3), (4, iv p4), (5, iv p5), (6, iv z1935)]) dX12_feed_72 (by decide) rfl ?_
              refine sv_aload_n (pc := 74) dX12_feed_74 rfl rfl ?_
              refine gf_X12_0 (pc := 75) dX12_feed_75 wF_X12_7 (A_106 hw) T1939 ?_
              refine sv_aload_n (pc := 78) dX12_feed_78 rfl rfl ?_
              refine gk_X12_1 (pc := 79) dX12_feed_79 wF_X12_1 (A_106 hw) (F1940.f (A_106 hw) rfl q_f_q) ?_
              refine mr_iload (pc := 82) (z := z1935) dX12_feed_82 rfl ?_
              refine mr_iadd (pc := 84) (x := f_q) (y := z1935) dX12_feed_84 ?_
              refine mr_iload (pc := 85) (z := p4) dX12_feed_85 rfl ?_
              refine mr_bipush (pc := 87) (z := 24) dX12_feed_87 (by decide) ?_
              refine mr_bipush (pc := 89) (z := 8) dX12_feed_89 (by decide) ?_
              refine mr_iload (pc := 91) (z := z1935) dX12_feed_91 rfl ?_
              refine mr_iconst (pc := 93) (z := 4) dX12_feed_93 ?_
              refine mr_irem (pc := 94) (x := z1935) (y := 4) dX12_feed_94 (rW (c := 0) (d := 2147483647) h2041 rfl) vc_X3_readMarks_1 ?_
              refine mr_gen (P := fun z => 0 ≤ z ∧ z ≤ 3) (rMod h2041 rfl) fun z2042 q2043 h2044 => ?_
              refine mr_imul (pc := 95) (x := 8) (y := z2042) dX12_feed_95 ?_
              refine mr_isub (pc := 96) (x := 24) (y := (8 * z2042)) dX12_feed_96 ?_
              refine mr_ishr (pc := 97) (x := p4) (y := (24 - (8 * z2042))) dX12_feed_97 ?_
              refine mr_gen (P := fun z => (-2147483648) ≤ z ∧ z ≤ 2147483647) (r32i _) fun z2045 q2046 h2047 => ?_
              refine mr_i2b (pc := 98) dX12_feed_98 ?_
              refine mr_gen (P := fun z => (-128) ≤ z ∧ z ≤ 127) (rByte _) fun z2048 q2049 h2050 => ?_
              refine ss_107 (pc := 99) dX12_feed_99 (A_107 hw) T1939 (rIx (n := 1000) (rAdd (e := 12) (f := 995) h1112 h2041 rfl) rfl) h2050 fun μ2051 u2052 T2053 => ?_
              refine mr_iinc (pc := 100) (lv' := [(6, iv (z1935 + 1)), (7, iv p4), (0, .ref 106), (1, iv p1), (2, iv p2), (3, iv p3), (4, iv p4), (5, iv p5)]) dX12_feed_100 rfl (by decide) rfl ?_
              refine sv_goto (pc := 103) (tgt := 19) dX12_feed_103 (by decide) ?_
              refine mr_lvS (lv' := [(0, .ref 106), (1, iv p1), (2, iv p2), (3, iv p3), (4, iv p4), (5, iv p5), (6, iv (z1935 + 1))]) (List.forall_mem_cons.mpr ⟨rfl, List.forall_mem_cons.mpr ⟨rfl, List.forall_mem_cons.mpr ⟨rfl, List.forall_mem_cons.mpr ⟨rfl, List.forall_mem_cons.mpr ⟨rfl, List.forall_mem_cons.mpr ⟨rfl, List.forall_mem_cons.mpr ⟨rfl, fun _ h => absurd h List.not_mem_nil⟩⟩⟩⟩⟩⟩⟩) ?_
              exact ih1944 (z1935 + 1) μ2051 T2053 (mF.up (mF.call mF.refl F1940 rfl) (A_107 hw) u2052 rfl) (rW (c := 0) (d := 20) (rAdd (e := 13) (f := 16) h2041 (rR (x := 1)) rfl) rfl) (fdR.next R1942 (vc_X12_feed_w_16 h1111 h1112) (vc_X12_feed_w_24 h2015 h2021 h2023 h2025 h2027 q2043 h2041 h2044) (vc_X12_feed_w_25 h2015 h2021 h2023 h2025 h2027 q2043 h2041 h2044) q2046 q2049 (vc_X12_feed_w_26 h2015 h2021 h2023 h2025 h2027 q2043 h2041 h2044) (fdS.is (vc_X12_feed_w_24 h2015 h2021 h2023 h2025 h2027 q2043 h2041 h2044) (vc_X12_feed_w_23 h2015 h2021 h2023 h2025 h2027 q2043 hp1 hp2 hp3 hp4 hp5 h2041 h2044)) u2052 (vc_X12_feed_w_27 h1111 h2015 h2021 h2023 h2025 h2027 q2043 h1112 h2041 h2044)) (vc_X12_feed_w_22 (nS h1943) h2015 h2021 h2023 h2025 h2027 q2043 h2041 h2044)
            have h2054 : 8 ≤ z1935 ∧ z1935 ≤ 11 := (vc_X12_feed_w_28 h2025 h2015 h2021 h2023 h2024)
            refine mr_iload_n (pc := 54) (z := p3) dX12_feed_54 rfl rfl ?_
            refine sv_goto (pc := 55) (tgt := 72) dX12_feed_55 (by decide) ?_
            refine mr_istore (pc := 72) (lv' := [(7, iv p3), (0, .ref 106), (1, iv p1), (2, iv p2), (3, iv p3), (4, iv p4), (5, iv p5), (6, iv z1935)]) dX12_feed_72 (by decide) rfl ?_
            refine sv_aload_n (pc := 74) dX12_feed_74 rfl rfl ?_
            refine gf_X12_0 (pc := 75) dX12_feed_75 wF_X12_7 (A_106 hw) T1939 ?_
            refine sv_aload_n (pc := 78) dX12_feed_78 rfl rfl ?_
            refine gk_X12_1 (pc := 79) dX12_feed_79 wF_X12_1 (A_106 hw) (F1940.f (A_106 hw) rfl q_f_q) ?_
            refine mr_iload (pc := 82) (z := z1935) dX12_feed_82 rfl ?_
            refine mr_iadd (pc := 84) (x := f_q) (y := z1935) dX12_feed_84 ?_
            refine mr_iload (pc := 85) (z := p3) dX12_feed_85 rfl ?_
            refine mr_bipush (pc := 87) (z := 24) dX12_feed_87 (by decide) ?_
            refine mr_bipush (pc := 89) (z := 8) dX12_feed_89 (by decide) ?_
            refine mr_iload (pc := 91) (z := z1935) dX12_feed_91 rfl ?_
            refine mr_iconst (pc := 93) (z := 4) dX12_feed_93 ?_
            refine mr_irem (pc := 94) (x := z1935) (y := 4) dX12_feed_94 (rW (c := 0) (d := 2147483647) h2054 rfl) vc_X3_readMarks_1 ?_
            refine mr_gen (P := fun z => 0 ≤ z ∧ z ≤ 3) (rMod h2054 rfl) fun z2055 q2056 h2057 => ?_
            refine mr_imul (pc := 95) (x := 8) (y := z2055) dX12_feed_95 ?_
            refine mr_isub (pc := 96) (x := 24) (y := (8 * z2055)) dX12_feed_96 ?_
            refine mr_ishr (pc := 97) (x := p3) (y := (24 - (8 * z2055))) dX12_feed_97 ?_
            refine mr_gen (P := fun z => (-2147483648) ≤ z ∧ z ≤ 2147483647) (r32i _) fun z2058 q2059 h2060 => ?_
            refine mr_i2b (pc := 98) dX12_feed_98 ?_
            refine mr_gen (P := fun z => (-128) ≤ z ∧ z ≤ 127) (rByte _) fun z2061 q2062 h2063 => ?_
            refine ss_107 (pc := 99) dX12_feed_99 (A_107 hw) T1939 (rIx (n := 1000) (rAdd (e := 8) (f := 991) h1112 h2054 rfl) rfl) h2063 fun μ2064 u2065 T2066 => ?_
            refine mr_iinc (pc := 100) (lv' := [(6, iv (z1935 + 1)), (7, iv p3), (0, .ref 106), (1, iv p1), (2, iv p2), (3, iv p3), (4, iv p4), (5, iv p5)]) dX12_feed_100 rfl (by decide) rfl ?_
            refine sv_goto (pc := 103) (tgt := 19) dX12_feed_103 (by decide) ?_
            refine mr_lvS (lv' := [(0, .ref 106), (1, iv p1), (2, iv p2), (3, iv p3), (4, iv p4), (5, iv p5), (6, iv (z1935 + 1))]) (List.forall_mem_cons.mpr ⟨rfl, List.forall_mem_cons.mpr ⟨rfl, List.forall_mem_cons.mpr ⟨rfl, List.forall_mem_cons.mpr ⟨rfl, List.forall_mem_cons.mpr ⟨rfl, List.forall_mem_cons.mpr ⟨rfl, List.forall_mem_cons.mpr ⟨rfl, fun _ h => absurd h List.not_mem_nil⟩⟩⟩⟩⟩⟩⟩) ?_
            exact ih1944 (z1935 + 1) μ2064 T2066 (mF.up (mF.call mF.refl F1940 rfl) (A_107 hw) u2065 rfl) (rW (c := 0) (d := 20) (rAdd (e := 9) (f := 12) h2054 (rR (x := 1)) rfl) rfl) (fdR.next R1942 (vc_X12_feed_w_16 h1111 h1112) (vc_X12_feed_w_31 h2015 h2021 h2023 h2025 q2056 h2054 h2057) (vc_X12_feed_w_32 h2015 h2021 h2023 h2025 q2056 h2054 h2057) q2059 q2062 (vc_X12_feed_w_33 h2015 h2021 h2023 h2025 q2056 h2054 h2057) (fdS.is (vc_X12_feed_w_31 h2015 h2021 h2023 h2025 q2056 h2054 h2057) (vc_X12_feed_w_30 h2015 h2021 h2023 h2025 q2056 hp1 hp2 hp3 hp4 hp5 h2054 h2057)) u2065 (vc_X12_feed_w_34 h1111 h2015 h2021 h2023 h2025 q2056 h1112 h2054 h2057)) (vc_X12_feed_w_29 (nS h1943) h2015 h2021 h2023 h2025 q2056 h2054 h2057)
          have h2067 : 4 ≤ z1935 ∧ z1935 ≤ 7 := (vc_X12_feed_w_35 h2023 h2015 h2021 h2022)
          refine mr_iload_n (pc := 43) (z := p2) dX12_feed_43 rfl rfl ?_
          refine sv_goto (pc := 44) (tgt := 72) dX12_feed_44 (by decide) ?_
          refine mr_istore (pc := 72) (lv' := [(7, iv p2), (0, .ref 106), (1, iv p1), (2, iv p2), (3, iv p3), (4, iv p4), (5, iv p5), (6, iv z1935)]) dX12_feed_72 (by decide) rfl ?_
          refine sv_aload_n (pc := 74) dX12_feed_74 rfl rfl ?_
          refine gf_X12_0 (pc := 75) dX12_feed_75 wF_X12_7 (A_106 hw) T1939 ?_
          refine sv_aload_n (pc := 78) dX12_feed_78 rfl rfl ?_
          refine gk_X12_1 (pc := 79) dX12_feed_79 wF_X12_1 (A_106 hw) (F1940.f (A_106 hw) rfl q_f_q) ?_
          refine mr_iload (pc := 82) (z := z1935) dX12_feed_82 rfl ?_
          refine mr_iadd (pc := 84) (x := f_q) (y := z1935) dX12_feed_84 ?_
          refine mr_iload (pc := 85) (z := p2) dX12_feed_85 rfl ?_
          refine mr_bipush (pc := 87) (z := 24) dX12_feed_87 (by decide) ?_
          refine mr_bipush (pc := 89) (z := 8) dX12_feed_89 (by decide) ?_
          refine mr_iload (pc := 91) (z := z1935) dX12_feed_91 rfl ?_
          refine mr_iconst (pc := 93) (z := 4) dX12_feed_93 ?_
          refine mr_irem (pc := 94) (x := z1935) (y := 4) dX12_feed_94 (rW (c := 0) (d := 2147483647) h2067 rfl) vc_X3_readMarks_1 ?_
          refine mr_gen (P := fun z => 0 ≤ z ∧ z ≤ 3) (rMod h2067 rfl) fun z2068 q2069 h2070 => ?_
          refine mr_imul (pc := 95) (x := 8) (y := z2068) dX12_feed_95 ?_
          refine mr_isub (pc := 96) (x := 24) (y := (8 * z2068)) dX12_feed_96 ?_
          refine mr_ishr (pc := 97) (x := p2) (y := (24 - (8 * z2068))) dX12_feed_97 ?_
          refine mr_gen (P := fun z => (-2147483648) ≤ z ∧ z ≤ 2147483647) (r32i _) fun z2071 q2072 h2073 => ?_
          refine mr_i2b (pc := 98) dX12_feed_98 ?_
          refine mr_gen (P := fun z => (-128) ≤ z ∧ z ≤ 127) (rByte _) fun z2074 q2075 h2076 => ?_
          refine ss_107 (pc := 99) dX12_feed_99 (A_107 hw) T1939 (rIx (n := 1000) (rAdd (e := 4) (f := 987) h1112 h2067 rfl) rfl) h2076 fun μ2077 u2078 T2079 => ?_
          refine mr_iinc (pc := 100) (lv' := [(6, iv (z1935 + 1)), (7, iv p2), (0, .ref 106), (1, iv p1), (2, iv p2), (3, iv p3), (4, iv p4), (5, iv p5)]) dX12_feed_100 rfl (by decide) rfl ?_
          refine sv_goto (pc := 103) (tgt := 19) dX12_feed_103 (by decide) ?_
          refine mr_lvS (lv' := [(0, .ref 106), (1, iv p1), (2, iv p2), (3, iv p3), (4, iv p4), (5, iv p5), (6, iv (z1935 + 1))]) (List.forall_mem_cons.mpr ⟨rfl, List.forall_mem_cons.mpr ⟨rfl, List.forall_mem_cons.mpr ⟨rfl, List.forall_mem_cons.mpr ⟨rfl, List.forall_mem_cons.mpr ⟨rfl, List.forall_mem_cons.mpr ⟨rfl, List.forall_mem_cons.mpr ⟨rfl, fun _ h => absurd h List.not_mem_nil⟩⟩⟩⟩⟩⟩⟩) ?_
          exact ih1944 (z1935 + 1) μ2077 T2079 (mF.up (mF.call mF.refl F1940 rfl) (A_107 hw) u2078 rfl) (rW (c := 0) (d := 20) (rAdd (e := 5) (f := 8) h2067 (rR (x := 1)) rfl) rfl) (fdR.next R1942 (vc_X12_feed_w_16 h1111 h1112) (vc_X12_feed_w_38 h2015 h2021 h2023 q2069 h2067 h2070) (vc_X12_feed_w_39 h2015 h2021 h2023 q2069 h2067 h2070) q2072 q2075 (vc_X12_feed_w_40 h2015 h2021 h2023 q2069 h2067 h2070) (fdS.is (vc_X12_feed_w_38 h2015 h2021 h2023 q2069 h2067 h2070) (vc_X12_feed_w_37 h2015 h2021 h2023 q2069 hp1 hp2 hp3 hp4 hp5 h2067 h2070)) u2078 (vc_X12_feed_w_41 h1111 h2015 h2021 h2023 q2069 h1112 h2067 h2070)) (vc_X12_feed_w_36 (nS h1943) h2015 h2021 h2023 q2069 h2067 h2070)
        have h2080 : 0 ≤ z1935 ∧ z1935 ≤ 3 := (vc_X12_feed_w_42 h2021 h2015 h2020)
        refine mr_iload_n (pc := 32) (z := p1) dX12_feed_32 rfl rfl ?_
        refine sv_goto (pc := 33) (tgt := 72) dX12_feed_33 (by decide) ?_
        refine mr_istore (pc := 72) (lv' := [(7, iv p1), (0, .ref 106), (1, iv p1), (2, iv p2), (3, iv p3), (4, iv p4), (5, iv p5), (6, iv z1935)]) dX12_feed_72 (by decide) rfl ?_
        refine sv_aload_n (pc := 74) dX12_feed_74 rfl rfl ?_
        refine gf_X12_0 (pc := 75) dX12_feed_75 wF_X12_7 (A_106 hw) T1939 ?_
        refine sv_aload_n (pc := 78) dX12_feed_78 rfl rfl ?_
        refine gk_X12_1 (pc := 79) dX12_feed_79 wF_X12_1 (A_106 hw) (F1940.f (A_106 hw) rfl q_f_q) ?_
        refine mr_iload (pc := 82) (z := z1935) dX12_feed_82 rfl ?_
        refine mr_iadd (pc := 84) (x := f_q) (y := z1935) dX12_feed_84 ?_
        refine mr_iload (pc := 85) (z := p1) dX12_feed_85 rfl ?_
        refine mr_bipush (pc := 87) (z := 24) dX12_feed_87 (by decide) ?_
        refine mr_bipush (pc := 89) (z := 8) dX12_feed_89 (by decide) ?_
        refine mr_iload (pc := 91) (z := z1935) dX12_feed_91 rfl ?_
        refine mr_iconst (pc := 93) (z := 4) dX12_feed_93 ?_
        refine mr_irem (pc := 94) (x := z1935) (y := 4) dX12_feed_94 (rW (c := 0) (d := 2147483647) h2080 rfl) vc_X3_readMarks_1 ?_
        refine mr_gen (P := fun z => 0 ≤ z ∧ z ≤ 3) (rMod h2080 rfl) fun z2081 q2082 h2083 => ?_
        refine mr_imul (pc := 95) (x := 8) (y := z2081) dX12_feed_95 ?_
        refine mr_isub (pc := 96) (x := 24) (y := (8 * z2081)) dX12_feed_96 ?_
        refine mr_ishr (pc := 97) (x := p1) (y := (24 - (8 * z2081))) dX12_feed_97 ?_
        refine mr_gen (P := fun z => (-2147483648) ≤ z ∧ z ≤ 2147483647) (r32i _) fun z2084 q2085 h2086 => ?_
        refine mr_i2b (pc := 98) dX12_feed_98 ?_
        refine mr_gen (P := fun z => (-128) ≤ z ∧ z ≤ 127) (rByte _) fun z2087 q2088 h2089 => ?_
        refine ss_107 (pc := 99) dX12_feed_99 (A_107 hw) T1939 (rIx (n := 1000) (rAdd (e := 0) (f := 983) h1112 h2080 rfl) rfl) h2089 fun μ2090 u2091 T2092 => ?_
        refine mr_iinc (pc := 100) (lv' := [(6, iv (z1935 + 1)), (7, iv p1), (0, .ref 106), (1, iv p1), (2, iv p2), (3, iv p3), (4, iv p4), (5, iv p5)]) dX12_feed_100 rfl (by decide) rfl ?_
        refine sv_goto (pc := 103) (tgt := 19) dX12_feed_103 (by decide) ?_
        refine mr_lvS (lv' := [(0, .ref 106), (1, iv p1), (2, iv p2), (3, iv p3), (4, iv p4), (5, iv p5), (6, iv (z1935 + 1))]) (List.forall_mem_cons.mpr ⟨rfl, List.forall_mem_cons.mpr ⟨rfl, List.forall_mem_cons.mpr ⟨rfl, List.forall_mem_cons.mpr ⟨rfl, List.forall_mem_cons.mpr ⟨rfl, List.forall_mem_cons.mpr ⟨rfl, List.forall_mem_cons.mpr ⟨rfl, fun _ h => absurd h List.not_mem_nil⟩⟩⟩⟩⟩⟩⟩) ?_
        exact ih1944 (z1935 + 1) μ2090 T2092 (mF.up (mF.call mF.refl F1940 rfl) (A_107 hw) u2091 rfl) (rW (c := 0) (d := 20) (rAdd (e := 1) (f := 4) h2080 (rR (x := 1)) rfl) rfl) (fdR.next R1942 (vc_X12_feed_w_16 h1111 h1112) (vc_X12_feed_w_45 h2015 h2021 q2082 h2080 h2083) (vc_X12_feed_w_46 h2015 h2021 q2082 h2080 h2083) q2085 q2088 (vc_X12_feed_w_47 h2015 h2021 q2082 h2080 h2083) (fdS.is (vc_X12_feed_w_45 h2015 h2021 q2082 h2080 h2083) (vc_X12_feed_w_44 h2015 h2021 q2082 hp1 hp2 hp3 hp4 hp5 h2080 h2083)) u2091 (vc_X12_feed_w_48 h1111 h2015 h2021 q2082 h1112 h2080 h2083)) (vc_X12_feed_w_43 (nS h1943) h2015 h2021 q2082 h2080 h2083)
    refine mr_lvS (lv' := [(0, .ref 106), (1, iv p1), (2, iv p2), (3, iv p3), (4, iv p4), (5, iv p5), (6, iv 0)]) (List.forall_mem_cons.mpr ⟨rfl, List.forall_mem_cons.mpr ⟨rfl, List.forall_mem_cons.mpr ⟨rfl, List.forall_mem_cons.mpr ⟨rfl, List.forall_mem_cons.mpr ⟨rfl, List.forall_mem_cons.mpr ⟨rfl, List.forall_mem_cons.mpr ⟨rfl, fun _ h => absurd h List.not_mem_nil⟩⟩⟩⟩⟩⟩⟩) ?_
    exact L1937 22 0 μ hT mF.refl (rW (c := 0) (d := 20) (rR (x := 0)) rfl) (fdR.start vc_X12_feed_w_50) vc_X12_tieOf_12
  have h2093 : 981 ≤ f_q ∧ f_q ≤ 1000 := (vc_X11_feed_w_15 h1111 ht_f_q)
  refine mr_bipush (pc := 13) (z := (-3)) dX12_feed_13 (by decide) ?_
  exact mr_iret dX12_feed_15 rfl (le_t rfl) (le_t rfl) hT mF.refl ⟨f_q, q_f_q, (rW (c := (-2147483648)) (d := 2147483647) (rR (x := (-3))) rfl), (vc_X11_feed_w_16 h1111 h2093), (vc_X11_feed_w_17 h1111 h2093), (Or.inl ⟨by decide, rfl⟩), trivial⟩
theorem vc_X6_fail_v_2 {f_at f_end : Int} (h0 : f_at ≤ f_end) (h1 : 0 ≤ f_at ∧ f_at ≤ 1000) (h2 : 0 ≤ f_end ∧ f_end ≤ 1000) : f_end = f_end := by omega
theorem vc_X6_fail_v_3 {f_ft : Int} (h0 : ¬ f_ft = 0) (h1 : 1 ≤ f_ft ∧ f_ft ≤ 4) : 1 ≤ f_ft := by omega
theorem vc_X6_fail_v_4 {f_ft : Int} (h0 : ¬ f_ft = 0) (h1 : 1 ≤ f_ft ∧ f_ft ≤ 4) : ¬ f_ft = 0 := by omega
theorem vc_X6_fail_v_6 {p1 : Int} (h0 : 1 ≤ p1 ∧ p1 ≤ 4) : 1 ≤ p1 := by omega
theorem vc_X6_fail_v_8 {p1 z88 : Int} (h0 : ¬ z88 = (-3)) (h1 : 1 ≤ p1 ∧ p1 ≤ 4) (h2 : (-2147483648) ≤ z88 ∧ z88 ≤ 2147483647) : (z88 = -3 ∧ p1 = 1) ∨ (¬ z88 = -3 ∧ p1 = p1) := by omega
theorem vc_X6_fail_v_9 {f_pl : Int} (h0 : 0 ≤ f_pl ∧ f_pl ≤ 1000) : f_pl = f_pl := by omega
theorem vc_X6_fail_v_10 {z88 : Int} (h0 : z88 = (-3)) (h1 : (-2147483648) ≤ z88 ∧ z88 ≤ 2147483647) : (-3) ≤ z88 ∧ z88 ≤ (-3) := by omega
theorem vc_X6_fail_v_12 {p1 z88 : Int} (h0 : z88 = (-3)) (h1 : 1 ≤ p1 ∧ p1 ≤ 4) (h2 : (-3) ≤ z88 ∧ z88 ≤ (-3)) : (z88 = -3 ∧ (1 : Int) = 1) ∨ (¬ z88 = -3 ∧ (1 : Int) = p1) := by omega
set_option maxRecDepth 4000 in
set_option maxHeartbeats 4000000 in
theorem c_X6_fail_v {l : Launch} {D : va_G} {c : Nat → ClassId} {H0 : Heap} {sa : Nat × Nat × (Nat → Int32)} {w : mW} {μ : mM} (hw : mWF w) (hT : mT w μ) {p1 : Int} (hp1 : 1 ≤ p1 ∧ p1 ≤ 4) {f_at : Int} (q_f_at : μ 23 9 = f_at) {f_end : Int} (q_f_end : μ 23 8 = f_end) {f_ft : Int} (q_f_ft : μ 23 18 = f_ft) {f_fp : Int} (q_f_fp : μ 23 19 = f_fp) {f_pl : Int} (q_f_pl : μ 26 (f_at.toNat) = f_pl) (hq0 : f_at ≤ f_end) : sC (gG l D c H0 sa) mX6_fail 1 0 0 [.ref 23, iv p1] (mk w μ) (qV w [23009, 23018, 23019] μ (fun μ1 => ∃ o_at o_ft : Int, μ1 23 9 = o_at ∧ μ1 23 18 = o_ft ∧ (o_at = f_end) ∧ (1 ≤ o_ft) ∧ (flK μ μ1 p1) ∧ True)) := by
  refine sC.of rfl (by decide) (le_t rfl) ?_
  have ht_f_at : (0 ≤ f_at ∧ f_at ≤ 1000) := by rw [← q_f_at]; exact hT 23 23 (A_23 hw) 9
  have ht_f_end : (0 ≤ f_end ∧ f_end ≤ 1000) := by rw [← q_f_end]; exact hT 23 23 (A_23 hw) 8
  have ht_f_ft : (0 ≤ f_ft ∧ f_ft ≤ 4) := by rw [← q_f_ft]; exact hT 23 23 (A_23 hw) 18
  have ht_f_fp : (0 ≤ f_fp ∧ f_fp ≤ 1000) := by rw [← q_f_fp]; exact hT 23 23 (A_23 hw) 19
  have ht_f_pl : (0 ≤ f_pl ∧ f_pl ≤ 1000) := by rw [← q_f_pl]; exact hT 26 26 (A_26 hw) (f_at.toNat)
  refine mr_lvE (lv' := [(0, .ref 23), (1, iv p1)]) rfl ?_
  refine sv_aload_n (pc := 0) dX6_fail_0 rfl rfl ?_
  refine gk_X6_18 (pc := 1) dX6_fail_1 wF_X6_37 (A_23 hw) q_f_ft ?_
  refine mr_if_ne (pc := 4) (tgt := 43) dX6_fail_4 (by decide) (r32 ht_f_ft rfl) (fun h82 => ?_) (fun h82 => ?_)
  · have h83 : 1 ≤ f_ft ∧ f_ft ≤ 4 := (vc_X12_isSign_1 h82 ht_f_ft)
    refine sv_aload_n (pc := 43) dX6_fail_43 rfl rfl ?_
    refine sv_aload_n (pc := 44) dX6_fail_44 rfl rfl ?_
    refine gk_X6_8 (pc := 45) dX6_fail_45 wF_X6_83 (A_23 hw) q_f_end ?_
    refine pf_X6_9 (pc := 48) dX6_fail_48 wF_X6_63 (A_23 hw) hT ht_f_end fun μ84 u85 T86 => ?_
    exact mr_vret dX6_fail_51 rfl (le_t rfl) (le_t rfl) T86 (mF.up mF.refl (A_23 hw) u85 rfl) ⟨f_end, f_ft, u85.1, (u85.f (Or.inr (by decide)) q_f_ft), (vc_X6_fail_v_2 hq0 ht_f_at ht_f_end), (vc_X6_fail_v_3 h82 h83), (flK.mk1 q_f_end (u85.1.trans (vc_X6_fail_v_2 hq0 ht_f_at ht_f_end)) q_f_ft (vc_X6_fail_v_4 h82 h83) (u85.f (Or.inr (by decide)) q_f_ft) q_f_fp (u85.f (Or.inr (by decide)) q_f_fp)), trivial⟩
  have h87 : 0 ≤ f_ft ∧ f_ft ≤ 0 := (vc_X12_isSign_4 h82 ht_f_ft)
  refine sv_aload_n (pc := 7) dX6_fail_7 rfl rfl ?_
  refine sv_aload_n (pc := 8) dX6_fail_8 rfl rfl ?_
  refine gf_X6_0 (pc := 9) dX6_fail_9 wF_X6_9 (A_23 hw) hT ?_
  refine sv_aload_n (pc := 12) dX6_fail_12 rfl rfl ?_
  refine gk_X6_9 (pc := 13) dX6_fail_13 wF_X6_63 (A_23 hw) q_f_at ?_
  refine la_24 (pc := 16) dX6_fail_16 (A_24 hw) hT (rIx (n := 1001) ht_f_at rfl) fun z88 q89 h90 => ?_
  refine mr_bipush (pc := 17) (z := (-3)) dX6_fail_17 (by decide) ?_
  refine mr_icmp_ne (pc := 19) (tgt := 26) dX6_fail_19 (by decide) h90 (r32 (rR (x := (-3))) rfl) (fun h91 => ?_) (fun h91 => ?_)
  · refine mr_iload_n (pc := 26) (z := p1) dX6_fail_26 rfl rfl ?_
    refine pf_X6_18 (pc := 27) dX6_fail_27 wF_X6_37 (A_23 hw) hT (rW (c := 0) (d := 4) hp1 rfl) fun μ92 u93 T94 => ?_
    refine sv_aload_n (pc := 30) dX6_fail_30 rfl rfl ?_
    refine sv_aload_n (pc := 31) dX6_fail_31 rfl rfl ?_
    refine gf_X6_2 (pc := 32) dX6_fail_32 wF_X6_18 (A_23 hw) T94 ?_
    refine sv_aload_n (pc := 35) dX6_fail_35 rfl rfl ?_
    refine gk_X6_9 (pc := 36) dX6_fail_36 wF_X6_63 (A_23 hw) (u93.f (Or.inr (by decide)) q_f_at) ?_
    refine lk_26 (pc := 39) dX6_fail_39 (A_26 hw) (rIx (n := 1001) ht_f_at rfl) (u93.f (Or.inl (mAt.ne (A_23 hw) (A_26 hw) rfl)) q_f_pl) ?_
    refine pf_X6_19 (pc := 40) dX6_fail_40 wF_X6_41 (A_23 hw) T94 ht_f_pl fun μ95 u96 T97 => ?_
    refine sv_aload_n (pc := 43) dX6_fail_43 rfl rfl ?_
    refine sv_aload_n (pc := 44) dX6_fail_44 rfl rfl ?_
    refine gk_X6_8 (pc := 45) dX6_fail_45 wF_X6_83 (A_23 hw) (u96.f (Or.inr (by decide)) (u93.f (Or.inr (by decide)) q_f_end)) ?_
    refine pf_X6_9 (pc := 48) dX6_fail_48 wF_X6_63 (A_23 hw) T97 ht_f_end fun μ98 u99 T100 => ?_
    exact mr_vret dX6_fail_51 rfl (le_t rfl) (le_t rfl) T100 (mF.up (mF.up (mF.up mF.refl (A_23 hw) u93 rfl) (A_23 hw) u96 rfl) (A_23 hw) u99 rfl) ⟨f_end, p1, u99.1, (u99.f (Or.inr (by decide)) (u96.f (Or.inr (by decide)) u93.1)), (vc_X6_fail_v_2 hq0 ht_f_at ht_f_end), (vc_X6_fail_v_6 hp1), (flK.mk2 q_f_end (u99.1.trans (vc_X6_fail_v_2 hq0 ht_f_at ht_f_end)) q_f_ft (vc_X12_goes_7 h82 h87) q_f_at q89 (u99.f (Or.inr (by decide)) (u96.f (Or.inr (by decide)) u93.1)) (vc_X6_fail_v_8 h91 hp1 h90) q_f_pl ((u99.f (Or.inr (by decide)) u96.1).trans (vc_X6_fail_v_9 ht_f_pl))), trivial⟩
  have h101 : (-3) ≤ z88 ∧ z88 ≤ (-3) := (vc_X6_fail_v_10 h91 h90)
  refine mr_iconst (pc := 22) (z := 1) dX6_fail_22 ?_
  refine sv_goto (pc := 23) (tgt := 27) dX6_fail_23 (by decide) ?_
  refine pf_X6_18 (pc := 27) dX6_fail_27 wF_X6_37 (A_23 hw) hT (rW (c := 0) (d := 4) (rR (x := 1)) rfl) fun μ102 u103 T104 => ?_
  refine sv_aload_n (pc := 30) dX6_fail_30 rfl rfl ?_
  refine sv_aload_n (pc := 31) dX6_fail_31 rfl rfl ?_
  refine gf_X6_2 (pc := 32) dX6_fail_32 wF_X6_18 (A_23 hw) T104 ?_
  refine sv_aload_n (pc := 35) dX6_fail_35 rfl rfl ?_
  refine gk_X6_9 (pc := 36) dX6_fail_36 wF_X6_63 (A_23 hw) (u103.f (Or.inr (by decide)) q_f_at) ?_
  refine lk_26 (pc := 39) dX6_fail_39 (A_26 hw) (rIx (n := 1001) ht_f_at rfl) (u103.f (Or.inl (mAt.ne (A_23 hw) (A_26 hw) rfl)) q_f_pl) ?_
  refine pf_X6_19 (pc := 40) dX6_fail_40 wF_X6_41 (A_23 hw) T104 ht_f_pl fun μ105 u106 T107 => ?_
  refine sv_aload_n (pc := 43) dX6_fail_43 rfl rfl ?_
  refine sv_aload_n (pc := 44) dX6_fail_44 rfl rfl ?_
  refine gk_X6_8 (pc := 45) dX6_fail_45 wF_X6_83 (A_23 hw) (u106.f (Or.inr (by decide)) (u103.f (Or.inr (by decide)) q_f_end)) ?_
  refine pf_X6_9 (pc := 48) dX6_fail_48 wF_X6_63 (A_23 hw) T107 ht_f_end fun μ108 u109 T110 => ?_
  exact mr_vret dX6_fail_51 rfl (le_t rfl) (le_t rfl) T110 (mF.up (mF.up (mF.up mF.refl (A_23 hw) u103 rfl) (A_23 hw) u106 rfl) (A_23 hw) u109 rfl) ⟨f_end, 1, u109.1, (u109.f (Or.inr (by decide)) (u106.f (Or.inr (by decide)) u103.1)), (vc_X6_fail_v_2 hq0 ht_f_at ht_f_end), vc_X12_states_28, (flK.mk2 q_f_end (u109.1.trans (vc_X6_fail_v_2 hq0 ht_f_at ht_f_end)) q_f_ft (vc_X12_goes_7 h82 h87) q_f_at q89 (u109.f (Or.inr (by decide)) (u106.f (Or.inr (by decide)) u103.1)) (vc_X6_fail_v_12 h91 hp1 h101) q_f_pl ((u109.f (Or.inr (by decide)) u106.1).trans (vc_X6_fail_v_9 ht_f_pl))), trivial⟩
theorem vc_X6_step_v_1 {f_at f_end : Int} (h0 : f_at ≤ f_end) (h1 : f_end ≤ f_at) (h2 : 0 ≤ f_at ∧ f_at ≤ 1000) (h3 : 0 ≤ f_end ∧ f_end ≤ 1000) : f_at ≤ f_end := by omega
theorem vc_X6_step_v_2 {f_at f_end : Int} (h0 : f_at ≤ f_end) (h1 : f_end ≤ f_at) (h2 : 0 ≤ f_at ∧ f_at ≤ 1000) (h3 : 0 ≤ f_end ∧ f_end ≤ 1000) : f_at ≤ f_at := by omega
theorem vc_X6_step_v_3 {f_at f_end : Int} (h0 : f_at ≤ f_end) (h1 : f_end ≤ f_at) (h2 : 0 ≤ f_at ∧ f_at ≤ 1000) (h3 : 0 ≤ f_end ∧ f_end ≤ 1000) : f_at < f_end → f_at + 1 ≤ f_at := by omega
theorem vc_X6_step_v_4 {f_at f_end : Int} (h0 : f_at ≤ f_end) (h1 : f_end ≤ f_at) (h2 : 0 ≤ f_at ∧ f_at ≤ 1000) (h3 : 0 ≤ f_end ∧ f_end ≤ 1000) : ¬ f_at < f_end := by omega
theorem vc_X6_step_v_5 {f_at f_end : Int} (h0 : f_at < f_end) (h1 : f_at ≤ f_end) (h2 : 0 ≤ f_at ∧ f_at ≤ 1000) (h3 : 0 ≤ f_end ∧ f_end ≤ 1000) : 0 ≤ f_at ∧ f_at ≤ 999 := by omega
theorem vc_X6_step_v_6 {f_at f_end : Int} (h0 : f_at < f_end) (h1 : f_at ≤ f_end) (h2 : 0 ≤ f_at ∧ f_at ≤ 999) (h3 : 0 ≤ f_end ∧ f_end ≤ 1000) : 1 ≤ f_end ∧ f_end ≤ 1000 := by omega
theorem vc_X6_step_v_7 {f_at f_end : Int} (h0 : f_at ≤ f_end) (h1 : f_at < f_end) (h2 : 0 ≤ f_at ∧ f_at ≤ 999) (h3 : 1 ≤ f_end ∧ f_end ≤ 1000) : (f_at + 1) ≤ f_end := by omega
theorem vc_X6_step_v_8 {f_at f_end : Int} (h0 : f_at ≤ f_end) (h1 : f_at < f_end) (h2 : 0 ≤ f_at ∧ f_at ≤ 999) (h3 : 1 ≤ f_end ∧ f_end ≤ 1000) : f_at ≤ (f_at + 1) := by omega
theorem vc_X6_step_v_9 {f_at f_end : Int} (h0 : f_at ≤ f_end) (h1 : f_at < f_end) (h2 : 0 ≤ f_at ∧ f_at ≤ 999) (h3 : 1 ≤ f_end ∧ f_end ≤ 1000) : f_at < f_end → f_at + 1 ≤ (f_at + 1) := by omega
theorem vc_X6_step_v_10 {f_at f_end : Int} (h0 : f_at ≤ f_end) (h1 : f_at < f_end) (h2 : 0 ≤ f_at ∧ f_at ≤ 999) (h3 : 1 ≤ f_end ∧ f_end ≤ 1000) : (f_at + 1) = f_at + 1 := by omega
set_option maxRecDepth 4000 in
set_option maxHeartbeats 4000000 in
theorem c_X6_step_v {l : Launch} {D : va_G} {c : Nat → ClassId} {H0 : Heap} {sa : Nat × Nat × (Nat → Int32)} {w : mW} {μ : mM} (hw : mWF w) (hT : mT w μ) {f_at : Int} (q_f_at : μ 23 9 = f_at) {f_end : Int} (q_f_end : μ 23 8 = f_end) {f_ft : Int} (q_f_ft : μ 23 18 = f_ft) {f_fp : Int} (q_f_fp : μ 23 19 = f_fp) (hq0 : f_at ≤ f_end) : sC (gG l D c H0 sa) mX6_step 1 0 0 [.ref 23] (mk w μ) (qV w [23009] μ (fun μ1 => ∃ o_at : Int, μ1 23 9 = o_at ∧ (o_at ≤ f_end) ∧ (f_at ≤ o_at) ∧ (f_at < f_end → f_at + 1 ≤ o_at) ∧ (stK μ μ1) ∧ True)) := by
  refine sC.of rfl (by decide) (le_t rfl) ?_
  have ht_f_at : (0 ≤ f_at ∧ f_at ≤ 1000) := by rw [← q_f_at]; exact hT 23 23 (A_23 hw) 9
  have ht_f_end : (0 ≤ f_end ∧ f_end ≤ 1000) := by rw [← q_f_end]; exact hT 23 23 (A_23 hw) 8
  have ht_f_ft : (0 ≤ f_ft ∧ f_ft ≤ 4) := by rw [← q_f_ft]; exact hT 23 23 (A_23 hw) 18
  have ht_f_fp : (0 ≤ f_fp ∧ f_fp ≤ 1000) := by rw [← q_f_fp]; exact hT 23 23 (A_23 hw) 19
  refine mr_lvE (lv' := [(0, .ref 23)]) rfl ?_
  refine sv_aload_n (pc := 0) dX6_step_0 rfl rfl ?_
  refine gk_X6_9 (pc := 1) dX6_step_1 wF_X6_63 (A_23 hw) q_f_at ?_
  refine sv_aload_n (pc := 4) dX6_step_4 rfl rfl ?_
  refine gk_X6_8 (pc := 5) dX6_step_5 wF_X6_83 (A_23 hw) q_f_end ?_
  refine mr_icmp_ge (pc := 8) (tgt := 21) dX6_step_8 (by decide) (r32 ht_f_at rfl) (r32 ht_f_end rfl) (fun h16 => ?_) (fun h16 => ?_)
  · exact mr_vret dX6_step_21 rfl (le_t rfl) (le_t rfl) hT mF.refl ⟨f_at, q_f_at, (vc_X6_step_v_1 hq0 h16 ht_f_at ht_f_end), (vc_X6_step_v_2 hq0 h16 ht_f_at ht_f_end), (vc_X6_step_v_3 hq0 h16 ht_f_at ht_f_end), (fun h => absurd h (by rw [q_f_at, q_f_end]; exact (vc_X6_step_v_4 hq0 h16 ht_f_at ht_f_end))), trivial⟩
  have h17 : 0 ≤ f_at ∧ f_at ≤ 999 := (vc_X6_step_v_5 h16 hq0 ht_f_at ht_f_end)
  have h18 : 1 ≤ f_end ∧ f_end ≤ 1000 := (vc_X6_step_v_6 h16 hq0 h17 ht_f_end)
  refine sv_aload_n (pc := 11) dX6_step_11 rfl rfl ?_
  refine sv_dup (pc := 12) dX6_step_12 rfl ?_
  refine gk_X6_9 (pc := 13) dX6_step_13 wF_X6_63 (A_23 hw) q_f_at ?_
  refine mr_iconst (pc := 16) (z := 1) dX6_step_16 ?_
  refine mr_iadd (pc := 17) (x := f_at) (y := 1) dX6_step_17 ?_
  refine pf_X6_9 (pc := 18) dX6_step_18 wF_X6_63 (A_23 hw) hT (rW (c := 0) (d := 1000) (rAdd (e := 1) (f := 1000) h17 (rR (x := 1)) rfl) rfl) fun μ19 u20 T21 => ?_
  exact mr_vret dX6_step_21 rfl (le_t rfl) (le_t rfl) T21 (mF.up mF.refl (A_23 hw) u20 rfl) ⟨(f_at + 1), u20.1, (vc_X6_step_v_7 hq0 h16 h17 h18), (vc_X6_step_v_8 hq0 h16 h17 h18), (vc_X6_step_v_9 hq0 h16 h17 h18), (fun _ => mvK.mk q_f_at u20.1 (vc_X6_step_v_10 hq0 h16 h17 h18) q_f_ft (u20.f (Or.inr (by decide)) q_f_ft) q_f_fp (u20.f (Or.inr (by decide)) q_f_fp)), trivial⟩
theorem vc_X6_take_v_1 {f_te : Int} (h0 : f_te = -1) (h1 : (-2147483648) ≤ f_te ∧ f_te ≤ 2147483647) : (-1) ≤ f_te ∧ f_te ≤ (-1) := by omega
theorem vc_X6_take_v_2 {f_at f_end f_te p1 z35 : Int} (h0 : f_at ≤ f_end) (h1 : (f_at = f_end → z35 = f_te)) (h2 : f_te = -1) (h3 : z35 = p1) (h4 : 0 ≤ f_at ∧ f_at ≤ 1000) (h5 : 0 ≤ f_end ∧ f_end ≤ 1000) (h6 : (-1) ≤ f_te ∧ f_te ≤ (-1)) (h7 : (-2147483648) ≤ p1 ∧ p1 ≤ 2147483647) (h8 : (-2147483648) ≤ z35 ∧ z35 ≤ 2147483647) : f_at ≤ f_end := by omega
theorem vc_X6_take_v_3 {f_at f_end f_te p1 z35 z43 : Int} (h0 : f_at ≤ f_end) (h1 : (f_at = f_end → z35 = f_te)) (h2 : z43 ≤ f_end) (h3 : f_at ≤ z43) (h4 : f_at < f_end → f_at + 1 ≤ z43) (h5 : f_te = -1) (h6 : z35 = p1) (h7 : 0 ≤ f_at ∧ f_at ≤ 1000) (h8 : 0 ≤ f_end ∧ f_end ≤ 1000) (h9 : (-1) ≤ f_te ∧ f_te ≤ (-1)) (h10 : (-2147483648) ≤ p1 ∧ p1 ≤ 2147483647) (h11 : (-2147483648) ≤ z35 ∧ z35 ≤ 2147483647) (h12 : 0 ≤ z43 ∧ z43 ≤ 1000) : z43 ≤ f_end := by omega
theorem vc_X6_take_v_4 {f_at f_end f_te p1 z35 z43 : Int} (h0 : f_at ≤ f_end) (h1 : (f_at = f_end → z35 = f_te)) (h2 : z43 ≤ f_end) (h3 : f_at ≤ z43) (h4 : f_at < f_end → f_at + 1 ≤ z43) (h5 : f_te = -1) (h6 : z35 = p1) (h7 : 0 ≤ f_at ∧ f_at ≤ 1000) (h8 : 0 ≤ f_end ∧ f_end ≤ 1000) (h9 : (-1) ≤ f_te ∧ f_te ≤ (-1)) (h10 : (-2147483648) ≤ p1 ∧ p1 ≤ 2147483647) (h11 : (-2147483648) ≤ z35 ∧ z35 ≤ 2147483647) (h12 : 0 ≤ z43 ∧ z43 ≤ 1000) : f_at ≤ z43 := by omega
theorem vc_X6_take_v_5 {f_at f_end f_te p1 z35 z43 : Int} (h0 : f_at ≤ f_end) (h1 : (f_at = f_end → z35 = f_te)) (h2 : z35 = p1) (h3 : z43 ≤ f_end) (h4 : f_at ≤ z43) (h5 : f_at < f_end → f_at + 1 ≤ z43) (h6 : f_te = -1) (h7 : 0 ≤ f_at ∧ f_at ≤ 1000) (h8 : 0 ≤ f_end ∧ f_end ≤ 1000) (h9 : (-1) ≤ f_te ∧ f_te ≤ (-1)) (h10 : (-2147483648) ≤ p1 ∧ p1 ≤ 2147483647) (h11 : (-2147483648) ≤ z35 ∧ z35 ≤ 2147483647) (h12 : 0 ≤ z43 ∧ z43 ≤ 1000) : (1 : Int) = 1 → p1 = -1 ∨ f_at + 1 ≤ z43 := by omega
theorem vc_X6_take_v_6 {f_at f_end f_te p1 z35 z43 : Int} (h0 : f_at ≤ f_end) (h1 : (f_at = f_end → z35 = f_te)) (h2 : z43 ≤ f_end) (h3 : f_at ≤ z43) (h4 : f_at < f_end → f_at + 1 ≤ z43) (h5 : f_te = -1) (h6 : z35 = p1) (h7 : 0 ≤ f_at ∧ f_at ≤ 1000) (h8 : 0 ≤ f_end ∧ f_end ≤ 1000) (h9 : (-1) ≤ f_te ∧ f_te ≤ (-1)) (h10 : (-2147483648) ≤ p1 ∧ p1 ≤ 2147483647) (h11 : (-2147483648) ≤ z35 ∧ z35 ≤ 2147483647) (h12 : 0 ≤ z43 ∧ z43 ≤ 1000) : (1 : Int) = 0 → z43 = f_at := by omega
theorem vc_X6_take_v_7 {f_at f_end f_te p1 z35 z43 : Int} (h0 : (f_at = f_end → z35 = f_te)) (h1 : z35 = p1) (h2 : f_at ≤ f_end) (h3 : f_te = -1) (h4 : z43 ≤ f_end) (h5 : f_at ≤ z43) (h6 : f_at < f_end → f_at + 1 ≤ z43) (h7 : 0 ≤ f_at ∧ f_at ≤ 1000) (h8 : 0 ≤ f_end ∧ f_end ≤ 1000) (h9 : (-1) ≤ f_te ∧ f_te ≤ (-1)) (h10 : (-2147483648) ≤ p1 ∧ p1 ≤ 2147483647) (h11 : (-2147483648) ≤ z35 ∧ z35 ≤ 2147483647) (h12 : 0 ≤ z43 ∧ z43 ≤ 1000) : z35 = p1 := by omega
theorem vc_X6_take_v_8 {f_at f_end f_te p1 z35 : Int} (h0 : f_at ≤ f_end) (h1 : (f_at = f_end → z35 = f_te)) (h2 : f_te = -1) (h3 : ¬ z35 = p1) (h4 : 0 ≤ f_at ∧ f_at ≤ 1000) (h5 : 0 ≤ f_end ∧ f_end ≤ 1000) (h6 : (-1) ≤ f_te ∧ f_te ≤ (-1)) (h7 : (-2147483648) ≤ p1 ∧ p1 ≤ 2147483647) (h8 : (-2147483648) ≤ z35 ∧ z35 ≤ 2147483647) : f_at ≤ f_end := by omega
theorem vc_X6_take_v_9 {f_at f_end f_te p1 z35 : Int} (h0 : f_at ≤ f_end) (h1 : (f_at = f_end → z35 = f_te)) (h2 : f_te = -1) (h3 : ¬ z35 = p1) (h4 : 0 ≤ f_at ∧ f_at ≤ 1000) (h5 : 0 ≤ f_end ∧ f_end ≤ 1000) (h6 : (-1) ≤ f_te ∧ f_te ≤ (-1)) (h7 : (-2147483648) ≤ p1 ∧ p1 ≤ 2147483647) (h8 : (-2147483648) ≤ z35 ∧ z35 ≤ 2147483647) : f_at ≤ f_at := by omega
theorem vc_X6_take_v_10 {f_at f_end f_te p1 z35 : Int} (h0 : f_at ≤ f_end) (h1 : (f_at = f_end → z35 = f_te)) (h2 : ¬ z35 = p1) (h3 : f_te = -1) (h4 : 0 ≤ f_at ∧ f_at ≤ 1000) (h5 : 0 ≤ f_end ∧ f_end ≤ 1000) (h6 : (-1) ≤ f_te ∧ f_te ≤ (-1)) (h7 : (-2147483648) ≤ p1 ∧ p1 ≤ 2147483647) (h8 : (-2147483648) ≤ z35 ∧ z35 ≤ 2147483647) : (0 : Int) = 1 → p1 = -1 ∨ f_at + 1 ≤ f_at := by omega
theorem vc_X6_take_v_11 {f_at f_end f_te p1 z35 : Int} (h0 : f_at ≤ f_end) (h1 : (f_at = f_end → z35 = f_te)) (h2 : f_te = -1) (h3 : ¬ z35 = p1) (h4 : 0 ≤ f_at ∧ f_at ≤ 1000) (h5 : 0 ≤ f_end ∧ f_end ≤ 1000) (h6 : (-1) ≤ f_te ∧ f_te ≤ (-1)) (h7 : (-2147483648) ≤ p1 ∧ p1 ≤ 2147483647) (h8 : (-2147483648) ≤ z35 ∧ z35 ≤ 2147483647) : (0 : Int) = 0 → f_at = f_at := by omega
theorem vc_X6_take_v_12 {f_at f_end f_te p1 z35 : Int} (h0 : (f_at = f_end → z35 = f_te)) (h1 : ¬ z35 = p1) (h2 : f_at ≤ f_end) (h3 : f_te = -1) (h4 : 0 ≤ f_at ∧ f_at ≤ 1000) (h5 : 0 ≤ f_end ∧ f_end ≤ 1000) (h6 : (-1) ≤ f_te ∧ f_te ≤ (-1)) (h7 : (-2147483648) ≤ p1 ∧ p1 ≤ 2147483647) (h8 : (-2147483648) ≤ z35 ∧ z35 ≤ 2147483647) : ¬ z35 = p1 := by omega
set_option maxRecDepth 4000 in
set_option maxHeartbeats 4000000 in
theorem c_X6_take_v {l : Launch} {D : va_G} {c : Nat → ClassId} {H0 : Heap} {sa : Nat × Nat × (Nat → Int32)} {w : mW} {μ : mM} (hw : mWF w) (hT : mT w μ) {p1 : Int} (hp1 : (-2147483648) ≤ p1 ∧ p1 ≤ 2147483647) {f_at : Int} (q_f_at : μ 23 9 = f_at) {f_end : Int} (q_f_end : μ 23 8 = f_end) {f_te : Int} (q_f_te : μ 24 (f_end.toNat) = f_te) {f_ft : Int} (q_f_ft : μ 23 18 = f_ft) {f_fp : Int} (q_f_fp : μ 23 19 = f_fp) (hq0 : f_at ≤ f_end) (hq1 : f_te = -1) : sC (gG l D c H0 sa) mX6_take 2 0 0 [.ref 23, iv p1] (mk w μ) (qI w [23009] μ (fun z μ1 => ∃ o_at : Int, μ1 23 9 = o_at ∧ (0 ≤ z ∧ z ≤ 1) ∧ (o_at ≤ f_end) ∧ (f_at ≤ o_at) ∧ (z = 1 → p1 = -1 ∨ f_at + 1 ≤ o_at) ∧ (z = 0 → o_at = f_at) ∧ (tkK μ μ1 p1 z) ∧ True)) := by
  refine sC.of rfl (by decide) (le_t rfl) ?_
  have ht_f_at : (0 ≤ f_at ∧ f_at ≤ 1000) := by rw [← q_f_at]; exact hT 23 23 (A_23 hw) 9
  have ht_f_end : (0 ≤ f_end ∧ f_end ≤ 1000) := by rw [← q_f_end]; exact hT 23 23 (A_23 hw) 8
  have ht_f_te : ((-2147483648) ≤ f_te ∧ f_te ≤ 2147483647) := by rw [← q_f_te]; exact hT 24 24 (A_24 hw) (f_end.toNat)
  have ht_f_ft : (0 ≤ f_ft ∧ f_ft ≤ 4) := by rw [← q_f_ft]; exact hT 23 23 (A_23 hw) 18
  have ht_f_fp : (0 ≤ f_fp ∧ f_fp ≤ 1000) := by rw [← q_f_fp]; exact hT 23 23 (A_23 hw) 19
  have h1 : (-1) ≤ f_te ∧ f_te ≤ (-1) := (vc_X6_take_v_1 hq1 ht_f_te)
  refine mr_lvE (lv' := [(0, .ref 23), (1, iv p1)]) rfl ?_
  refine sv_aload_n (pc := 0) dX6_take_0 rfl rfl ?_
  refine gf_X6_0 (pc := 1) dX6_take_1 wF_X6_9 (A_23 hw) hT ?_
  refine sv_aload_n (pc := 4) dX6_take_4 rfl rfl ?_
  refine gk_X6_9 (pc := 5) dX6_take_5 wF_X6_63 (A_23 hw) q_f_at ?_
  refine la_24 (pc := 8) dX6_take_8 (A_24 hw) hT (rIx (n := 1001) ht_f_at rfl) fun z35 q36 h37 => ?_
  refine mr_iload_n (pc := 9) (z := p1) dX6_take_9 rfl rfl ?_
  refine mr_icmp_eq (pc := 10) (tgt := 15) dX6_take_10 (by decide) h37 hp1 (fun h38 => ?_) (fun h38 => ?_)
  · refine sv_aload_n (pc := 15) dX6_take_15 rfl rfl ?_
    refine mr_cVV (pc := 16) (c_X6_step_v hw hT q_f_at q_f_end q_f_ft q_f_fp (vc_X6_take_v_2 hq0 (cgr q36 q_f_te) hq1 h38 ht_f_at ht_f_end h1 hp1 h37)) (gOk _ _ _ _ _) dX6_take_16 (tX6_step _ _ _ _ _) ⟨wV_X6_step, wL_X6_step⟩ wM_X6_117 (gCX6 _ _ _ _ _) rfl (A_23 hw) rfl ⟨le_t rfl, le_t rfl⟩ ⟨le_t rfl, le_t rfl⟩ rfl (le_t rfl) fun μ39 T40 F41 h42 => ?_
    obtain ⟨z43, q44, h45⟩ := h42
    have h46 : (0 ≤ z43 ∧ z43 ≤ 1000) := by rw [← q44]; exact T40 23 23 (A_23 hw) 9
    refine mr_iconst (pc := 19) (z := 1) dX6_take_19 ?_
    exact mr_zret dX6_take_20 rfl (rW (c := 0) (d := 1) (rR (x := 1)) rfl) (le_t rfl) (le_t rfl) T40 (mF.call mF.refl F41 rfl) ⟨z43, q44, (rW (c := 0) (d := 1) (rR (x := 1)) rfl), (vc_X6_take_v_3 hq0 (cgr q36 q_f_te) h45.1 h45.2.1 h45.2.2.1 hq1 h38 ht_f_at ht_f_end h1 hp1 h37 h46), (vc_X6_take_v_4 hq0 (cgr q36 q_f_te) h45.1 h45.2.1 h45.2.2.1 hq1 h38 ht_f_at ht_f_end h1 hp1 h37 h46), (vc_X6_take_v_5 hq0 (cgr q36 q_f_te) h38 h45.1 h45.2.1 h45.2.2.1 hq1 ht_f_at ht_f_end h1 hp1 h37 h46), (vc_X6_take_v_6 hq0 (cgr q36 q_f_te) h45.1 h45.2.1 h45.2.2.1 hq1 h38 ht_f_at ht_f_end h1 hp1 h37 h46), (Or.inl ⟨rfl, (cT.is q_f_at q36).trans (vc_X6_take_v_7 (cgr q36 q_f_te) h38 hq0 hq1 h45.1 h45.2.1 h45.2.2.1 ht_f_at ht_f_end h1 hp1 h37 h46), h45.2.2.2.1⟩), trivial⟩
  refine mr_iconst (pc := 13) (z := 0) dX6_take_13 ?_
  exact mr_zret dX6_take_14 rfl (rW (c := 0) (d := 1) (rR (x := 0)) rfl) (le_t rfl) (le_t rfl) hT mF.refl ⟨f_at, q_f_at, (rW (c := 0) (d := 1) (rR (x := 0)) rfl), (vc_X6_take_v_8 hq0 (cgr q36 q_f_te) hq1 h38 ht_f_at ht_f_end h1 hp1 h37), (vc_X6_take_v_9 hq0 (cgr q36 q_f_te) hq1 h38 ht_f_at ht_f_end h1 hp1 h37), (vc_X6_take_v_10 hq0 (cgr q36 q_f_te) h38 hq1 ht_f_at ht_f_end h1 hp1 h37), (vc_X6_take_v_11 hq0 (cgr q36 q_f_te) hq1 h38 ht_f_at ht_f_end h1 hp1 h37), (Or.inr ⟨rfl, (by rw [(cT.is q_f_at q36)]; exact (vc_X6_take_v_12 (cgr q36 q_f_te) h38 hq0 hq1 ht_f_at ht_f_end h1 hp1 h37)), smK.refl⟩), trivial⟩
theorem vc_X6_expect_v_2 {f_at f_end f_ft : Int} (h0 : f_at ≤ f_end) (h1 : f_ft = 0 ∨ f_at = f_end) (h2 : 0 ≤ f_at ∧ f_at ≤ 1000) (h3 : 0 ≤ f_end ∧ f_end ≤ 1000) (h4 : 0 ≤ f_ft ∧ f_ft ≤ 4) : f_at ≤ f_end := by omega
theorem vc_X6_expect_v_3 {f_te : Int} (h0 : f_te = -1) (h1 : (-1) ≤ f_te ∧ f_te ≤ (-1)) : f_te = -1 := by omega
theorem vc_X6_expect_v_4 {f_at p1 z93 z94 : Int} (h0 : ¬ z93 = 0) (h1 : (z93 = 1 → p1 = -1 ∨ f_at + 1 ≤ z94)) (h2 : (z93 = 0 → z94 = f_at)) (h3 : 0 ≤ f_at ∧ f_at ≤ 1000) (h4 : (-2147483648) ≤ p1 ∧ p1 ≤ 2147483647) (h5 : 0 ≤ z93 ∧ z93 ≤ 1) (h6 : 0 ≤ z94 ∧ z94 ≤ 1000) : 1 ≤ z93 ∧ z93 ≤ 1 := by omega
theorem vc_X6_expect_v_5 {f_at f_end f_ft p1 z93 z94 : Int} (h0 : (z93 = 1 → p1 = -1 ∨ f_at + 1 ≤ z94)) (h1 : (z93 = 0 → z94 = f_at)) (h2 : ¬ z93 = 0) (h3 : f_at ≤ f_end) (h4 : f_ft = 0 ∨ f_at = f_end) (h5 : z94 ≤ f_end) (h6 : f_at ≤ z94) (h7 : 0 ≤ f_at ∧ f_at ≤ 1000) (h8 : 0 ≤ f_end ∧ f_end ≤ 1000) (h9 : 0 ≤ f_ft ∧ f_ft ≤ 4) (h10 : (-2147483648) ≤ p1 ∧ p1 ≤ 2147483647) (h11 : 1 ≤ z93 ∧ z93 ≤ 1) (h12 : 0 ≤ z94 ∧ z94 ≤ 1000) : z93 = 1 := by omega
theorem vc_X6_expect_v_6 {f_at f_end f_ft p1 z93 z94 : Int} (h0 : f_at ≤ f_end) (h1 : f_ft = 0 ∨ f_at = f_end) (h2 : z94 ≤ f_end) (h3 : f_at ≤ z94) (h4 : (z93 = 1 → p1 = -1 ∨ f_at + 1 ≤ z94)) (h5 : (z93 = 0 → z94 = f_at)) (h6 : p1 = -1 ∨ f_at + 1 ≤ z94) (h7 : ¬ z93 = 0) (h8 : 0 ≤ f_at ∧ f_at ≤ 1000) (h9 : 0 ≤ f_end ∧ f_end ≤ 1000) (h10 : 0 ≤ f_ft ∧ f_ft ≤ 4) (h11 : (-2147483648) ≤ p1 ∧ p1 ≤ 2147483647) (h12 : 1 ≤ z93 ∧ z93 ≤ 1) (h13 : 0 ≤ z94 ∧ z94 ≤ 1000) : z94 ≤ f_end := by omega
theorem vc_X6_expect_v_7 {f_at f_end f_ft p1 z93 z94 : Int} (h0 : f_at ≤ f_end) (h1 : f_ft = 0 ∨ f_at = f_end) (h2 : z94 ≤ f_end) (h3 : f_at ≤ z94) (h4 : (z93 = 1 → p1 = -1 ∨ f_at + 1 ≤ z94)) (h5 : (z93 = 0 → z94 = f_at)) (h6 : p1 = -1 ∨ f_at + 1 ≤ z94) (h7 : ¬ z93 = 0) (h8 : 0 ≤ f_at ∧ f_at ≤ 1000) (h9 : 0 ≤ f_end ∧ f_end ≤ 1000) (h10 : 0 ≤ f_ft ∧ f_ft ≤ 4) (h11 : (-2147483648) ≤ p1 ∧ p1 ≤ 2147483647) (h12 : 1 ≤ z93 ∧ z93 ≤ 1) (h13 : 0 ≤ z94 ∧ z94 ≤ 1000) : f_at ≤ z94 := by omega
theorem vc_X6_expect_v_8 {f_at f_end f_ft p1 z93 z94 : Int} (h0 : f_ft = 0 ∨ f_at = f_end) (h1 : f_at ≤ f_end) (h2 : z94 ≤ f_end) (h3 : f_at ≤ z94) (h4 : (z93 = 1 → p1 = -1 ∨ f_at + 1 ≤ z94)) (h5 : (z93 = 0 → z94 = f_at)) (h6 : p1 = -1 ∨ f_at + 1 ≤ z94) (h7 : 0 ≤ f_at ∧ f_at ≤ 1000) (h8 : 0 ≤ f_end ∧ f_end ≤ 1000) (h9 : 0 ≤ f_ft ∧ f_ft ≤ 4) (h10 : (-2147483648) ≤ p1 ∧ p1 ≤ 2147483647) (h11 : 1 ≤ z93 ∧ z93 ≤ 1) (h12 : 0 ≤ z94 ∧ z94 ≤ 1000) : f_ft = 0 ∨ 1 ≤ f_ft := by omega
theorem vc_X6_expect_v_9 {f_at f_end f_ft p1 z93 z94 : Int} (h0 : f_at ≤ f_end) (h1 : f_ft = 0 ∨ f_at = f_end) (h2 : z94 ≤ f_end) (h3 : f_at ≤ z94) (h4 : (z93 = 1 → p1 = -1 ∨ f_at + 1 ≤ z94)) (h5 : (z93 = 0 → z94 = f_at)) (h6 : p1 = -1 ∨ f_at + 1 ≤ z94) (h7 : ¬ z93 = 0) (h8 : 0 ≤ f_at ∧ f_at ≤ 1000) (h9 : 0 ≤ f_end ∧ f_end ≤ 1000) (h10 : 0 ≤ f_ft ∧ f_ft ≤ 4) (h11 : (-2147483648) ≤ p1 ∧ p1 ≤ 2147483647) (h12 : 1 ≤ z93 ∧ z93 ≤ 1) (h13 : 0 ≤ z94 ∧ z94 ≤ 1000) : f_ft = 0 ∨ z94 = f_end := by omega
theorem vc_X6_expect_v_10 {f_at f_end f_ft p1 z93 z94 : Int} (h0 : f_at ≤ f_end) (h1 : f_ft = 0 ∨ f_at = f_end) (h2 : z94 ≤ f_end) (h3 : f_at ≤ z94) (h4 : (z93 = 1 → p1 = -1 ∨ f_at + 1 ≤ z94)) (h5 : (z93 = 0 → z94 = f_at)) (h6 : p1 = -1 ∨ f_at + 1 ≤ z94) (h7 : ¬ z93 = 0) (h8 : 0 ≤ f_at ∧ f_at ≤ 1000) (h9 : 0 ≤ f_end ∧ f_end ≤ 1000) (h10 : 0 ≤ f_ft ∧ f_ft ≤ 4) (h11 : (-2147483648) ≤ p1 ∧ p1 ≤ 2147483647) (h12 : 1 ≤ z93 ∧ z93 ≤ 1) (h13 : 0 ≤ z94 ∧ z94 ≤ 1000) : f_ft = 0 → p1 = -1 ∨ f_at + 1 ≤ z94 := by omega
theorem vc_X6_expect_v_11 {f_at f_end f_ft p1 z93 z94 : Int} (h0 : (z93 = 1 → p1 = -1 ∨ f_at + 1 ≤ z94)) (h1 : (z93 = 0 → z94 = f_at)) (h2 : ¬ z93 = 0) (h3 : f_at ≤ f_end) (h4 : f_ft = 0 ∨ f_at = f_end) (h5 : z94 ≤ f_end) (h6 : f_at ≤ z94) (h7 : p1 = -1 ∨ f_at + 1 ≤ z94) (h8 : 0 ≤ f_at ∧ f_at ≤ 1000) (h9 : 0 ≤ f_end ∧ f_end ≤ 1000) (h10 : 0 ≤ f_ft ∧ f_ft ≤ 4) (h11 : (-2147483648) ≤ p1 ∧ p1 ≤ 2147483647) (h12 : 1 ≤ z93 ∧ z93 ≤ 1) (h13 : 0 ≤ z94 ∧ z94 ≤ 1000) : z93 = 1 := by omega
theorem vc_X6_expect_v_12 {f_at p1 z93 z94 : Int} (h0 : z93 = 0) (h1 : (z93 = 1 → p1 = -1 ∨ f_at + 1 ≤ z94)) (h2 : (z93 = 0 → z94 = f_at)) (h3 : 0 ≤ f_at ∧ f_at ≤ 1000) (h4 : (-2147483648) ≤ p1 ∧ p1 ≤ 2147483647) (h5 : 0 ≤ z93 ∧ z93 ≤ 1) (h6 : 0 ≤ z94 ∧ z94 ≤ 1000) : 0 ≤ z93 ∧ z93 ≤ 0 := by omega
theorem vc_X6_expect_v_13 {f_at f_end f_ft p1 z93 z94 : Int} (h0 : (z93 = 1 → p1 = -1 ∨ f_at + 1 ≤ z94)) (h1 : (z93 = 0 → z94 = f_at)) (h2 : z93 = 0) (h3 : f_at ≤ f_end) (h4 : f_ft = 0 ∨ f_at = f_end) (h5 : z94 ≤ f_end) (h6 : f_at ≤ z94) (h7 : 0 ≤ f_at ∧ f_at ≤ 1000) (h8 : 0 ≤ f_end ∧ f_end ≤ 1000) (h9 : 0 ≤ f_ft ∧ f_ft ≤ 4) (h10 : (-2147483648) ≤ p1 ∧ p1 ≤ 2147483647) (h11 : 0 ≤ z93 ∧ z93 ≤ 0) (h12 : 0 ≤ z94 ∧ z94 ≤ 1000) : z93 = 0 := by omega
theorem vc_X6_expect_v_14 {f_at f_end f_ft p1 z93 z94 : Int} (h0 : f_at ≤ f_end) (h1 : f_ft = 0 ∨ f_at = f_end) (h2 : z94 ≤ f_end) (h3 : f_at ≤ z94) (h4 : (z93 = 1 → p1 = -1 ∨ f_at + 1 ≤ z94)) (h5 : (z93 = 0 → z94 = f_at)) (h6 : z94 = f_at) (h7 : z93 = 0) (h8 : 0 ≤ f_at ∧ f_at ≤ 1000) (h9 : 0 ≤ f_end ∧ f_end ≤ 1000) (h10 : 0 ≤ f_ft ∧ f_ft ≤ 4) (h11 : (-2147483648) ≤ p1 ∧ p1 ≤ 2147483647) (h12 : 0 ≤ z93 ∧ z93 ≤ 0) (h13 : 0 ≤ z94 ∧ z94 ≤ 1000) : z94 ≤ f_end := by omega
theorem vc_X6_expect_v_15 {z112 : Int} (h0 : 1 ≤ z112) (h1 : 0 ≤ z112 ∧ z112 ≤ 4) : 1 ≤ z112 ∧ z112 ≤ 4 := by omega
theorem vc_X6_expect_v_16 {f_at f_end f_ft p1 z110 z93 z94 : Int} (h0 : f_at ≤ f_end) (h1 : f_ft = 0 ∨ f_at = f_end) (h2 : z94 ≤ f_end) (h3 : z110 = f_end) (h4 : f_at ≤ z94) (h5 : (z93 = 1 → p1 = -1 ∨ f_at + 1 ≤ z94)) (h6 : (z93 = 0 → z94 = f_at)) (h7 : z94 = f_at) (h8 : 0 ≤ f_at ∧ f_at ≤ 1000) (h9 : 0 ≤ f_end ∧ f_end ≤ 1000) (h10 : 0 ≤ f_ft ∧ f_ft ≤ 4) (h11 : (-2147483648) ≤ p1 ∧ p1 ≤ 2147483647) (h12 : 0 ≤ z110 ∧ z110 ≤ 1000) (h13 : 0 ≤ z93 ∧ z93 ≤ 0) (h14 : 0 ≤ z94 ∧ z94 ≤ 1000) : f_end ≤ f_end := by omega
theorem vc_X6_expect_v_17 {f_at f_end f_ft p1 z110 z93 z94 : Int} (h0 : f_at ≤ f_end) (h1 : f_ft = 0 ∨ f_at = f_end) (h2 : z94 ≤ f_end) (h3 : f_at ≤ z94) (h4 : (z93 = 1 → p1 = -1 ∨ f_at + 1 ≤ z94)) (h5 : (z93 = 0 → z94 = f_at)) (h6 : z94 = f_at) (h7 : z110 = f_end) (h8 : z93 = 0) (h9 : 0 ≤ f_at ∧ f_at ≤ 1000) (h10 : 0 ≤ f_end ∧ f_end ≤ 1000) (h11 : 0 ≤ f_ft ∧ f_ft ≤ 4) (h12 : (-2147483648) ≤ p1 ∧ p1 ≤ 2147483647) (h13 : 0 ≤ z110 ∧ z110 ≤ 1000) (h14 : 0 ≤ z93 ∧ z93 ≤ 0) (h15 : 0 ≤ z94 ∧ z94 ≤ 1000) : f_at ≤ f_end := by omega
theorem vc_X6_expect_v_18 {f_at f_end f_ft p1 z110 z112 z93 z94 : Int} (h0 : f_ft = 0 ∨ f_at = f_end) (h1 : 1 ≤ z112) (h2 : f_at ≤ f_end) (h3 : z94 ≤ f_end) (h4 : f_at ≤ z94) (h5 : (z93 = 1 → p1 = -1 ∨ f_at + 1 ≤ z94)) (h6 : (z93 = 0 → z94 = f_at)) (h7 : z94 = f_at) (h8 : z110 = f_end) (h9 : 0 ≤ f_at ∧ f_at ≤ 1000) (h10 : 0 ≤ f_end ∧ f_end ≤ 1000) (h11 : 0 ≤ f_ft ∧ f_ft ≤ 4) (h12 : (-2147483648) ≤ p1 ∧ p1 ≤ 2147483647) (h13 : 0 ≤ z110 ∧ z110 ≤ 1000) (h14 : 1 ≤ z112 ∧ z112 ≤ 4) (h15 : 0 ≤ z93 ∧ z93 ≤ 0) (h16 : 0 ≤ z94 ∧ z94 ≤ 1000) : f_ft = 0 ∨ 1 ≤ z112 := by omega
theorem vc_X6_expect_v_19 {f_at f_end f_ft p1 z110 z112 z93 z94 : Int} (h0 : f_at ≤ f_end) (h1 : f_ft = 0 ∨ f_at = f_end) (h2 : z94 ≤ f_end) (h3 : z110 = f_end) (h4 : 1 ≤ z112) (h5 : f_at ≤ z94) (h6 : (z93 = 1 → p1 = -1 ∨ f_at + 1 ≤ z94)) (h7 : (z93 = 0 → z94 = f_at)) (h8 : z94 = f_at) (h9 : 0 ≤ f_at ∧ f_at ≤ 1000) (h10 : 0 ≤ f_end ∧ f_end ≤ 1000) (h11 : 0 ≤ f_ft ∧ f_ft ≤ 4) (h12 : (-2147483648) ≤ p1 ∧ p1 ≤ 2147483647) (h13 : 0 ≤ z110 ∧ z110 ≤ 1000) (h14 : 1 ≤ z112 ∧ z112 ≤ 4) (h15 : 0 ≤ z93 ∧ z93 ≤ 0) (h16 : 0 ≤ z94 ∧ z94 ≤ 1000) : z112 = 0 ∨ f_end = f_end := by omega
theorem vc_X6_expect_v_20 {f_at f_end f_ft p1 z110 z112 z93 z94 : Int} (h0 : f_at ≤ f_end) (h1 : f_ft = 0 ∨ f_at = f_end) (h2 : z94 ≤ f_end) (h3 : f_at ≤ z94) (h4 : (z93 = 1 → p1 = -1 ∨ f_at + 1 ≤ z94)) (h5 : (z93 = 0 → z94 = f_at)) (h6 : z94 = f_at) (h7 : z110 = f_end) (h8 : 1 ≤ z112) (h9 : z93 = 0) (h10 : 0 ≤ f_at ∧ f_at ≤ 1000) (h11 : 0 ≤ f_end ∧ f_end ≤ 1000) (h12 : 0 ≤ f_ft ∧ f_ft ≤ 4) (h13 : (-2147483648) ≤ p1 ∧ p1 ≤ 2147483647) (h14 : 0 ≤ z110 ∧ z110 ≤ 1000) (h15 : 1 ≤ z112 ∧ z112 ≤ 4) (h16 : 0 ≤ z93 ∧ z93 ≤ 0) (h17 : 0 ≤ z94 ∧ z94 ≤ 1000) : z112 = 0 → p1 = -1 ∨ f_at + 1 ≤ f_end := by omega
theorem vc_X6_expect_v_21 {f_at f_end f_ft p1 z93 z94 : Int} (h0 : (z93 = 1 → p1 = -1 ∨ f_at + 1 ≤ z94)) (h1 : (z93 = 0 → z94 = f_at)) (h2 : z93 = 0) (h3 : f_at ≤ f_end) (h4 : f_ft = 0 ∨ f_at = f_end) (h5 : z94 ≤ f_end) (h6 : f_at ≤ z94) (h7 : z94 = f_at) (h8 : 0 ≤ f_at ∧ f_at ≤ 1000) (h9 : 0 ≤ f_end ∧ f_end ≤ 1000) (h10 : 0 ≤ f_ft ∧ f_ft ≤ 4) (h11 : (-2147483648) ≤ p1 ∧ p1 ≤ 2147483647) (h12 : 0 ≤ z93 ∧ z93 ≤ 0) (h13 : 0 ≤ z94 ∧ z94 ≤ 1000) : z93 = 0 := by omega
set_option maxRecDepth 4000 in
set_option maxHeartbeats 4000000 in
theorem c_X6_expect_v {l : Launch} {D : va_G} {c : Nat → ClassId} {H0 : Heap} {sa : Nat × Nat × (Nat → Int32)} {w : mW} {μ : mM} (hw : mWF w) (hT : mT w μ) {p1 : Int} (hp1 : (-2147483648) ≤ p1 ∧ p1 ≤ 2147483647) {f_at : Int} (q_f_at : μ 23 9 = f_at) {f_end : Int} (q_f_end : μ 23 8 = f_end) {f_ft : Int} (q_f_ft : μ 23 18 = f_ft) {f_te : Int} (q_f_te : μ 24 (f_end.toNat) = f_te) {f_fp : Int} (q_f_fp : μ 23 19 = f_fp) (hq0 : f_at ≤ f_end) (hq1 : f_te = -1) (hq2 : f_ft = 0 ∨ f_at = f_end) : sC (gG l D c H0 sa) mX6_expect 3 0 0 [.ref 23, iv p1] (mk w μ) (qV w [23009, 23018, 23019] μ (fun μ1 => ∃ o_at o_ft : Int, μ1 23 9 = o_at ∧ μ1 23 18 = o_ft ∧ (o_at ≤ f_end) ∧ (f_at ≤ o_at) ∧ (f_ft = 0 ∨ 1 ≤ o_ft) ∧ (o_ft = 0 ∨ o_at = f_end) ∧ (o_ft = 0 → p1 = -1 ∨ f_at + 1 ≤ o_at) ∧ (exK μ μ1 p1) ∧ True)) := by
  refine sC.of rfl (by decide) (le_t rfl) ?_
  have ht_f_at : (0 ≤ f_at ∧ f_at ≤ 1000) := by rw [← q_f_at]; exact hT 23 23 (A_23 hw) 9
  have ht_f_end : (0 ≤ f_end ∧ f_end ≤ 1000) := by rw [← q_f_end]; exact hT 23 23 (A_23 hw) 8
  have ht_f_ft : (0 ≤ f_ft ∧ f_ft ≤ 4) := by rw [← q_f_ft]; exact hT 23 23 (A_23 hw) 18
  have ht_f_te : ((-2147483648) ≤ f_te ∧ f_te ≤ 2147483647) := by rw [← q_f_te]; exact hT 24 24 (A_24 hw) (f_end.toNat)
  have ht_f_fp : (0 ≤ f_fp ∧ f_fp ≤ 1000) := by rw [← q_f_fp]; exact hT 23 23 (A_23 hw) 19
  have h1 : (-1) ≤ f_te ∧ f_te ≤ (-1) := (vc_X6_take_v_1 hq1 ht_f_te)
  refine mr_lvE (lv' := [(0, .ref 23), (1, iv p1)]) rfl ?_
  refine sv_aload_n (pc := 0) dX6_expect_0 rfl rfl ?_
  refine mr_iload_n (pc := 1) (z := p1) dX6_expect_1 rfl rfl ?_
  refine mr_cVI (pc := 2) (c_X6_take_v hw hT hp1 q_f_at q_f_end q_f_te q_f_ft q_f_fp (vc_X6_expect_v_2 hq0 hq2 ht_f_at ht_f_end ht_f_ft) (vc_X6_expect_v_3 hq1 h1)) (gOk _ _ _ _ _) dX6_expect_2 (tX6_take _ _ _ _ _) ⟨wV_X6_take, wL_X6_take⟩ wM_X6_120 (gCX6 _ _ _ _ _) rfl (A_23 hw) rfl ⟨le_t rfl, le_t rfl⟩ ⟨le_t rfl, le_t rfl⟩ rfl (le_t rfl) fun z93 μ89 T90 F91 h92 => ?_
  obtain ⟨z94, q95, h96⟩ := h92
  have h97 : (0 ≤ z94 ∧ z94 ≤ 1000) := by rw [← q95]; exact T90 23 23 (A_23 hw) 9
  refine mr_if_ne (pc := 5) (tgt := 13) dX6_expect_5 (by decide) (r32 h96.1 rfl) (fun h98 => ?_) (fun h98 => ?_)
  · have h99 : 1 ≤ z93 ∧ z93 ≤ 1 := (vc_X6_expect_v_4 h98 h96.2.2.2.1 h96.2.2.2.2.1 ht_f_at hp1 h96.1 h97)
    have h100 : p1 = -1 ∨ f_at + 1 ≤ z94 := (h96.2.2.2.1 (vc_X6_expect_v_5 h96.2.2.2.1 h96.2.2.2.2.1 h98 hq0 hq2 h96.2.1 h96.2.2.1 ht_f_at ht_f_end ht_f_ft hp1 h99 h97))
    exact mr_vret dX6_expect_13 rfl (le_t rfl) (le_t rfl) T90 (mF.call mF.refl F91 rfl) ⟨z94, f_ft, q95, (F91.f (A_23 hw) rfl q_f_ft), (vc_X6_expect_v_6 hq0 hq2 h96.2.1 h96.2.2.1 h96.2.2.2.1 h96.2.2.2.2.1 h100 h98 ht_f_at ht_f_end ht_f_ft hp1 h99 h97), (vc_X6_expect_v_7 hq0 hq2 h96.2.1 h96.2.2.1 h96.2.2.2.1 h96.2.2.2.2.1 h100 h98 ht_f_at ht_f_end ht_f_ft hp1 h99 h97), (vc_X6_expect_v_8 hq2 hq0 h96.2.1 h96.2.2.1 h96.2.2.2.1 h96.2.2.2.2.1 h100 ht_f_at ht_f_end ht_f_ft hp1 h99 h97), (vc_X6_expect_v_9 hq0 hq2 h96.2.1 h96.2.2.1 h96.2.2.2.1 h96.2.2.2.2.1 h100 h98 ht_f_at ht_f_end ht_f_ft hp1 h99 h97), (vc_X6_expect_v_10 hq0 hq2 h96.2.1 h96.2.2.1 h96.2.2.2.1 h96.2.2.2.2.1 h100 h98 ht_f_at ht_f_end ht_f_ft hp1 h99 h97), (exK.of h96.2.2.2.2.2.1 (Or.inl ⟨(vc_X6_expect_v_11 h96.2.2.2.1 h96.2.2.2.2.1 h98 hq0 hq2 h96.2.1 h96.2.2.1 h100 ht_f_at ht_f_end ht_f_ft hp1 h99 h97), rfl⟩) ⟨rowB (A_24 hw) ((mF.call mF.refl F91 rfl) : mF [23009] w μ μ89) rfl rfl, rowB (A_25 hw) ((mF.call mF.refl F91 rfl) : mF [23009] w μ μ89) rfl rfl, rowB (A_26 hw) ((mF.call mF.refl F91 rfl) : mF [23009] w μ μ89) rfl rfl, ((mF.call mF.refl F91 rfl) : mF [23009] w μ μ89).f (A_23 hw) rfl rfl⟩), trivial⟩
  have h101 : 0 ≤ z93 ∧ z93 ≤ 0 := (vc_X6_expect_v_12 h98 h96.2.2.2.1 h96.2.2.2.2.1 ht_f_at hp1 h96.1 h97)
  have h102 : z94 = f_at := (h96.2.2.2.2.1 (vc_X6_expect_v_13 h96.2.2.2.1 h96.2.2.2.2.1 h98 hq0 hq2 h96.2.1 h96.2.2.1 ht_f_at ht_f_end ht_f_ft hp1 h101 h97))
  refine sv_aload_n (pc := 8) dX6_expect_8 rfl rfl ?_
  refine mr_iconst (pc := 9) (z := 2) dX6_expect_9 ?_
  obtain ⟨z103, q104⟩ : ∃ z, μ89 26 (z94.toNat) = z := ⟨_, rfl⟩
  have h105 : (0 ≤ z103 ∧ z103 ≤ 1000) := by rw [← q104]; exact T90 26 26 (A_26 hw) (z94.toNat)
  refine mr_cVV (pc := 10) (c_X6_fail_v hw T90 (rW (c := 1) (d := 4) (rR (x := 2)) rfl) q95 (F91.f (A_23 hw) rfl q_f_end) (F91.f (A_23 hw) rfl q_f_ft) (F91.f (A_23 hw) rfl q_f_fp) q104 (vc_X6_expect_v_14 hq0 hq2 h96.2.1 h96.2.2.1 h96.2.2.2.1 h96.2.2.2.2.1 h102 h98 ht_f_at ht_f_end ht_f_ft hp1 h101 h97)) (gOk _ _ _ _ _) dX6_expect_10 (tX6_fail _ _ _ _ _) ⟨wV_X6_fail, wL_X6_fail⟩ wM_X6_123 (gCX6 _ _ _ _ _) rfl (A_23 hw) rfl ⟨le_t rfl, le_t rfl⟩ ⟨le_t rfl, le_t rfl⟩ rfl (le_t rfl) fun μ106 T107 F108 h109 => ?_
  obtain ⟨z110, z112, q111, q113, h114⟩ := h109
  have h115 : (0 ≤ z110 ∧ z110 ≤ 1000) := by rw [← q111]; exact T107 23 23 (A_23 hw) 9
  have h116 : (0 ≤ z112 ∧ z112 ≤ 4) := by rw [← q113]; exact T107 23 23 (A_23 hw) 18
  have q117 : μ106 23 9 = f_end := q111.trans h114.1
  have h118 : 1 ≤ z112 ∧ z112 ≤ 4 := (vc_X6_expect_v_15 h114.2.1 h116)
  exact mr_vret dX6_expect_13 rfl (le_t rfl) (le_t rfl) T107 (mF.call (mF.call mF.refl F91 rfl) F108 rfl) ⟨f_end, z112, q117, q113, (vc_X6_expect_v_16 hq0 hq2 h96.2.1 h114.1 h96.2.2.1 h96.2.2.2.1 h96.2.2.2.2.1 h102 ht_f_at ht_f_end ht_f_ft hp1 h115 h101 h97), (vc_X6_expect_v_17 hq0 hq2 h96.2.1 h96.2.2.1 h96.2.2.2.1 h96.2.2.2.2.1 h102 h114.1 h98 ht_f_at ht_f_end ht_f_ft hp1 h115 h101 h97), (vc_X6_expect_v_18 hq2 h114.2.1 hq0 h96.2.1 h96.2.2.1 h96.2.2.2.1 h96.2.2.2.2.1 h102 h114.1 ht_f_at ht_f_end ht_f_ft hp1 h115 h118 h101 h97), (vc_X6_expect_v_19 hq0 hq2 h96.2.1 h114.1 h114.2.1 h96.2.2.1 h96.2.2.2.1 h96.2.2.2.2.1 h102 ht_f_at ht_f_end ht_f_ft hp1 h115 h118 h101 h97), (vc_X6_expect_v_20 hq0 hq2 h96.2.1 h96.2.2.1 h96.2.2.2.1 h96.2.2.2.2.1 h102 h114.1 h114.2.1 h98 ht_f_at ht_f_end ht_f_ft hp1 h115 h118 h101 h97), (exK.of h96.2.2.2.2.2.1 (Or.inr ⟨(vc_X6_expect_v_21 h96.2.2.2.1 h96.2.2.2.2.1 h98 hq0 hq2 h96.2.1 h96.2.2.1 h102 ht_f_at ht_f_end ht_f_ft hp1 h101 h97), h114.2.2.1⟩) ⟨rowB (A_24 hw) ((mF.call mF.refl F91 rfl) : mF [23009] w μ μ89) rfl rfl, rowB (A_25 hw) ((mF.call mF.refl F91 rfl) : mF [23009] w μ μ89) rfl rfl, rowB (A_26 hw) ((mF.call mF.refl F91 rfl) : mF [23009] w μ μ89) rfl rfl, ((mF.call mF.refl F91 rfl) : mF [23009] w μ μ89).f (A_23 hw) rfl rfl⟩), trivial⟩
theorem vc_X6_number_v_2 {p2 : Int} (h0 : p2 ≤ 1000000) (h1 : (-2147483648) ≤ p2 ∧ p2 ≤ 2147483647) : (-2147483648) ≤ p2 ∧ p2 ≤ 1000000 := by omega
theorem vc_X6_number_v_3 {f_at f_end f_te z204 : Int} (h0 : z204 = (-2)) (h1 : (f_at = f_end → z204 = f_te)) (h2 : 0 ≤ f_at ∧ f_at ≤ 1000) (h3 : 0 ≤ f_end ∧ f_end ≤ 1000) (h4 : (-1) ≤ f_te ∧ f_te ≤ (-1)) (h5 : (-2147483648) ≤ z204 ∧ z204 ≤ 2147483647) : (-2) ≤ z204 ∧ z204 ≤ (-2) := by omega
theorem vc_X6_number_v_4 {p1 z209 : Int} (h0 : z209 < p1) (h1 : 0 ≤ p1 ∧ p1 ≤ 2147483647) (h2 : (-2147483648) ≤ z209 ∧ z209 ≤ 2147483647) : (-2147483648) ≤ z209 ∧ z209 ≤ 2147483646 := by omega
theorem vc_X6_number_v_5 {f_at f_end f_ft f_te z204 : Int} (h0 : f_at ≤ f_end) (h1 : f_ft = 0 ∨ f_at = f_end) (h2 : (f_at = f_end → z204 = f_te)) (h3 : f_te = -1) (h4 : z204 = (-2)) (h5 : 0 ≤ f_at ∧ f_at ≤ 1000) (h6 : 0 ≤ f_end ∧ f_end ≤ 1000) (h7 : 0 ≤ f_ft ∧ f_ft ≤ 4) (h8 : (-1) ≤ f_te ∧ f_te ≤ (-1)) (h9 : (-2) ≤ z204 ∧ z204 ≤ (-2)) : f_at ≤ f_end := by omega
theorem vc_X6_number_v_7 {f_at f_end f_ft f_te z204 z221 : Int} (h0 : f_at ≤ f_end) (h1 : f_ft = 0 ∨ f_at = f_end) (h2 : (f_at = f_end → z204 = f_te)) (h3 : z221 = f_end) (h4 : f_te = -1) (h5 : z204 = (-2)) (h6 : 0 ≤ f_at ∧ f_at ≤ 1000) (h7 : 0 ≤ f_end ∧ f_end ≤ 1000) (h8 : 0 ≤ f_ft ∧ f_ft ≤ 4) (h9 : (-1) ≤ f_te ∧ f_te ≤ (-1)) (h10 : (-2) ≤ z204 ∧ z204 ≤ (-2)) (h11 : 0 ≤ z221 ∧ z221 ≤ 1000) : f_end ≤ f_end := by omega
theorem vc_X6_number_v_8 {f_at f_end f_ft f_te z204 z221 : Int} (h0 : f_at ≤ f_end) (h1 : f_ft = 0 ∨ f_at = f_end) (h2 : (f_at = f_end → z204 = f_te)) (h3 : z221 = f_end) (h4 : f_te = -1) (h5 : z204 = (-2)) (h6 : 0 ≤ f_at ∧ f_at ≤ 1000) (h7 : 0 ≤ f_end ∧ f_end ≤ 1000) (h8 : 0 ≤ f_ft ∧ f_ft ≤ 4) (h9 : (-1) ≤ f_te ∧ f_te ≤ (-1)) (h10 : (-2) ≤ z204 ∧ z204 ≤ (-2)) (h11 : 0 ≤ z221 ∧ z221 ≤ 1000) : f_at ≤ f_end := by omega
theorem vc_X6_number_v_9 {f_at f_end f_ft f_te z204 z221 z223 : Int} (h0 : f_ft = 0 ∨ f_at = f_end) (h1 : 1 ≤ z223) (h2 : f_at ≤ f_end) (h3 : (f_at = f_end → z204 = f_te)) (h4 : z221 = f_end) (h5 : 0 ≤ f_at ∧ f_at ≤ 1000) (h6 : 0 ≤ f_end ∧ f_end ≤ 1000) (h7 : 0 ≤ f_ft ∧ f_ft ≤ 4) (h8 : (-1) ≤ f_te ∧ f_te ≤ (-1)) (h9 : (-2) ≤ z204 ∧ z204 ≤ (-2)) (h10 : 0 ≤ z221 ∧ z221 ≤ 1000) (h11 : 1 ≤ z223 ∧ z223 ≤ 4) : f_ft = 0 ∨ 1 ≤ z223 := by omega
theorem vc_X6_number_v_10 {f_at f_end f_ft f_te z204 z221 z223 : Int} (h0 : f_at ≤ f_end) (h1 : f_ft = 0 ∨ f_at = f_end) (h2 : (f_at = f_end → z204 = f_te)) (h3 : z221 = f_end) (h4 : 1 ≤ z223) (h5 : f_te = -1) (h6 : z204 = (-2)) (h7 : 0 ≤ f_at ∧ f_at ≤ 1000) (h8 : 0 ≤ f_end ∧ f_end ≤ 1000) (h9 : 0 ≤ f_ft ∧ f_ft ≤ 4) (h10 : (-1) ≤ f_te ∧ f_te ≤ (-1)) (h11 : (-2) ≤ z204 ∧ z204 ≤ (-2)) (h12 : 0 ≤ z221 ∧ z221 ≤ 1000) (h13 : 1 ≤ z223 ∧ z223 ≤ 4) : z223 = 0 ∨ f_end = f_end := by omega
theorem vc_X6_number_v_11 {f_at f_end f_ft f_te z204 z221 z223 : Int} (h0 : f_at ≤ f_end) (h1 : f_ft = 0 ∨ f_at = f_end) (h2 : (f_at = f_end → z204 = f_te)) (h3 : z221 = f_end) (h4 : 1 ≤ z223) (h5 : f_te = -1) (h6 : z204 = (-2)) (h7 : 0 ≤ f_at ∧ f_at ≤ 1000) (h8 : 0 ≤ f_end ∧ f_end ≤ 1000) (h9 : 0 ≤ f_ft ∧ f_ft ≤ 4) (h10 : (-1) ≤ f_te ∧ f_te ≤ (-1)) (h11 : (-2) ≤ z204 ∧ z204 ≤ (-2)) (h12 : 0 ≤ z221 ∧ z221 ≤ 1000) (h13 : 1 ≤ z223 ∧ z223 ≤ 4) : z223 = 0 → f_at + 1 ≤ f_end := by omega
theorem vc_X6_number_v_12 {f_at f_end f_ft f_te z204 z221 : Int} (h0 : (f_at = f_end → z204 = f_te)) (h1 : z204 = (-2)) (h2 : f_at ≤ f_end) (h3 : f_te = -1) (h4 : f_ft = 0 ∨ f_at = f_end) (h5 : z221 = f_end) (h6 : 0 ≤ f_at ∧ f_at ≤ 1000) (h7 : 0 ≤ f_end ∧ f_end ≤ 1000) (h8 : 0 ≤ f_ft ∧ f_ft ≤ 4) (h9 : (-1) ≤ f_te ∧ f_te ≤ (-1)) (h10 : (-2) ≤ z204 ∧ z204 ≤ (-2)) (h11 : 0 ≤ z221 ∧ z221 ≤ 1000) : z204 = -2 := by omega
theorem vc_X6_number_v_13 {p1 p2 z209 : Int} (h0 : p2 ≤ 1000000) (h1 : z209 < p1) (h2 : 0 ≤ p1 ∧ p1 ≤ 2147483647) (h3 : (-2147483648) ≤ p2 ∧ p2 ≤ 1000000) (h4 : (-2147483648) ≤ z209 ∧ z209 ≤ 2147483646) : z209 < p1 ∨ p2 < z209 := by omega
theorem vc_X6_number_v_14 {p1 z209 : Int} (h0 : p1 ≤ z209) (h1 : 0 ≤ p1 ∧ p1 ≤ 2147483647) (h2 : (-2147483648) ≤ z209 ∧ z209 ≤ 2147483647) : 0 ≤ z209 ∧ z209 ≤ 2147483647 := by omega
theorem vc_X6_number_v_15 {p1 p2 z209 : Int} (h0 : z209 ≤ p2) (h1 : p2 ≤ 1000000) (h2 : p1 ≤ z209) (h3 : 0 ≤ p1 ∧ p1 ≤ 2147483647) (h4 : (-2147483648) ≤ p2 ∧ p2 ≤ 1000000) (h5 : 0 ≤ z209 ∧ z209 ≤ 2147483647) : 0 ≤ z209 ∧ z209 ≤ 1000000 := by omega
theorem vc_X6_number_v_16 {p1 p2 z209 : Int} (h0 : z209 ≤ p2) (h1 : p2 ≤ 1000000) (h2 : p1 ≤ z209) (h3 : 0 ≤ p1 ∧ p1 ≤ 2147483647) (h4 : (-2147483648) ≤ p2 ∧ p2 ≤ 1000000) (h5 : 0 ≤ z209 ∧ z209 ≤ 1000000) : 0 ≤ p2 ∧ p2 ≤ 1000000 := by omega
theorem vc_X6_number_v_17 {f_at f_end f_ft f_te z204 z238 : Int} (h0 : f_at ≤ f_end) (h1 : f_ft = 0 ∨ f_at = f_end) (h2 : (f_at = f_end → z204 = f_te)) (h3 : z238 ≤ f_end) (h4 : f_at ≤ z238) (h5 : f_at < f_end → f_at + 1 ≤ z238) (h6 : f_te = -1) (h7 : z204 = (-2)) (h8 : 0 ≤ f_at ∧ f_at ≤ 1000) (h9 : 0 ≤ f_end ∧ f_end ≤ 1000) (h10 : 0 ≤ f_ft ∧ f_ft ≤ 4) (h11 : (-1) ≤ f_te ∧ f_te ≤ (-1)) (h12 : (-2) ≤ z204 ∧ z204 ≤ (-2)) (h13 : 0 ≤ z238 ∧ z238 ≤ 1000) : z238 ≤ f_end := by omega
theorem vc_X6_number_v_18 {f_at f_end f_ft f_te z204 z238 : Int} (h0 : f_at ≤ f_end) (h1 : f_ft = 0 ∨ f_at = f_end) (h2 : (f_at = f_end → z204 = f_te)) (h3 : z238 ≤ f_end) (h4 : f_at ≤ z238) (h5 : f_at < f_end → f_at + 1 ≤ z238) (h6 : f_te = -1) (h7 : z204 = (-2)) (h8 : 0 ≤ f_at ∧ f_at ≤ 1000) (h9 : 0 ≤ f_end ∧ f_end ≤ 1000) (h10 : 0 ≤ f_ft ∧ f_ft ≤ 4) (h11 : (-1) ≤ f_te ∧ f_te ≤ (-1)) (h12 : (-2) ≤ z204 ∧ z204 ≤ (-2)) (h13 : 0 ≤ z238 ∧ z238 ≤ 1000) : f_at ≤ z238 := by omega
theorem vc_X6_number_v_19 {f_at f_end f_ft f_te z204 z238 : Int} (h0 : f_ft = 0 ∨ f_at = f_end) (h1 : f_at ≤ f_end) (h2 : (f_at = f_end → z204 = f_te)) (h3 : z238 ≤ f_end) (h4 : f_at ≤ z238) (h5 : f_at < f_end → f_at + 1 ≤ z238) (h6 : 0 ≤ f_at ∧ f_at ≤ 1000) (h7 : 0 ≤ f_end ∧ f_end ≤ 1000) (h8 : 0 ≤ f_ft ∧ f_ft ≤ 4) (h9 : (-1) ≤ f_te ∧ f_te ≤ (-1)) (h10 : (-2) ≤ z204 ∧ z204 ≤ (-2)) (h11 : 0 ≤ z238 ∧ z238 ≤ 1000) : f_ft = 0 ∨ 1 ≤ f_ft := by omega
theorem vc_X6_number_v_20 {f_at f_end f_ft f_te z204 z238 : Int} (h0 : f_at ≤ f_end) (h1 : f_ft = 0 ∨ f_at = f_end) (h2 : (f_at = f_end → z204 = f_te)) (h3 : z238 ≤ f_end) (h4 : f_at ≤ z238) (h5 : f_at < f_end → f_at + 1 ≤ z238) (h6 : f_te = -1) (h7 : z204 = (-2)) (h8 : 0 ≤ f_at ∧ f_at ≤ 1000) (h9 : 0 ≤ f_end ∧ f_end ≤ 1000) (h10 : 0 ≤ f_ft ∧ f_ft ≤ 4) (h11 : (-1) ≤ f_te ∧ f_te ≤ (-1)) (h12 : (-2) ≤ z204 ∧ z204 ≤ (-2)) (h13 : 0 ≤ z238 ∧ z238 ≤ 1000) : f_ft = 0 ∨ z238 = f_end := by omega
theorem vc_X6_number_v_21 {f_at f_end f_ft f_te z204 z238 : Int} (h0 : f_at ≤ f_end) (h1 : f_ft = 0 ∨ f_at = f_end) (h2 : (f_at = f_end → z204 = f_te)) (h3 : z238 ≤ f_end) (h4 : f_at ≤ z238) (h5 : f_at < f_end → f_at + 1 ≤ z238) (h6 : f_te = -1) (h7 : z204 = (-2)) (h8 : 0 ≤ f_at ∧ f_at ≤ 1000) (h9 : 0 ≤ f_end ∧ f_end ≤ 1000) (h10 : 0 ≤ f_ft ∧ f_ft ≤ 4) (h11 : (-1) ≤ f_te ∧ f_te ≤ (-1)) (h12 : (-2) ≤ z204 ∧ z204 ≤ (-2)) (h13 : 0 ≤ z238 ∧ z238 ≤ 1000) : f_ft = 0 → f_at + 1 ≤ z238 := by omega
theorem vc_X6_number_v_22 {f_at f_end f_ft f_te z204 z238 : Int} (h0 : (f_at = f_end → z204 = f_te)) (h1 : z204 = (-2)) (h2 : f_at ≤ f_end) (h3 : f_te = -1) (h4 : f_ft = 0 ∨ f_at = f_end) (h5 : z238 ≤ f_end) (h6 : f_at ≤ z238) (h7 : f_at < f_end → f_at + 1 ≤ z238) (h8 : 0 ≤ f_at ∧ f_at ≤ 1000) (h9 : 0 ≤ f_end ∧ f_end ≤ 1000) (h10 : 0 ≤ f_ft ∧ f_ft ≤ 4) (h11 : (-1) ≤ f_te ∧ f_te ≤ (-1)) (h12 : (-2) ≤ z204 ∧ z204 ≤ (-2)) (h13 : 0 ≤ z238 ∧ z238 ≤ 1000) : z204 = -2 := by omega
theorem vc_X6_number_v_23 {p1 p2 z209 : Int} (h0 : p2 ≤ 1000000) (h1 : p1 ≤ z209) (h2 : z209 ≤ p2) (h3 : 0 ≤ p1 ∧ p1 ≤ 2147483647) (h4 : 0 ≤ p2 ∧ p2 ≤ 1000000) (h5 : 0 ≤ z209 ∧ z209 ≤ 1000000) : p1 ≤ z209 ∧ z209 ≤ p2 := by omega
theorem vc_X6_number_v_24 {p1 p2 z209 : Int} (h0 : p1 ≤ z209) (h1 : z209 ≤ p2) (h2 : p2 ≤ 1000000) (h3 : 0 ≤ p1 ∧ p1 ≤ 2147483647) (h4 : 0 ≤ p2 ∧ p2 ≤ 1000000) (h5 : 0 ≤ z209 ∧ z209 ≤ 1000000) : z209 = z209 := by omega
theorem vc_X6_number_v_32 {p1 p2 z209 : Int} (h0 : p2 ≤ 1000000) (h1 : p1 ≤ z209) (h2 : p2 < z209) (h3 : 0 ≤ p1 ∧ p1 ≤ 2147483647) (h4 : (-2147483648) ≤ p2 ∧ p2 ≤ 1000000) (h5 : 0 ≤ z209 ∧ z209 ≤ 2147483647) : z209 < p1 ∨ p2 < z209 := by omega
theorem vc_X6_number_v_33 {f_at f_end f_ft f_te z204 : Int} (h0 : f_at ≤ f_end) (h1 : f_ft = 0 ∨ f_at = f_end) (h2 : (f_at = f_end → z204 = f_te)) (h3 : f_te = -1) (h4 : ¬ z204 = (-2)) (h5 : 0 ≤ f_at ∧ f_at ≤ 1000) (h6 : 0 ≤ f_end ∧ f_end ≤ 1000) (h7 : 0 ≤ f_ft ∧ f_ft ≤ 4) (h8 : (-1) ≤ f_te ∧ f_te ≤ (-1)) (h9 : (-2147483648) ≤ z204 ∧ z204 ≤ 2147483647) : f_at ≤ f_end := by omega
theorem vc_X6_number_v_35 {f_at f_end f_ft f_te z204 z265 : Int} (h0 : f_at ≤ f_end) (h1 : f_ft = 0 ∨ f_at = f_end) (h2 : (f_at = f_end → z204 = f_te)) (h3 : z265 = f_end) (h4 : f_te = -1) (h5 : ¬ z204 = (-2)) (h6 : 0 ≤ f_at ∧ f_at ≤ 1000) (h7 : 0 ≤ f_end ∧ f_end ≤ 1000) (h8 : 0 ≤ f_ft ∧ f_ft ≤ 4) (h9 : (-1) ≤ f_te ∧ f_te ≤ (-1)) (h10 : (-2147483648) ≤ z204 ∧ z204 ≤ 2147483647) (h11 : 0 ≤ z265 ∧ z265 ≤ 1000) : f_end ≤ f_end := by omega
theorem vc_X6_number_v_36 {f_at f_end f_ft f_te z204 z265 : Int} (h0 : f_at ≤ f_end) (h1 : f_ft = 0 ∨ f_at = f_end) (h2 : (f_at = f_end → z204 = f_te)) (h3 : z265 = f_end) (h4 : f_te = -1) (h5 : ¬ z204 = (-2)) (h6 : 0 ≤ f_at ∧ f_at ≤ 1000) (h7 : 0 ≤ f_end ∧ f_end ≤ 1000) (h8 : 0 ≤ f_ft ∧ f_ft ≤ 4) (h9 : (-1) ≤ f_te ∧ f_te ≤ (-1)) (h10 : (-2147483648) ≤ z204 ∧ z204 ≤ 2147483647) (h11 : 0 ≤ z265 ∧ z265 ≤ 1000) : f_at ≤ f_end := by omega
theorem vc_X6_number_v_37 {f_at f_end f_ft f_te z204 z265 z267 : Int} (h0 : f_ft = 0 ∨ f_at = f_end) (h1 : 1 ≤ z267) (h2 : f_at ≤ f_end) (h3 : (f_at = f_end → z204 = f_te)) (h4 : z265 = f_end) (h5 : 0 ≤ f_at ∧ f_at ≤ 1000) (h6 : 0 ≤ f_end ∧ f_end ≤ 1000) (h7 : 0 ≤ f_ft ∧ f_ft ≤ 4) (h8 : (-1) ≤ f_te ∧ f_te ≤ (-1)) (h9 : (-2147483648) ≤ z204 ∧ z204 ≤ 2147483647) (h10 : 0 ≤ z265 ∧ z265 ≤ 1000) (h11 : 1 ≤ z267 ∧ z267 ≤ 4) : f_ft = 0 ∨ 1 ≤ z267 := by omega
theorem vc_X6_number_v_38 {f_at f_end f_ft f_te z204 z265 z267 : Int} (h0 : f_at ≤ f_end) (h1 : f_ft = 0 ∨ f_at = f_end) (h2 : (f_at = f_end → z204 = f_te)) (h3 : z265 = f_end) (h4 : 1 ≤ z267) (h5 : f_te = -1) (h6 : ¬ z204 = (-2)) (h7 : 0 ≤ f_at ∧ f_at ≤ 1000) (h8 : 0 ≤ f_end ∧ f_end ≤ 1000) (h9 : 0 ≤ f_ft ∧ f_ft ≤ 4) (h10 : (-1) ≤ f_te ∧ f_te ≤ (-1)) (h11 : (-2147483648) ≤ z204 ∧ z204 ≤ 2147483647) (h12 : 0 ≤ z265 ∧ z265 ≤ 1000) (h13 : 1 ≤ z267 ∧ z267 ≤ 4) : z267 = 0 ∨ f_end = f_end := by omega
theorem vc_X6_number_v_39 {f_at f_end f_ft f_te z204 z265 z267 : Int} (h0 : f_at ≤ f_end) (h1 : f_ft = 0 ∨ f_at = f_end) (h2 : (f_at = f_end → z204 = f_te)) (h3 : z265 = f_end) (h4 : 1 ≤ z267) (h5 : f_te = -1) (h6 : ¬ z204 = (-2)) (h7 : 0 ≤ f_at ∧ f_at ≤ 1000) (h8 : 0 ≤ f_end ∧ f_end ≤ 1000) (h9 : 0 ≤ f_ft ∧ f_ft ≤ 4) (h10 : (-1) ≤ f_te ∧ f_te ≤ (-1)) (h11 : (-2147483648) ≤ z204 ∧ z204 ≤ 2147483647) (h12 : 0 ≤ z265 ∧ z265 ≤ 1000) (h13 : 1 ≤ z267 ∧ z267 ≤ 4) : z267 = 0 → f_at + 1 ≤ f_end := by omega
theorem vc_X6_number_v_40 {f_at f_end f_ft f_te z204 z265 : Int} (h0 : (f_at = f_end → z204 = f_te)) (h1 : ¬ z204 = (-2)) (h2 : f_at ≤ f_end) (h3 : f_te = -1) (h4 : f_ft = 0 ∨ f_at = f_end) (h5 : z265 = f_end) (h6 : 0 ≤ f_at ∧ f_at ≤ 1000) (h7 : 0 ≤ f_end ∧ f_end ≤ 1000) (h8 : 0 ≤ f_ft ∧ f_ft ≤ 4) (h9 : (-1) ≤ f_te ∧ f_te ≤ (-1)) (h10 : (-2147483648) ≤ z204 ∧ z204 ≤ 2147483647) (h11 : 0 ≤ z265 ∧ z265 ≤ 1000) : ¬ z204 = -2 := by omega
set_option maxRecDepth 4000 in
set_option maxHeartbeats 4000000 in
theorem c_X6_number_v {l : Launch} {D : va_G} {c : Nat → ClassId} {H0 : Heap} {sa : Nat × Nat × (Nat → Int32)} {w : mW} {μ : mM} (hw : mWF w) (hT : mT w μ) {p1 : Int} (hp1 : 0 ≤ p1 ∧ p1 ≤ 2147483647) {p2 : Int} (hp2 : (-2147483648) ≤ p2 ∧ p2 ≤ 2147483647) {f_at : Int} (q_f_at : μ 23 9 = f_at) {f_end : Int} (q_f_end : μ 23 8 = f_end) {f_ft : Int} (q_f_ft : μ 23 18 = f_ft) {f_te : Int} (q_f_te : μ 24 (f_end.toNat) = f_te) {f_fp : Int} (q_f_fp : μ 23 19 = f_fp) (hq0 : f_at ≤ f_end) (hq1 : f_te = -1) (hq2 : f_ft = 0 ∨ f_at = f_end) (hq3 : p2 ≤ 1000000) : sC (gG l D c H0 sa) mX6_number 2 0 0 [.ref 23, iv p1, iv p2] (mk w μ) (qI w [23009, 23018, 23019] μ (fun z μ1 => ∃ o_at o_ft : Int, μ1 23 9 = o_at ∧ μ1 23 18 = o_ft ∧ (0 ≤ z ∧ z ≤ 1000000) ∧ (o_at ≤ f_end) ∧ (f_at ≤ o_at) ∧ (f_ft = 0 ∨ 1 ≤ o_ft) ∧ (o_ft = 0 ∨ o_at = f_end) ∧ (o_ft = 0 → f_at + 1 ≤ o_at) ∧ (nbK μ μ1 p1 p2 z) ∧ True)) := by
  refine sC.of rfl (by decide) (le_t rfl) ?_
  have ht_f_at : (0 ≤ f_at ∧ f_at ≤ 1000) := by rw [← q_f_at]; exact hT 23 23 (A_23 hw) 9
  have ht_f_end : (0 ≤ f_end ∧ f_end ≤ 1000) := by rw [← q_f_end]; exact hT 23 23 (A_23 hw) 8
  have ht_f_ft : (0 ≤ f_ft ∧ f_ft ≤ 4) := by rw [← q_f_ft]; exact hT 23 23 (A_23 hw) 18
  have ht_f_te : ((-2147483648) ≤ f_te ∧ f_te ≤ 2147483647) := by rw [← q_f_te]; exact hT 24 24 (A_24 hw) (f_end.toNat)
  have ht_f_fp : (0 ≤ f_fp ∧ f_fp ≤ 1000) := by rw [← q_f_fp]; exact hT 23 23 (A_23 hw) 19
  have h1 : (-1) ≤ f_te ∧ f_te ≤ (-1) := (vc_X6_take_v_1 hq1 ht_f_te)
  have h2 : (-2147483648) ≤ p2 ∧ p2 ≤ 1000000 := (vc_X6_number_v_2 hq3 hp2)
  refine mr_lvE (lv' := [(0, .ref 23), (1, iv p1), (2, iv p2)]) rfl ?_
  refine sv_aload_n (pc := 0) dX6_number_0 rfl rfl ?_
  refine gf_X6_0 (pc := 1) dX6_number_1 wF_X6_9 (A_23 hw) hT ?_
  refine sv_aload_n (pc := 4) dX6_number_4 rfl rfl ?_
  refine gk_X6_9 (pc := 5) dX6_number_5 wF_X6_63 (A_23 hw) q_f_at ?_
  refine la_24 (pc := 8) dX6_number_8 (A_24 hw) hT (rIx (n := 1001) ht_f_at rfl) fun z204 q205 h206 => ?_
  refine mr_bipush (pc := 9) (z := (-2)) dX6_number_9 (by decide) ?_
  refine mr_icmp_eq (pc := 11) (tgt := 21) dX6_number_11 (by decide) h206 (r32 (rR (x := (-2))) rfl) (fun h207 => ?_) (fun h207 => ?_)
  · have h208 : (-2) ≤ z204 ∧ z204 ≤ (-2) := (vc_X6_number_v_3 h207 (cgr q205 q_f_te) ht_f_at ht_f_end h1 h206)
    refine sv_aload_n (pc := 21) dX6_number_21 rfl rfl ?_
    refine gf_X6_1 (pc := 22) dX6_number_22 wF_X6_15 (A_23 hw) hT ?_
    refine sv_aload_n (pc := 25) dX6_number_25 rfl rfl ?_
    refine gk_X6_9 (pc := 26) dX6_number_26 wF_X6_63 (A_23 hw) q_f_at ?_
    refine la_25 (pc := 29) dX6_number_29 (A_25 hw) hT (rIx (n := 1001) ht_f_at rfl) fun z209 q210 h211 => ?_
    refine mr_istore_n (pc := 30) (lv' := [(3, iv z209), (0, .ref 23), (1, iv p1), (2, iv p2)]) dX6_number_30 rfl (by decide) rfl ?_
    refine mr_iload_n (pc := 31) (z := z209) dX6_number_31 rfl rfl ?_
    refine mr_iload_n (pc := 32) (z := p1) dX6_number_32 rfl rfl ?_
    refine mr_icmp_lt (pc := 33) (tgt := 41) dX6_number_33 (by decide) h211 (r32 hp1 rfl) (fun h212 => ?_) (fun h212 => ?_)
    · have h213 : (-2147483648) ≤ z209 ∧ z209 ≤ 2147483646 := (vc_X6_number_v_4 h212 hp1 h211)
      refine sv_aload_n (pc := 41) dX6_number_41 rfl rfl ?_
      refine mr_iconst (pc := 42) (z := 3) dX6_number_42 ?_
      obtain ⟨z214, q215⟩ : ∃ z, μ 26 (f_at.toNat) = z := ⟨_, rfl⟩
      have h216 : (0 ≤ z214 ∧ z214 ≤ 1000) := by rw [← q215]; exact hT 26 26 (A_26 hw) (f_at.toNat)
      refine mr_cVV (pc := 43) (c_X6_fail_v hw hT (rW (c := 1) (d := 4) (rR (x := 3)) rfl) q_f_at q_f_end q_f_ft q_f_fp q215 (vc_X6_number_v_5 hq0 hq2 (cgr q205 q_f_te) hq1 h207 ht_f_at ht_f_end ht_f_ft h1 h208)) (gOk _ _ _ _ _) dX6_number_43 (tX6_fail _ _ _ _ _) ⟨wV_X6_fail, wL_X6_fail⟩ wM_X6_123 (gCX6 _ _ _ _ _) rfl (A_23 hw) rfl ⟨le_t rfl, le_t rfl⟩ ⟨le_t rfl, le_t rfl⟩ rfl (le_t rfl) fun μ217 T218 F219 h220 => ?_
      obtain ⟨z221, z223, q222, q224, h225⟩ := h220
      have h226 : (0 ≤ z221 ∧ z221 ≤ 1000) := by rw [← q222]; exact T218 23 23 (A_23 hw) 9
      have h227 : (0 ≤ z223 ∧ z223 ≤ 4) := by rw [← q224]; exact T218 23 23 (A_23 hw) 18
      have q228 : μ217 23 9 = f_end := q222.trans h225.1
      have h229 : 1 ≤ z223 ∧ z223 ≤ 4 := (vc_X6_expect_v_15 h225.2.1 h227)
      refine mr_iconst (pc := 46) (z := 0) dX6_number_46 ?_
      exact mr_iret dX6_number_47 rfl (le_t rfl) (le_t rfl) T218 (mF.call mF.refl F219 rfl) ⟨f_end, z223, q228, q224, (rW (c := 0) (d := 1000000) (rR (x := 0)) rfl), (vc_X6_number_v_7 hq0 hq2 (cgr q205 q_f_te) h225.1 hq1 h207 ht_f_at ht_f_end ht_f_ft h1 h208 h226), (vc_X6_number_v_8 hq0 hq2 (cgr q205 q_f_te) h225.1 hq1 h207 ht_f_at ht_f_end ht_f_ft h1 h208 h226), (vc_X6_number_v_9 hq2 h225.2.1 hq0 (cgr q205 q_f_te) h225.1 ht_f_at ht_f_end ht_f_ft h1 h208 h226 h229), (vc_X6_number_v_10 hq0 hq2 (cgr q205 q_f_te) h225.1 h225.2.1 hq1 h207 ht_f_at ht_f_end ht_f_ft h1 h208 h226 h229), (vc_X6_number_v_11 hq0 hq2 (cgr q205 q_f_te) h225.1 h225.2.1 hq1 h207 ht_f_at ht_f_end ht_f_ft h1 h208 h226 h229), (Or.inr (Or.inl ⟨((cT.is q_f_at q205).trans (vc_X6_number_v_12 (cgr q205 q_f_te) h207 hq0 hq1 hq2 h225.1 ht_f_at ht_f_end ht_f_ft h1 h208 h226)), (by rw [(cV.is q_f_at q210)]; exact (vc_X6_number_v_13 hq3 h212 hp1 h2 h213)), h225.2.2.1⟩)), trivial⟩
    have h230 : 0 ≤ z209 ∧ z209 ≤ 2147483647 := (vc_X6_number_v_14 h212 hp1 h211)
    refine mr_iload_n (pc := 36) (z := z209) dX6_number_36 rfl rfl ?_
    refine mr_iload_n (pc := 37) (z := p2) dX6_number_37 rfl rfl ?_
    refine mr_icmp_le (pc := 38) (tgt := 48) dX6_number_38 (by decide) (r32 h230 rfl) (r32 h2 rfl) (fun h231 => ?_) (fun h231 => ?_)
    · have h232 : 0 ≤ z209 ∧ z209 ≤ 1000000 := (vc_X6_number_v_15 h231 hq3 h212 hp1 h2 h230)
      have h233 : 0 ≤ p2 ∧ p2 ≤ 1000000 := (vc_X6_number_v_16 h231 hq3 h212 hp1 h2 h232)
      refine sv_aload_n (pc := 48) dX6_number_48 rfl rfl ?_
      refine mr_cVV (pc := 49) (c_X6_step_v hw hT q_f_at q_f_end q_f_ft q_f_fp (vc_X6_number_v_5 hq0 hq2 (cgr q205 q_f_te) hq1 h207 ht_f_at ht_f_end ht_f_ft h1 h208)) (gOk _ _ _ _ _) dX6_number_49 (tX6_step _ _ _ _ _) ⟨wV_X6_step, wL_X6_step⟩ wM_X6_117 (gCX6 _ _ _ _ _) rfl (A_23 hw) rfl ⟨le_t rfl, le_t rfl⟩ ⟨le_t rfl, le_t rfl⟩ rfl (le_t rfl) fun μ234 T235 F236 h237 => ?_
      obtain ⟨z238, q239, h240⟩ := h237
      have h241 : (0 ≤ z238 ∧ z238 ≤ 1000) := by rw [← q239]; exact T235 23 23 (A_23 hw) 9
      refine mr_iload_n (pc := 52) (z := z209) dX6_number_52 rfl rfl ?_
      exact mr_iret dX6_number_53 rfl (le_t rfl) (le_t rfl) T235 (mF.call mF.refl F236 rfl) ⟨z238, f_ft, q239, (F236.f (A_23 hw) rfl q_f_ft), h232, (vc_X6_number_v_17 hq0 hq2 (cgr q205 q_f_te) h240.1 h240.2.1 h240.2.2.1 hq1 h207 ht_f_at ht_f_end ht_f_ft h1 h208 h241), (vc_X6_number_v_18 hq0 hq2 (cgr q205 q_f_te) h240.1 h240.2.1 h240.2.2.1 hq1 h207 ht_f_at ht_f_end ht_f_ft h1 h208 h241), (vc_X6_number_v_19 hq2 hq0 (cgr q205 q_f_te) h240.1 h240.2.1 h240.2.2.1 ht_f_at ht_f_end ht_f_ft h1 h208 h241), (vc_X6_number_v_20 hq0 hq2 (cgr q205 q_f_te) h240.1 h240.2.1 h240.2.2.1 hq1 h207 ht_f_at ht_f_end ht_f_ft h1 h208 h241), (vc_X6_number_v_21 hq0 hq2 (cgr q205 q_f_te) h240.1 h240.2.1 h240.2.2.1 hq1 h207 ht_f_at ht_f_end ht_f_ft h1 h208 h241), (Or.inr (Or.inr ⟨((cT.is q_f_at q205).trans (vc_X6_number_v_22 (cgr q205 q_f_te) h207 hq0 hq1 hq2 h240.1 h240.2.1 h240.2.2.1 ht_f_at ht_f_end ht_f_ft h1 h208 h241)), (by rw [(cV.is q_f_at q210)]; exact (vc_X6_number_v_23 hq3 h212 h231 hp1 h233 h232)), (vc_X6_number_v_24 h212 h231 hq3 hp1 h233 h232).trans (cV.is q_f_at q210).symm, h240.2.2.2.1⟩)), trivial⟩
    refine sv_aload_n (pc := 41) dX6_number_41 rfl rfl ?_
    refine mr_iconst (pc := 42) (z := 3) dX6_number_42 ?_
    obtain ⟨z242, q243⟩ : ∃ z, μ 26 (f_at.toNat) = z := ⟨_, rfl⟩
    have h244 : (0 ≤ z242 ∧ z242 ≤ 1000) := by rw [← q243]; exact hT 26 26 (A_26 hw) (f_at.toNat)
    refine mr_cVV (pc := 43) (c_X6_fail_v hw hT (rW (c := 1) (d := 4) (rR (x := 3)) rfl) q_f_at q_f_end q_f_ft q_f_fp q243 (vc_X6_number_v_5 hq0 hq2 (cgr q205 q_f_te) hq1 h207 ht_f_at ht_f_end ht_f_ft h1 h208)) (gOk _ _ _ _ _) dX6_number_43 (tX6_fail _ _ _ _ _) ⟨wV_X6_fail, wL_X6_fail⟩ wM_X6_123 (gCX6 _ _ _ _ _) rfl (A_23 hw) rfl ⟨le_t rfl, le_t rfl⟩ ⟨le_t rfl, le_t rfl⟩ rfl (le_t rfl) fun μ245 T246 F247 h248 => ?_
    obtain ⟨z249, z251, q250, q252, h253⟩ := h248
    have h254 : (0 ≤ z249 ∧ z249 ≤ 1000) := by rw [← q250]; exact T246 23 23 (A_23 hw) 9
    have h255 : (0 ≤ z251 ∧ z251 ≤ 4) := by rw [← q252]; exact T246 23 23 (A_23 hw) 18
    have q256 : μ245 23 9 = f_end := q250.trans h253.1
    have h257 : 1 ≤ z251 ∧ z251 ≤ 4 := (vc_X6_expect_v_15 h253.2.1 h255)
    refine mr_iconst (pc := 46) (z := 0) dX6_number_46 ?_
    exact mr_iret dX6_number_47 rfl (le_t rfl) (le_t rfl) T246 (mF.call mF.refl F247 rfl) ⟨f_end, z251, q256, q252, (rW (c := 0) (d := 1000000) (rR (x := 0)) rfl), (vc_X6_number_v_7 hq0 hq2 (cgr q205 q_f_te) h253.1 hq1 h207 ht_f_at ht_f_end ht_f_ft h1 h208 h254), (vc_X6_number_v_8 hq0 hq2 (cgr q205 q_f_te) h253.1 hq1 h207 ht_f_at ht_f_end ht_f_ft h1 h208 h254), (vc_X6_number_v_9 hq2 h253.2.1 hq0 (cgr q205 q_f_te) h253.1 ht_f_at ht_f_end ht_f_ft h1 h208 h254 h257), (vc_X6_number_v_10 hq0 hq2 (cgr q205 q_f_te) h253.1 h253.2.1 hq1 h207 ht_f_at ht_f_end ht_f_ft h1 h208 h254 h257), (vc_X6_number_v_11 hq0 hq2 (cgr q205 q_f_te) h253.1 h253.2.1 hq1 h207 ht_f_at ht_f_end ht_f_ft h1 h208 h254 h257), (Or.inr (Or.inl ⟨((cT.is q_f_at q205).trans (vc_X6_number_v_12 (cgr q205 q_f_te) h207 hq0 hq1 hq2 h253.1 ht_f_at ht_f_end ht_f_ft h1 h208 h254)), (by rw [(cV.is q_f_at q210)]; exact (vc_X6_number_v_32 hq3 h212 h231 hp1 h2 h230)), h253.2.2.1⟩)), trivial⟩
  refine sv_aload_n (pc := 14) dX6_number_14 rfl rfl ?_
  refine mr_iconst (pc := 15) (z := 2) dX6_number_15 ?_
  obtain ⟨z258, q259⟩ : ∃ z, μ 26 (f_at.toNat) = z := ⟨_, rfl⟩
  have h260 : (0 ≤ z258 ∧ z258 ≤ 1000) := by rw [← q259]; exact hT 26 26 (A_26 hw) (f_at.toNat)
  refine mr_cVV (pc := 16) (c_X6_fail_v hw hT (rW (c := 1) (d := 4) (rR (x := 2)) rfl) q_f_at q_f_end q_f_ft q_f_fp q259 (vc_X6_number_v_33 hq0 hq2 (cgr q205 q_f_te) hq1 h207 ht_f_at ht_f_end ht_f_ft h1 h206)) (gOk _ _ _ _ _) dX6_number_16 (tX6_fail _ _ _ _ _) ⟨wV_X6_fail, wL_X6_fail⟩ wM_X6_123 (gCX6 _ _ _ _ _) rfl (A_23 hw) rfl ⟨le_t rfl, le_t rfl⟩ ⟨le_t rfl, le_t rfl⟩ rfl (le_t rfl) fun μ261 T262 F263 h264 => ?_
  obtain ⟨z265, z267, q266, q268, h269⟩ := h264
  have h270 : (0 ≤ z265 ∧ z265 ≤ 1000) := by rw [← q266]; exact T262 23 23 (A_23 hw) 9
  have h271 : (0 ≤ z267 ∧ z267 ≤ 4) := by rw [← q268]; exact T262 23 23 (A_23 hw) 18
  have q272 : μ261 23 9 = f_end := q266.trans h269.1
  have h273 : 1 ≤ z267 ∧ z267 ≤ 4 := (vc_X6_expect_v_15 h269.2.1 h271)
  refine mr_iconst (pc := 19) (z := 0) dX6_number_19 ?_
  exact mr_iret dX6_number_20 rfl (le_t rfl) (le_t rfl) T262 (mF.call mF.refl F263 rfl) ⟨f_end, z267, q272, q268, (rW (c := 0) (d := 1000000) (rR (x := 0)) rfl), (vc_X6_number_v_35 hq0 hq2 (cgr q205 q_f_te) h269.1 hq1 h207 ht_f_at ht_f_end ht_f_ft h1 h206 h270), (vc_X6_number_v_36 hq0 hq2 (cgr q205 q_f_te) h269.1 hq1 h207 ht_f_at ht_f_end ht_f_ft h1 h206 h270), (vc_X6_number_v_37 hq2 h269.2.1 hq0 (cgr q205 q_f_te) h269.1 ht_f_at ht_f_end ht_f_ft h1 h206 h270 h273), (vc_X6_number_v_38 hq0 hq2 (cgr q205 q_f_te) h269.1 h269.2.1 hq1 h207 ht_f_at ht_f_end ht_f_ft h1 h206 h270 h273), (vc_X6_number_v_39 hq0 hq2 (cgr q205 q_f_te) h269.1 h269.2.1 hq1 h207 ht_f_at ht_f_end ht_f_ft h1 h206 h270 h273), (Or.inl ⟨(by rw [(cT.is q_f_at q205)]; exact (vc_X6_number_v_40 (cgr q205 q_f_te) h207 hq0 hq1 hq2 h269.1 ht_f_at ht_f_end ht_f_ft h1 h206 h270)), h269.2.2.1⟩), trivial⟩
theorem vc_X6_oneOf_v_2 {f_at f_end f_te p1 z143 : Int} (h0 : z143 < p1) (h1 : (f_at = f_end → z143 = f_te)) (h2 : 0 ≤ f_at ∧ f_at ≤ 1000) (h3 : 0 ≤ f_end ∧ f_end ≤ 1000) (h4 : (-1) ≤ f_te ∧ f_te ≤ (-1)) (h5 : 0 ≤ p1 ∧ p1 ≤ 30) (h6 : (-2147483648) ≤ z143 ∧ z143 ≤ 2147483647) : (-2147483648) ≤ z143 ∧ z143 ≤ 29 := by omega
theorem vc_X6_oneOf_v_3 {f_at f_end f_ft f_te p1 z143 : Int} (h0 : f_at ≤ f_end) (h1 : f_ft = 0 ∨ f_at = f_end) (h2 : (f_at = f_end → z143 = f_te)) (h3 : f_te = -1) (h4 : z143 < p1) (h5 : 0 ≤ f_at ∧ f_at ≤ 1000) (h6 : 0 ≤ f_end ∧ f_end ≤ 1000) (h7 : 0 ≤ f_ft ∧ f_ft ≤ 4) (h8 : (-1) ≤ f_te ∧ f_te ≤ (-1)) (h9 : 0 ≤ p1 ∧ p1 ≤ 30) (h10 : (-2147483648) ≤ z143 ∧ z143 ≤ 29) : f_at ≤ f_end := by omega
theorem vc_X6_oneOf_v_5 {f_at f_end f_ft f_te p1 z143 z155 : Int} (h0 : f_at ≤ f_end) (h1 : f_ft = 0 ∨ f_at = f_end) (h2 : (f_at = f_end → z143 = f_te)) (h3 : z155 = f_end) (h4 : f_te = -1) (h5 : z143 < p1) (h6 : 0 ≤ f_at ∧ f_at ≤ 1000) (h7 : 0 ≤ f_end ∧ f_end ≤ 1000) (h8 : 0 ≤ f_ft ∧ f_ft ≤ 4) (h9 : (-1) ≤ f_te ∧ f_te ≤ (-1)) (h10 : 0 ≤ p1 ∧ p1 ≤ 30) (h11 : (-2147483648) ≤ z143 ∧ z143 ≤ 29) (h12 : 0 ≤ z155 ∧ z155 ≤ 1000) : f_end ≤ f_end := by omega
theorem vc_X6_oneOf_v_6 {f_at f_end f_ft f_te p1 z143 z155 : Int} (h0 : f_at ≤ f_end) (h1 : f_ft = 0 ∨ f_at = f_end) (h2 : (f_at = f_end → z143 = f_te)) (h3 : z155 = f_end) (h4 : f_te = -1) (h5 : z143 < p1) (h6 : 0 ≤ f_at ∧ f_at ≤ 1000) (h7 : 0 ≤ f_end ∧ f_end ≤ 1000) (h8 : 0 ≤ f_ft ∧ f_ft ≤ 4) (h9 : (-1) ≤ f_te ∧ f_te ≤ (-1)) (h10 : 0 ≤ p1 ∧ p1 ≤ 30) (h11 : (-2147483648) ≤ z143 ∧ z143 ≤ 29) (h12 : 0 ≤ z155 ∧ z155 ≤ 1000) : f_at ≤ f_end := by omega
theorem vc_X6_oneOf_v_7 {f_at f_end f_ft f_te z143 z155 z157 : Int} (h0 : f_ft = 0 ∨ f_at = f_end) (h1 : 1 ≤ z157) (h2 : f_at ≤ f_end) (h3 : (f_at = f_end → z143 = f_te)) (h4 : z155 = f_end) (h5 : 0 ≤ f_at ∧ f_at ≤ 1000) (h6 : 0 ≤ f_end ∧ f_end ≤ 1000) (h7 : 0 ≤ f_ft ∧ f_ft ≤ 4) (h8 : (-1) ≤ f_te ∧ f_te ≤ (-1)) (h9 : (-2147483648) ≤ z143 ∧ z143 ≤ 29) (h10 : 0 ≤ z155 ∧ z155 ≤ 1000) (h11 : 1 ≤ z157 ∧ z157 ≤ 4) : f_ft = 0 ∨ 1 ≤ z157 := by omega
theorem vc_X6_oneOf_v_8 {f_at f_end f_ft f_te p1 z143 z155 z157 : Int} (h0 : f_at ≤ f_end) (h1 : f_ft = 0 ∨ f_at = f_end) (h2 : (f_at = f_end → z143 = f_te)) (h3 : z155 = f_end) (h4 : 1 ≤ z157) (h5 : f_te = -1) (h6 : z143 < p1) (h7 : 0 ≤ f_at ∧ f_at ≤ 1000) (h8 : 0 ≤ f_end ∧ f_end ≤ 1000) (h9 : 0 ≤ f_ft ∧ f_ft ≤ 4) (h10 : (-1) ≤ f_te ∧ f_te ≤ (-1)) (h11 : 0 ≤ p1 ∧ p1 ≤ 30) (h12 : (-2147483648) ≤ z143 ∧ z143 ≤ 29) (h13 : 0 ≤ z155 ∧ z155 ≤ 1000) (h14 : 1 ≤ z157 ∧ z157 ≤ 4) : z157 = 0 ∨ f_end = f_end := by omega
theorem vc_X6_oneOf_v_9 {f_at f_end f_ft f_te p1 z143 z155 z157 : Int} (h0 : f_at ≤ f_end) (h1 : f_ft = 0 ∨ f_at = f_end) (h2 : (f_at = f_end → z143 = f_te)) (h3 : z155 = f_end) (h4 : 1 ≤ z157) (h5 : f_te = -1) (h6 : z143 < p1) (h7 : 0 ≤ f_at ∧ f_at ≤ 1000) (h8 : 0 ≤ f_end ∧ f_end ≤ 1000) (h9 : 0 ≤ f_ft ∧ f_ft ≤ 4) (h10 : (-1) ≤ f_te ∧ f_te ≤ (-1)) (h11 : 0 ≤ p1 ∧ p1 ≤ 30) (h12 : (-2147483648) ≤ z143 ∧ z143 ≤ 29) (h13 : 0 ≤ z155 ∧ z155 ≤ 1000) (h14 : 1 ≤ z157 ∧ z157 ≤ 4) : z157 = 0 → f_at + 1 ≤ f_end := by omega
theorem vc_X6_oneOf_v_10 {f_at f_end f_ft f_te p1 p2 z143 z155 : Int} (h0 : (f_at = f_end → z143 = f_te)) (h1 : z143 < p1) (h2 : f_at ≤ f_end) (h3 : f_te = -1) (h4 : f_ft = 0 ∨ f_at = f_end) (h5 : z155 = f_end) (h6 : 0 ≤ f_at ∧ f_at ≤ 1000) (h7 : 0 ≤ f_end ∧ f_end ≤ 1000) (h8 : 0 ≤ f_ft ∧ f_ft ≤ 4) (h9 : (-1) ≤ f_te ∧ f_te ≤ (-1)) (h10 : 0 ≤ p1 ∧ p1 ≤ 30) (h11 : 0 ≤ p2 ∧ p2 ≤ 30) (h12 : (-2147483648) ≤ z143 ∧ z143 ≤ 29) (h13 : 0 ≤ z155 ∧ z155 ≤ 1000) : z143 < p1 ∨ p2 < z143 := by omega
theorem vc_X6_oneOf_v_11 {f_at f_end f_te p1 z143 : Int} (h0 : p1 ≤ z143) (h1 : (f_at = f_end → z143 = f_te)) (h2 : 0 ≤ f_at ∧ f_at ≤ 1000) (h3 : 0 ≤ f_end ∧ f_end ≤ 1000) (h4 : (-1) ≤ f_te ∧ f_te ≤ (-1)) (h5 : 0 ≤ p1 ∧ p1 ≤ 30) (h6 : (-2147483648) ≤ z143 ∧ z143 ≤ 2147483647) : 0 ≤ z143 ∧ z143 ≤ 2147483647 := by omega
theorem vc_X6_oneOf_v_12 {f_at f_end f_te p1 p2 z143 : Int} (h0 : z143 ≤ p2) (h1 : (f_at = f_end → z143 = f_te)) (h2 : p1 ≤ z143) (h3 : 0 ≤ f_at ∧ f_at ≤ 1000) (h4 : 0 ≤ f_end ∧ f_end ≤ 1000) (h5 : (-1) ≤ f_te ∧ f_te ≤ (-1)) (h6 : 0 ≤ p1 ∧ p1 ≤ 30) (h7 : 0 ≤ p2 ∧ p2 ≤ 30) (h8 : 0 ≤ z143 ∧ z143 ≤ 2147483647) : 0 ≤ z143 ∧ z143 ≤ 30 := by omega
theorem vc_X6_oneOf_v_13 {f_at f_end f_ft f_te p1 p2 z143 : Int} (h0 : f_at ≤ f_end) (h1 : f_ft = 0 ∨ f_at = f_end) (h2 : (f_at = f_end → z143 = f_te)) (h3 : f_te = -1) (h4 : p1 ≤ z143) (h5 : z143 ≤ p2) (h6 : 0 ≤ f_at ∧ f_at ≤ 1000) (h7 : 0 ≤ f_end ∧ f_end ≤ 1000) (h8 : 0 ≤ f_ft ∧ f_ft ≤ 4) (h9 : (-1) ≤ f_te ∧ f_te ≤ (-1)) (h10 : 0 ≤ p1 ∧ p1 ≤ 30) (h11 : 0 ≤ p2 ∧ p2 ≤ 30) (h12 : 0 ≤ z143 ∧ z143 ≤ 30) : f_at ≤ f_end := by omega
theorem vc_X6_oneOf_v_14 {f_at f_end f_ft f_te p1 p2 z143 z171 : Int} (h0 : f_at ≤ f_end) (h1 : f_ft = 0 ∨ f_at = f_end) (h2 : (f_at = f_end → z143 = f_te)) (h3 : z171 ≤ f_end) (h4 : f_at ≤ z171) (h5 : f_at < f_end → f_at + 1 ≤ z171) (h6 : f_te = -1) (h7 : p1 ≤ z143) (h8 : z143 ≤ p2) (h9 : 0 ≤ f_at ∧ f_at ≤ 1000) (h10 : 0 ≤ f_end ∧ f_end ≤ 1000) (h11 : 0 ≤ f_ft ∧ f_ft ≤ 4) (h12 : (-1) ≤ f_te ∧ f_te ≤ (-1)) (h13 : 0 ≤ p1 ∧ p1 ≤ 30) (h14 : 0 ≤ p2 ∧ p2 ≤ 30) (h15 : 0 ≤ z143 ∧ z143 ≤ 30) (h16 : 0 ≤ z171 ∧ z171 ≤ 1000) : z171 ≤ f_end := by omega
theorem vc_X6_oneOf_v_15 {f_at f_end f_ft f_te p1 p2 z143 z171 : Int} (h0 : f_at ≤ f_end) (h1 : f_ft = 0 ∨ f_at = f_end) (h2 : (f_at = f_end → z143 = f_te)) (h3 : z171 ≤ f_end) (h4 : f_at ≤ z171) (h5 : f_at < f_end → f_at + 1 ≤ z171) (h6 : f_te = -1) (h7 : p1 ≤ z143) (h8 : z143 ≤ p2) (h9 : 0 ≤ f_at ∧ f_at ≤ 1000) (h10 : 0 ≤ f_end ∧ f_end ≤ 1000) (h11 : 0 ≤ f_ft ∧ f_ft ≤ 4) (h12 : (-1) ≤ f_te ∧ f_te ≤ (-1)) (h13 : 0 ≤ p1 ∧ p1 ≤ 30) (h14 : 0 ≤ p2 ∧ p2 ≤ 30) (h15 : 0 ≤ z143 ∧ z143 ≤ 30) (h16 : 0 ≤ z171 ∧ z171 ≤ 1000) : f_at ≤ z171 := by omega
theorem vc_X6_oneOf_v_16 {f_at f_end f_ft f_te z143 z171 : Int} (h0 : f_ft = 0 ∨ f_at = f_end) (h1 : f_at ≤ f_end) (h2 : (f_at = f_end → z143 = f_te)) (h3 : z171 ≤ f_end) (h4 : f_at ≤ z171) (h5 : f_at < f_end → f_at + 1 ≤ z171) (h6 : 0 ≤ f_at ∧ f_at ≤ 1000) (h7 : 0 ≤ f_end ∧ f_end ≤ 1000) (h8 : 0 ≤ f_ft ∧ f_ft ≤ 4) (h9 : (-1) ≤ f_te ∧ f_te ≤ (-1)) (h10 : 0 ≤ z143 ∧ z143 ≤ 30) (h11 : 0 ≤ z171 ∧ z171 ≤ 1000) : f_ft = 0 ∨ 1 ≤ f_ft := by omega
theorem vc_X6_oneOf_v_17 {f_at f_end f_ft f_te p1 p2 z143 z171 : Int} (h0 : f_at ≤ f_end) (h1 : f_ft = 0 ∨ f_at = f_end) (h2 : (f_at = f_end → z143 = f_te)) (h3 : z171 ≤ f_end) (h4 : f_at ≤ z171) (h5 : f_at < f_end → f_at + 1 ≤ z171) (h6 : f_te = -1) (h7 : p1 ≤ z143) (h8 : z143 ≤ p2) (h9 : 0 ≤ f_at ∧ f_at ≤ 1000) (h10 : 0 ≤ f_end ∧ f_end ≤ 1000) (h11 : 0 ≤ f_ft ∧ f_ft ≤ 4) (h12 : (-1) ≤ f_te ∧ f_te ≤ (-1)) (h13 : 0 ≤ p1 ∧ p1 ≤ 30) (h14 : 0 ≤ p2 ∧ p2 ≤ 30) (h15 : 0 ≤ z143 ∧ z143 ≤ 30) (h16 : 0 ≤ z171 ∧ z171 ≤ 1000) : f_ft = 0 ∨ z171 = f_end := by omega
theorem vc_X6_oneOf_v_18 {f_at f_end f_ft f_te p1 p2 z143 z171 : Int} (h0 : f_at ≤ f_end) (h1 : f_ft = 0 ∨ f_at = f_end) (h2 : (f_at = f_end → z143 = f_te)) (h3 : z171 ≤ f_end) (h4 : f_at ≤ z171) (h5 : f_at < f_end → f_at + 1 ≤ z171) (h6 : f_te = -1) (h7 : p1 ≤ z143) (h8 : z143 ≤ p2) (h9 : 0 ≤ f_at ∧ f_at ≤ 1000) (h10 : 0 ≤ f_end ∧ f_end ≤ 1000) (h11 : 0 ≤ f_ft ∧ f_ft ≤ 4) (h12 : (-1) ≤ f_te ∧ f_te ≤ (-1)) (h13 : 0 ≤ p1 ∧ p1 ≤ 30) (h14 : 0 ≤ p2 ∧ p2 ≤ 30) (h15 : 0 ≤ z143 ∧ z143 ≤ 30) (h16 : 0 ≤ z171 ∧ z171 ≤ 1000) : f_ft = 0 → f_at + 1 ≤ z171 := by omega
theorem vc_X6_oneOf_v_19 {f_at f_end f_ft f_te p1 p2 z143 z171 : Int} (h0 : (f_at = f_end → z143 = f_te)) (h1 : p1 ≤ z143) (h2 : z143 ≤ p2) (h3 : f_at ≤ f_end) (h4 : f_te = -1) (h5 : f_ft = 0 ∨ f_at = f_end) (h6 : z171 ≤ f_end) (h7 : f_at ≤ z171) (h8 : f_at < f_end → f_at + 1 ≤ z171) (h9 : 0 ≤ f_at ∧ f_at ≤ 1000) (h10 : 0 ≤ f_end ∧ f_end ≤ 1000) (h11 : 0 ≤ f_ft ∧ f_ft ≤ 4) (h12 : (-1) ≤ f_te ∧ f_te ≤ (-1)) (h13 : 0 ≤ p1 ∧ p1 ≤ 30) (h14 : 0 ≤ p2 ∧ p2 ≤ 30) (h15 : 0 ≤ z143 ∧ z143 ≤ 30) (h16 : 0 ≤ z171 ∧ z171 ≤ 1000) : p1 ≤ z143 ∧ z143 ≤ p2 := by omega
theorem vc_X6_oneOf_v_20 {f_at f_end f_ft f_te p1 p2 z143 z171 : Int} (h0 : (f_at = f_end → z143 = f_te)) (h1 : p1 ≤ z143) (h2 : z143 ≤ p2) (h3 : f_at ≤ f_end) (h4 : f_te = -1) (h5 : f_ft = 0 ∨ f_at = f_end) (h6 : z171 ≤ f_end) (h7 : f_at ≤ z171) (h8 : f_at < f_end → f_at + 1 ≤ z171) (h9 : 0 ≤ f_at ∧ f_at ≤ 1000) (h10 : 0 ≤ f_end ∧ f_end ≤ 1000) (h11 : 0 ≤ f_ft ∧ f_ft ≤ 4) (h12 : (-1) ≤ f_te ∧ f_te ≤ (-1)) (h13 : 0 ≤ p1 ∧ p1 ≤ 30) (h14 : 0 ≤ p2 ∧ p2 ≤ 30) (h15 : 0 ≤ z143 ∧ z143 ≤ 30) (h16 : 0 ≤ z171 ∧ z171 ≤ 1000) : z143 = z143 := by omega
theorem vc_X6_oneOf_v_21 {f_at f_end f_te p1 p2 z143 : Int} (h0 : p2 < z143) (h1 : (f_at = f_end → z143 = f_te)) (h2 : p1 ≤ z143) (h3 : 0 ≤ f_at ∧ f_at ≤ 1000) (h4 : 0 ≤ f_end ∧ f_end ≤ 1000) (h5 : (-1) ≤ f_te ∧ f_te ≤ (-1)) (h6 : 0 ≤ p1 ∧ p1 ≤ 30) (h7 : 0 ≤ p2 ∧ p2 ≤ 30) (h8 : 0 ≤ z143 ∧ z143 ≤ 2147483647) : 1 ≤ z143 ∧ z143 ≤ 2147483647 := by omega
theorem vc_X6_oneOf_v_22 {f_at f_end f_ft f_te p1 p2 z143 : Int} (h0 : f_at ≤ f_end) (h1 : f_ft = 0 ∨ f_at = f_end) (h2 : (f_at = f_end → z143 = f_te)) (h3 : f_te = -1) (h4 : p1 ≤ z143) (h5 : p2 < z143) (h6 : 0 ≤ f_at ∧ f_at ≤ 1000) (h7 : 0 ≤ f_end ∧ f_end ≤ 1000) (h8 : 0 ≤ f_ft ∧ f_ft ≤ 4) (h9 : (-1) ≤ f_te ∧ f_te ≤ (-1)) (h10 : 0 ≤ p1 ∧ p1 ≤ 30) (h11 : 0 ≤ p2 ∧ p2 ≤ 30) (h12 : 1 ≤ z143 ∧ z143 ≤ 2147483647) : f_at ≤ f_end := by omega
theorem vc_X6_oneOf_v_24 {f_at f_end f_ft f_te p1 p2 z143 z183 : Int} (h0 : f_at ≤ f_end) (h1 : f_ft = 0 ∨ f_at = f_end) (h2 : (f_at = f_end → z143 = f_te)) (h3 : z183 = f_end) (h4 : f_te = -1) (h5 : p1 ≤ z143) (h6 : p2 < z143) (h7 : 0 ≤ f_at ∧ f_at ≤ 1000) (h8 : 0 ≤ f_end ∧ f_end ≤ 1000) (h9 : 0 ≤ f_ft ∧ f_ft ≤ 4) (h10 : (-1) ≤ f_te ∧ f_te ≤ (-1)) (h11 : 0 ≤ p1 ∧ p1 ≤ 30) (h12 : 0 ≤ p2 ∧ p2 ≤ 30) (h13 : 1 ≤ z143 ∧ z143 ≤ 2147483647) (h14 : 0 ≤ z183 ∧ z183 ≤ 1000) : f_end ≤ f_end := by omega
theorem vc_X6_oneOf_v_25 {f_at f_end f_ft f_te p1 p2 z143 z183 : Int} (h0 : f_at ≤ f_end) (h1 : f_ft = 0 ∨ f_at = f_end) (h2 : (f_at = f_end → z143 = f_te)) (h3 : z183 = f_end) (h4 : f_te = -1) (h5 : p1 ≤ z143) (h6 : p2 < z143) (h7 : 0 ≤ f_at ∧ f_at ≤ 1000) (h8 : 0 ≤ f_end ∧ f_end ≤ 1000) (h9 : 0 ≤ f_ft ∧ f_ft ≤ 4) (h10 : (-1) ≤ f_te ∧ f_te ≤ (-1)) (h11 : 0 ≤ p1 ∧ p1 ≤ 30) (h12 : 0 ≤ p2 ∧ p2 ≤ 30) (h13 : 1 ≤ z143 ∧ z143 ≤ 2147483647) (h14 : 0 ≤ z183 ∧ z183 ≤ 1000) : f_at ≤ f_end := by omega
theorem vc_X6_oneOf_v_26 {f_at f_end f_ft f_te z143 z183 z185 : Int} (h0 : f_ft = 0 ∨ f_at = f_end) (h1 : 1 ≤ z185) (h2 : f_at ≤ f_end) (h3 : (f_at = f_end → z143 = f_te)) (h4 : z183 = f_end) (h5 : 0 ≤ f_at ∧ f_at ≤ 1000) (h6 : 0 ≤ f_end ∧ f_end ≤ 1000) (h7 : 0 ≤ f_ft ∧ f_ft ≤ 4) (h8 : (-1) ≤ f_te ∧ f_te ≤ (-1)) (h9 : 1 ≤ z143 ∧ z143 ≤ 2147483647) (h10 : 0 ≤ z183 ∧ z183 ≤ 1000) (h11 : 1 ≤ z185 ∧ z185 ≤ 4) : f_ft = 0 ∨ 1 ≤ z185 := by omega
theorem vc_X6_oneOf_v_27 {f_at f_end f_ft f_te p1 p2 z143 z183 z185 : Int} (h0 : f_at ≤ f_end) (h1 : f_ft = 0 ∨ f_at = f_end) (h2 : (f_at = f_end → z143 = f_te)) (h3 : z183 = f_end) (h4 : 1 ≤ z185) (h5 : f_te = -1) (h6 : p1 ≤ z143) (h7 : p2 < z143) (h8 : 0 ≤ f_at ∧ f_at ≤ 1000) (h9 : 0 ≤ f_end ∧ f_end ≤ 1000) (h10 : 0 ≤ f_ft ∧ f_ft ≤ 4) (h11 : (-1) ≤ f_te ∧ f_te ≤ (-1)) (h12 : 0 ≤ p1 ∧ p1 ≤ 30) (h13 : 0 ≤ p2 ∧ p2 ≤ 30) (h14 : 1 ≤ z143 ∧ z143 ≤ 2147483647) (h15 : 0 ≤ z183 ∧ z183 ≤ 1000) (h16 : 1 ≤ z185 ∧ z185 ≤ 4) : z185 = 0 ∨ f_end = f_end := by omega
theorem vc_X6_oneOf_v_28 {f_at f_end f_ft f_te p1 p2 z143 z183 z185 : Int} (h0 : f_at ≤ f_end) (h1 : f_ft = 0 ∨ f_at = f_end) (h2 : (f_at = f_end → z143 = f_te)) (h3 : z183 = f_end) (h4 : 1 ≤ z185) (h5 : f_te = -1) (h6 : p1 ≤ z143) (h7 : p2 < z143) (h8 : 0 ≤ f_at ∧ f_at ≤ 1000) (h9 : 0 ≤ f_end ∧ f_end ≤ 1000) (h10 : 0 ≤ f_ft ∧ f_ft ≤ 4) (h11 : (-1) ≤ f_te ∧ f_te ≤ (-1)) (h12 : 0 ≤ p1 ∧ p1 ≤ 30) (h13 : 0 ≤ p2 ∧ p2 ≤ 30) (h14 : 1 ≤ z143 ∧ z143 ≤ 2147483647) (h15 : 0 ≤ z183 ∧ z183 ≤ 1000) (h16 : 1 ≤ z185 ∧ z185 ≤ 4) : z185 = 0 → f_at + 1 ≤ f_end := by omega
theorem vc_X6_oneOf_v_29 {f_at f_end f_ft f_te p1 p2 z143 z183 : Int} (h0 : (f_at = f_end → z143 = f_te)) (h1 : p1 ≤ z143) (h2 : p2 < z143) (h3 : f_at ≤ f_end) (h4 : f_te = -1) (h5 : f_ft = 0 ∨ f_at = f_end) (h6 : z183 = f_end) (h7 : 0 ≤ f_at ∧ f_at ≤ 1000) (h8 : 0 ≤ f_end ∧ f_end ≤ 1000) (h9 : 0 ≤ f_ft ∧ f_ft ≤ 4) (h10 : (-1) ≤ f_te ∧ f_te ≤ (-1)) (h11 : 0 ≤ p1 ∧ p1 ≤ 30) (h12 : 0 ≤ p2 ∧ p2 ≤ 30) (h13 : 1 ≤ z143 ∧ z143 ≤ 2147483647) (h14 : 0 ≤ z183 ∧ z183 ≤ 1000) : z143 < p1 ∨ p2 < z143 := by omega
set_option maxRecDepth 4000 in
set_option maxHeartbeats 4000000 in
theorem c_X6_oneOf_v {l : Launch} {D : va_G} {c : Nat → ClassId} {H0 : Heap} {sa : Nat × Nat × (Nat → Int32)} {w : mW} {μ : mM} (hw : mWF w) (hT : mT w μ) {p1 : Int} (hp1 : 0 ≤ p1 ∧ p1 ≤ 30) {p2 : Int} (hp2 : 0 ≤ p2 ∧ p2 ≤ 30) {f_at : Int} (q_f_at : μ 23 9 = f_at) {f_end : Int} (q_f_end : μ 23 8 = f_end) {f_ft : Int} (q_f_ft : μ 23 18 = f_ft) {f_te : Int} (q_f_te : μ 24 (f_end.toNat) = f_te) {f_fp : Int} (q_f_fp : μ 23 19 = f_fp) (hq0 : f_at ≤ f_end) (hq1 : f_te = -1) (hq2 : f_ft = 0 ∨ f_at = f_end) : sC (gG l D c H0 sa) mX6_oneOf 2 0 0 [.ref 23, iv p1, iv p2] (mk w μ) (qI w [23009, 23018, 23019] μ (fun z μ1 => ∃ o_at o_ft : Int, μ1 23 9 = o_at ∧ μ1 23 18 = o_ft ∧ (0 ≤ z ∧ z ≤ 30) ∧ (o_at ≤ f_end) ∧ (f_at ≤ o_at) ∧ (f_ft = 0 ∨ 1 ≤ o_ft) ∧ (o_ft = 0 ∨ o_at = f_end) ∧ (o_ft = 0 → f_at + 1 ≤ o_at) ∧ (onK μ μ1 p1 p2 z) ∧ True)) := by
  refine sC.of rfl (by decide) (le_t rfl) ?_
  have ht_f_at : (0 ≤ f_at ∧ f_at ≤ 1000) := by rw [← q_f_at]; exact hT 23 23 (A_23 hw) 9
  have ht_f_end : (0 ≤ f_end ∧ f_end ≤ 1000) := by rw [← q_f_end]; exact hT 23 23 (A_23 hw) 8
  have ht_f_ft : (0 ≤ f_ft ∧ f_ft ≤ 4) := by rw [← q_f_ft]; exact hT 23 23 (A_23 hw) 18
  have ht_f_te : ((-2147483648) ≤ f_te ∧ f_te ≤ 2147483647) := by rw [← q_f_te]; exact hT 24 24 (A_24 hw) (f_end.toNat)
  have ht_f_fp : (0 ≤ f_fp ∧ f_fp ≤ 1000) := by rw [← q_f_fp]; exact hT 23 23 (A_23 hw) 19
  have h1 : (-1) ≤ f_te ∧ f_te ≤ (-1) := (vc_X6_take_v_1 hq1 ht_f_te)
  refine mr_lvE (lv' := [(0, .ref 23), (1, iv p1), (2, iv p2)]) rfl ?_
  refine sv_aload_n (pc := 0) dX6_oneOf_0 rfl rfl ?_
  refine gf_X6_0 (pc := 1) dX6_oneOf_1 wF_X6_9 (A_23 hw) hT ?_
  refine sv_aload_n (pc := 4) dX6_oneOf_4 rfl rfl ?_
  refine gk_X6_9 (pc := 5) dX6_oneOf_5 wF_X6_63 (A_23 hw) q_f_at ?_
  refine la_24 (pc := 8) dX6_oneOf_8 (A_24 hw) hT (rIx (n := 1001) ht_f_at rfl) fun z143 q144 h145 => ?_
  refine mr_istore_n (pc := 9) (lv' := [(3, iv z143), (0, .ref 23), (1, iv p1), (2, iv p2)]) dX6_oneOf_9 rfl (by decide) rfl ?_
  refine mr_iload_n (pc := 10) (z := z143) dX6_oneOf_10 rfl rfl ?_
  refine mr_iload_n (pc := 11) (z := p1) dX6_oneOf_11 rfl rfl ?_
  refine mr_icmp_lt (pc := 12) (tgt := 20) dX6_oneOf_12 (by decide) h145 (r32 hp1 rfl) (fun h146 => ?_) (fun h146 => ?_)
  · have h147 : (-2147483648) ≤ z143 ∧ z143 ≤ 29 := (vc_X6_oneOf_v_2 h146 (cgr q144 q_f_te) ht_f_at ht_f_end h1 hp1 h145)
    refine sv_aload_n (pc := 20) dX6_oneOf_20 rfl rfl ?_
    refine mr_iconst (pc := 21) (z := 2) dX6_oneOf_21 ?_
    obtain ⟨z148, q149⟩ : ∃ z, μ 26 (f_at.toNat) = z := ⟨_, rfl⟩
    have h150 : (0 ≤ z148 ∧ z148 ≤ 1000) := by rw [← q149]; exact hT 26 26 (A_26 hw) (f_at.toNat)
    refine mr_cVV (pc := 22) (c_X6_fail_v hw hT (rW (c := 1) (d := 4) (rR (x := 2)) rfl) q_f_at q_f_end q_f_ft q_f_fp q149 (vc_X6_oneOf_v_3 hq0 hq2 (cgr q144 q_f_te) hq1 h146 ht_f_at ht_f_end ht_f_ft h1 hp1 h147)) (gOk _ _ _ _ _) dX6_oneOf_22 (tX6_fail _ _ _ _ _) ⟨wV_X6_fail, wL_X6_fail⟩ wM_X6_123 (gCX6 _ _ _ _ _) rfl (A_23 hw) rfl ⟨le_t rfl, le_t rfl⟩ ⟨le_t rfl, le_t rfl⟩ rfl (le_t rfl) fun μ151 T152 F153 h154 => ?_
    obtain ⟨z155, z157, q156, q158, h159⟩ := h154
    have h160 : (0 ≤ z155 ∧ z155 ≤ 1000) := by rw [← q156]; exact T152 23 23 (A_23 hw) 9
    have h161 : (0 ≤ z157 ∧ z157 ≤ 4) := by rw [← q158]; exact T152 23 23 (A_23 hw) 18
    have q162 : μ151 23 9 = f_end := q156.trans h159.1
    have h163 : 1 ≤ z157 ∧ z157 ≤ 4 := (vc_X6_expect_v_15 h159.2.1 h161)
    refine mr_iload_n (pc := 25) (z := p1) dX6_oneOf_25 rfl rfl ?_
    exact mr_iret dX6_oneOf_26 rfl (le_t rfl) (le_t rfl) T152 (mF.call mF.refl F153 rfl) ⟨f_end, z157, q162, q158, hp1, (vc_X6_oneOf_v_5 hq0 hq2 (cgr q144 q_f_te) h159.1 hq1 h146 ht_f_at ht_f_end ht_f_ft h1 hp1 h147 h160), (vc_X6_oneOf_v_6 hq0 hq2 (cgr q144 q_f_te) h159.1 hq1 h146 ht_f_at ht_f_end ht_f_ft h1 hp1 h147 h160), (vc_X6_oneOf_v_7 hq2 h159.2.1 hq0 (cgr q144 q_f_te) h159.1 ht_f_at ht_f_end ht_f_ft h1 h147 h160 h163), (vc_X6_oneOf_v_8 hq0 hq2 (cgr q144 q_f_te) h159.1 h159.2.1 hq1 h146 ht_f_at ht_f_end ht_f_ft h1 hp1 h147 h160 h163), (vc_X6_oneOf_v_9 hq0 hq2 (cgr q144 q_f_te) h159.1 h159.2.1 hq1 h146 ht_f_at ht_f_end ht_f_ft h1 hp1 h147 h160 h163), (Or.inl ⟨(by rw [(cT.is q_f_at q144)]; exact (vc_X6_oneOf_v_10 (cgr q144 q_f_te) h146 hq0 hq1 hq2 h159.1 ht_f_at ht_f_end ht_f_ft h1 hp1 hp2 h147 h160)), h159.2.2.1⟩), trivial⟩
  have h164 : 0 ≤ z143 ∧ z143 ≤ 2147483647 := (vc_X6_oneOf_v_11 h146 (cgr q144 q_f_te) ht_f_at ht_f_end h1 hp1 h145)
  refine mr_iload_n (pc := 15) (z := z143) dX6_oneOf_15 rfl rfl ?_
  refine mr_iload_n (pc := 16) (z := p2) dX6_oneOf_16 rfl rfl ?_
  refine mr_icmp_le (pc := 17) (tgt := 27) dX6_oneOf_17 (by decide) (r32 h164 rfl) (r32 hp2 rfl) (fun h165 => ?_) (fun h165 => ?_)
  · have h166 : 0 ≤ z143 ∧ z143 ≤ 30 := (vc_X6_oneOf_v_12 h165 (cgr q144 q_f_te) h146 ht_f_at ht_f_end h1 hp1 hp2 h164)
    refine sv_aload_n (pc := 27) dX6_oneOf_27 rfl rfl ?_
    refine mr_cVV (pc := 28) (c_X6_step_v hw hT q_f_at q_f_end q_f_ft q_f_fp (vc_X6_oneOf_v_13 hq0 hq2 (cgr q144 q_f_te) hq1 h146 h165 ht_f_at ht_f_end ht_f_ft h1 hp1 hp2 h166)) (gOk _ _ _ _ _) dX6_oneOf_28 (tX6_step _ _ _ _ _) ⟨wV_X6_step, wL_X6_step⟩ wM_X6_117 (gCX6 _ _ _ _ _) rfl (A_23 hw) rfl ⟨le_t rfl, le_t rfl⟩ ⟨le_t rfl, le_t rfl⟩ rfl (le_t rfl) fun μ167 T168 F169 h170 => ?_
    obtain ⟨z171, q172, h173⟩ := h170
    have h174 : (0 ≤ z171 ∧ z171 ≤ 1000) := by rw [← q172]; exact T168 23 23 (A_23 hw) 9
    refine mr_iload_n (pc := 31) (z := z143) dX6_oneOf_31 rfl rfl ?_
    exact mr_iret dX6_oneOf_32 rfl (le_t rfl) (le_t rfl) T168 (mF.call mF.refl F169 rfl) ⟨z171, f_ft, q172, (F169.f (A_23 hw) rfl q_f_ft), h166, (vc_X6_oneOf_v_14 hq0 hq2 (cgr q144 q_f_te) h173.1 h173.2.1 h173.2.2.1 hq1 h146 h165 ht_f_at ht_f_end ht_f_ft h1 hp1 hp2 h166 h174), (vc_X6_oneOf_v_15 hq0 hq2 (cgr q144 q_f_te) h173.1 h173.2.1 h173.2.2.1 hq1 h146 h165 ht_f_at ht_f_end ht_f_ft h1 hp1 hp2 h166 h174), (vc_X6_oneOf_v_16 hq2 hq0 (cgr q144 q_f_te) h173.1 h173.2.1 h173.2.2.1 ht_f_at ht_f_end ht_f_ft h1 h166 h174), (vc_X6_oneOf_v_17 hq0 hq2 (cgr q144 q_f_te) h173.1 h173.2.1 h173.2.2.1 hq1 h146 h165 ht_f_at ht_f_end ht_f_ft h1 hp1 hp2 h166 h174), (vc_X6_oneOf_v_18 hq0 hq2 (cgr q144 q_f_te) h173.1 h173.2.1 h173.2.2.1 hq1 h146 h165 ht_f_at ht_f_end ht_f_ft h1 hp1 hp2 h166 h174), (Or.inr ⟨(by rw [(cT.is q_f_at q144)]; exact (vc_X6_oneOf_v_19 (cgr q144 q_f_te) h146 h165 hq0 hq1 hq2 h173.1 h173.2.1 h173.2.2.1 ht_f_at ht_f_end ht_f_ft h1 hp1 hp2 h166 h174)), (vc_X6_oneOf_v_20 (cgr q144 q_f_te) h146 h165 hq0 hq1 hq2 h173.1 h173.2.1 h173.2.2.1 ht_f_at ht_f_end ht_f_ft h1 hp1 hp2 h166 h174).trans (cT.is q_f_at q144).symm, h173.2.2.2.1⟩), trivial⟩
  have h175 : 1 ≤ z143 ∧ z143 ≤ 2147483647 := (vc_X6_oneOf_v_21 h165 (cgr q144 q_f_te) h146 ht_f_at ht_f_end h1 hp1 hp2 h164)
  refine sv_aload_n (pc := 20) dX6_oneOf_20 rfl rfl ?_
  refine mr_iconst (pc := 21) (z := 2) dX6_oneOf_21 ?_
  obtain ⟨z176, q177⟩ : ∃ z, μ 26 (f_at.toNat) = z := ⟨_, rfl⟩
  have h178 : (0 ≤ z176 ∧ z176 ≤ 1000) := by rw [← q177]; exact hT 26 26 (A_26 hw) (f_at.toNat)
  refine mr_cVV (pc := 22) (c_X6_fail_v hw hT (rW (c := 1) (d := 4) (rR (x := 2)) rfl) q_f_at q_f_end q_f_ft q_f_fp q177 (vc_X6_oneOf_v_22 hq0 hq2 (cgr q144 q_f_te) hq1 h146 h165 ht_f_at ht_f_end ht_f_ft h1 hp1 hp2 h175)) (gOk _ _ _ _ _) dX6_oneOf_22 (tX6_fail _ _ _ _ _) ⟨wV_X6_fail, wL_X6_fail⟩ wM_X6_123 (gCX6 _ _ _ _ _) rfl (A_23 hw) rfl ⟨le_t rfl, le_t rfl⟩ ⟨le_t rfl, le_t rfl⟩ rfl (le_t rfl) fun μ179 T180 F181 h182 => ?_
  obtain ⟨z183, z185, q184, q186, h187⟩ := h182
  have h188 : (0 ≤ z183 ∧ z183 ≤ 1000) := by rw [← q184]; exact T180 23 23 (A_23 hw) 9
  have h189 : (0 ≤ z185 ∧ z185 ≤ 4) := by rw [← q186]; exact T180 23 23 (A_23 hw) 18
  have q190 : μ179 23 9 = f_end := q184.trans h187.1
  have h191 : 1 ≤ z185 ∧ z185 ≤ 4 := (vc_X6_expect_v_15 h187.2.1 h189)
  refine mr_iload_n (pc := 25) (z := p1) dX6_oneOf_25 rfl rfl ?_
  exact mr_iret dX6_oneOf_26 rfl (le_t rfl) (le_t rfl) T180 (mF.call mF.refl F181 rfl) ⟨f_end, z185, q190, q186, hp1, (vc_X6_oneOf_v_24 hq0 hq2 (cgr q144 q_f_te) h187.1 hq1 h146 h165 ht_f_at ht_f_end ht_f_ft h1 hp1 hp2 h175 h188), (vc_X6_oneOf_v_25 hq0 hq2 (cgr q144 q_f_te) h187.1 hq1 h146 h165 ht_f_at ht_f_end ht_f_ft h1 hp1 hp2 h175 h188), (vc_X6_oneOf_v_26 hq2 h187.2.1 hq0 (cgr q144 q_f_te) h187.1 ht_f_at ht_f_end ht_f_ft h1 h175 h188 h191), (vc_X6_oneOf_v_27 hq0 hq2 (cgr q144 q_f_te) h187.1 h187.2.1 hq1 h146 h165 ht_f_at ht_f_end ht_f_ft h1 hp1 hp2 h175 h188 h191), (vc_X6_oneOf_v_28 hq0 hq2 (cgr q144 q_f_te) h187.1 h187.2.1 hq1 h146 h165 ht_f_at ht_f_end ht_f_ft h1 hp1 hp2 h175 h188 h191), (Or.inl ⟨(by rw [(cT.is q_f_at q144)]; exact (vc_X6_oneOf_v_29 (cgr q144 q_f_te) h146 h165 hq0 hq1 hq2 h187.1 ht_f_at ht_f_end ht_f_ft h1 hp1 hp2 h175 h188)), h187.2.2.1⟩), trivial⟩
theorem vc_X6_relation_v_2 {f_at f_end f_te z140 : Int} (h0 : z140 = 1060) (h1 : (f_at = f_end → z140 = f_te)) (h2 : 0 ≤ f_at ∧ f_at ≤ 1000) (h3 : 0 ≤ f_end ∧ f_end ≤ 1000) (h4 : (-1) ≤ f_te ∧ f_te ≤ (-1)) (h5 : (-2147483648) ≤ z140 ∧ z140 ≤ 2147483647) : 1060 ≤ z140 ∧ z140 ≤ 1060 := by omega
theorem vc_X6_relation_v_3 {f_at f_end f_ft f_te z140 : Int} (h0 : f_at ≤ f_end) (h1 : f_ft = 0 ∨ f_at = f_end) (h2 : (f_at = f_end → z140 = f_te)) (h3 : f_te = -1) (h4 : z140 = 1060) (h5 : 0 ≤ f_at ∧ f_at ≤ 1000) (h6 : 0 ≤ f_end ∧ f_end ≤ 1000) (h7 : 0 ≤ f_ft ∧ f_ft ≤ 4) (h8 : (-1) ≤ f_te ∧ f_te ≤ (-1)) (h9 : 1060 ≤ z140 ∧ z140 ≤ 1060) : f_at ≤ f_end := by omega
theorem vc_X6_relation_v_4 {f_at f_end f_ft f_te z140 z149 : Int} (h0 : f_at ≤ f_end) (h1 : f_ft = 0 ∨ f_at = f_end) (h2 : (f_at = f_end → z140 = f_te)) (h3 : z149 ≤ f_end) (h4 : f_at ≤ z149) (h5 : f_at < f_end → f_at + 1 ≤ z149) (h6 : f_te = -1) (h7 : z140 = 1060) (h8 : 0 ≤ f_at ∧ f_at ≤ 1000) (h9 : 0 ≤ f_end ∧ f_end ≤ 1000) (h10 : 0 ≤ f_ft ∧ f_ft ≤ 4) (h11 : (-1) ≤ f_te ∧ f_te ≤ (-1)) (h12 : 1060 ≤ z140 ∧ z140 ≤ 1060) (h13 : 0 ≤ z149 ∧ z149 ≤ 1000) : z149 ≤ f_end := by omega
theorem vc_X6_relation_v_5 {f_at f_end f_ft f_te z140 z149 : Int} (h0 : f_at ≤ f_end) (h1 : f_ft = 0 ∨ f_at = f_end) (h2 : (f_at = f_end → z140 = f_te)) (h3 : z149 ≤ f_end) (h4 : f_at ≤ z149) (h5 : f_at < f_end → f_at + 1 ≤ z149) (h6 : f_te = -1) (h7 : z140 = 1060) (h8 : 0 ≤ f_at ∧ f_at ≤ 1000) (h9 : 0 ≤ f_end ∧ f_end ≤ 1000) (h10 : 0 ≤ f_ft ∧ f_ft ≤ 4) (h11 : (-1) ≤ f_te ∧ f_te ≤ (-1)) (h12 : 1060 ≤ z140 ∧ z140 ≤ 1060) (h13 : 0 ≤ z149 ∧ z149 ≤ 1000) : f_at ≤ z149 := by omega
theorem vc_X6_relation_v_6 {f_at f_end f_ft f_te z140 z149 : Int} (h0 : f_ft = 0 ∨ f_at = f_end) (h1 : f_at ≤ f_end) (h2 : (f_at = f_end → z140 = f_te)) (h3 : z149 ≤ f_end) (h4 : f_at ≤ z149) (h5 : f_at < f_end → f_at + 1 ≤ z149) (h6 : 0 ≤ f_at ∧ f_at ≤ 1000) (h7 : 0 ≤ f_end ∧ f_end ≤ 1000) (h8 : 0 ≤ f_ft ∧ f_ft ≤ 4) (h9 : (-1) ≤ f_te ∧ f_te ≤ (-1)) (h10 : 1060 ≤ z140 ∧ z140 ≤ 1060) (h11 : 0 ≤ z149 ∧ z149 ≤ 1000) : f_ft = 0 ∨ 1 ≤ f_ft := by omega
theorem vc_X6_relation_v_7 {f_at f_end f_ft f_te z140 z149 : Int} (h0 : f_at ≤ f_end) (h1 : f_ft = 0 ∨ f_at = f_end) (h2 : (f_at = f_end → z140 = f_te)) (h3 : z149 ≤ f_end) (h4 : f_at ≤ z149) (h5 : f_at < f_end → f_at + 1 ≤ z149) (h6 : f_te = -1) (h7 : z140 = 1060) (h8 : 0 ≤ f_at ∧ f_at ≤ 1000) (h9 : 0 ≤ f_end ∧ f_end ≤ 1000) (h10 : 0 ≤ f_ft ∧ f_ft ≤ 4) (h11 : (-1) ≤ f_te ∧ f_te ≤ (-1)) (h12 : 1060 ≤ z140 ∧ z140 ≤ 1060) (h13 : 0 ≤ z149 ∧ z149 ≤ 1000) : f_ft = 0 ∨ z149 = f_end := by omega
theorem vc_X6_relation_v_8 {f_at f_end f_ft f_te z140 z149 : Int} (h0 : f_at ≤ f_end) (h1 : f_ft = 0 ∨ f_at = f_end) (h2 : (f_at = f_end → z140 = f_te)) (h3 : z149 ≤ f_end) (h4 : f_at ≤ z149) (h5 : f_at < f_end → f_at + 1 ≤ z149) (h6 : f_te = -1) (h7 : z140 = 1060) (h8 : 0 ≤ f_at ∧ f_at ≤ 1000) (h9 : 0 ≤ f_end ∧ f_end ≤ 1000) (h10 : 0 ≤ f_ft ∧ f_ft ≤ 4) (h11 : (-1) ≤ f_te ∧ f_te ≤ (-1)) (h12 : 1060 ≤ z140 ∧ z140 ≤ 1060) (h13 : 0 ≤ z149 ∧ z149 ≤ 1000) : f_ft = 0 → f_at + 1 ≤ z149 := by omega
theorem vc_X6_relation_v_9 {f_at f_end f_ft f_te z140 z149 : Int} (h0 : (f_at = f_end → z140 = f_te)) (h1 : z140 = 1060) (h2 : f_at ≤ f_end) (h3 : f_te = -1) (h4 : f_ft = 0 ∨ f_at = f_end) (h5 : z149 ≤ f_end) (h6 : f_at ≤ z149) (h7 : f_at < f_end → f_at + 1 ≤ z149) (h8 : 0 ≤ f_at ∧ f_at ≤ 1000) (h9 : 0 ≤ f_end ∧ f_end ≤ 1000) (h10 : 0 ≤ f_ft ∧ f_ft ≤ 4) (h11 : (-1) ≤ f_te ∧ f_te ≤ (-1)) (h12 : 1060 ≤ z140 ∧ z140 ≤ 1060) (h13 : 0 ≤ z149 ∧ z149 ≤ 1000) : z140 = 1060 ∨ z140 = 1061 ∨ z140 = 1062 := by omega
theorem vc_X6_relation_v_10 {f_at f_end f_te z140 : Int} (h0 : z140 = 1061) (h1 : (f_at = f_end → z140 = f_te)) (h2 : ¬ z140 = 1060) (h3 : 0 ≤ f_at ∧ f_at ≤ 1000) (h4 : 0 ≤ f_end ∧ f_end ≤ 1000) (h5 : (-1) ≤ f_te ∧ f_te ≤ (-1)) (h6 : (-2147483648) ≤ z140 ∧ z140 ≤ 2147483647) : 1061 ≤ z140 ∧ z140 ≤ 1061 := by omega
theorem vc_X6_relation_v_11 {f_at f_end f_ft f_te z140 : Int} (h0 : f_at ≤ f_end) (h1 : f_ft = 0 ∨ f_at = f_end) (h2 : (f_at = f_end → z140 = f_te)) (h3 : f_te = -1) (h4 : ¬ z140 = 1060) (h5 : z140 = 1061) (h6 : 0 ≤ f_at ∧ f_at ≤ 1000) (h7 : 0 ≤ f_end ∧ f_end ≤ 1000) (h8 : 0 ≤ f_ft ∧ f_ft ≤ 4) (h9 : (-1) ≤ f_te ∧ f_te ≤ (-1)) (h10 : 1061 ≤ z140 ∧ z140 ≤ 1061) : f_at ≤ f_end := by omega
theorem vc_X6_relation_v_12 {f_at f_end f_ft f_te z140 z159 : Int} (h0 : f_at ≤ f_end) (h1 : f_ft = 0 ∨ f_at = f_end) (h2 : (f_at = f_end → z140 = f_te)) (h3 : z159 ≤ f_end) (h4 : f_at ≤ z159) (h5 : f_at < f_end → f_at + 1 ≤ z159) (h6 : f_te = -1) (h7 : ¬ z140 = 1060) (h8 : z140 = 1061) (h9 : 0 ≤ f_at ∧ f_at ≤ 1000) (h10 : 0 ≤ f_end ∧ f_end ≤ 1000) (h11 : 0 ≤ f_ft ∧ f_ft ≤ 4) (h12 : (-1) ≤ f_te ∧ f_te ≤ (-1)) (h13 : 1061 ≤ z140 ∧ z140 ≤ 1061) (h14 : 0 ≤ z159 ∧ z159 ≤ 1000) : z159 ≤ f_end := by omega
theorem vc_X6_relation_v_13 {f_at f_end f_ft f_te z140 z159 : Int} (h0 : f_at ≤ f_end) (h1 : f_ft = 0 ∨ f_at = f_end) (h2 : (f_at = f_end → z140 = f_te)) (h3 : z159 ≤ f_end) (h4 : f_at ≤ z159) (h5 : f_at < f_end → f_at + 1 ≤ z159) (h6 : f_te = -1) (h7 : ¬ z140 = 1060) (h8 : z140 = 1061) (h9 : 0 ≤ f_at ∧ f_at ≤ 1000) (h10 : 0 ≤ f_end ∧ f_end ≤ 1000) (h11 : 0 ≤ f_ft ∧ f_ft ≤ 4) (h12 : (-1) ≤ f_te ∧ f_te ≤ (-1)) (h13 : 1061 ≤ z140 ∧ z140 ≤ 1061) (h14 : 0 ≤ z159 ∧ z159 ≤ 1000) : f_at ≤ z159 := by omega
theorem vc_X6_relation_v_14 {f_at f_end f_ft f_te z140 z159 : Int} (h0 : f_ft = 0 ∨ f_at = f_end) (h1 : f_at ≤ f_end) (h2 : (f_at = f_end → z140 = f_te)) (h3 : z159 ≤ f_end) (h4 : f_at ≤ z159) (h5 : f_at < f_end → f_at + 1 ≤ z159) (h6 : 0 ≤ f_at ∧ f_at ≤ 1000) (h7 : 0 ≤ f_end ∧ f_end ≤ 1000) (h8 : 0 ≤ f_ft ∧ f_ft ≤ 4) (h9 : (-1) ≤ f_te ∧ f_te ≤ (-1)) (h10 : 1061 ≤ z140 ∧ z140 ≤ 1061) (h11 : 0 ≤ z159 ∧ z159 ≤ 1000) : f_ft = 0 ∨ 1 ≤ f_ft := by omega
theorem vc_X6_relation_v_15 {f_at f_end f_ft f_te z140 z159 : Int} (h0 : f_at ≤ f_end) (h1 : f_ft = 0 ∨ f_at = f_end) (h2 : (f_at = f_end → z140 = f_te)) (h3 : z159 ≤ f_end) (h4 : f_at ≤ z159) (h5 : f_at < f_end → f_at + 1 ≤ z159) (h6 : f_te = -1) (h7 : ¬ z140 = 1060) (h8 : z140 = 1061) (h9 : 0 ≤ f_at ∧ f_at ≤ 1000) (h10 : 0 ≤ f_end ∧ f_end ≤ 1000) (h11 : 0 ≤ f_ft ∧ f_ft ≤ 4) (h12 : (-1) ≤ f_te ∧ f_te ≤ (-1)) (h13 : 1061 ≤ z140 ∧ z140 ≤ 1061) (h14 : 0 ≤ z159 ∧ z159 ≤ 1000) : f_ft = 0 ∨ z159 = f_end := by omega
theorem vc_X6_relation_v_16 {f_at f_end f_ft f_te z140 z159 : Int} (h0 : f_at ≤ f_end) (h1 : f_ft = 0 ∨ f_at = f_end) (h2 : (f_at = f_end → z140 = f_te)) (h3 : z159 ≤ f_end) (h4 : f_at ≤ z159) (h5 : f_at < f_end → f_at + 1 ≤ z159) (h6 : f_te = -1) (h7 : ¬ z140 = 1060) (h8 : z140 = 1061) (h9 : 0 ≤ f_at ∧ f_at ≤ 1000) (h10 : 0 ≤ f_end ∧ f_end ≤ 1000) (h11 : 0 ≤ f_ft ∧ f_ft ≤ 4) (h12 : (-1) ≤ f_te ∧ f_te ≤ (-1)) (h13 : 1061 ≤ z140 ∧ z140 ≤ 1061) (h14 : 0 ≤ z159 ∧ z159 ≤ 1000) : f_ft = 0 → f_at + 1 ≤ z159 := by omega
theorem vc_X6_relation_v_17 {f_at f_end f_ft f_te z140 z159 : Int} (h0 : (f_at = f_end → z140 = f_te)) (h1 : ¬ z140 = 1060) (h2 : z140 = 1061) (h3 : f_at ≤ f_end) (h4 : f_te = -1) (h5 : f_ft = 0 ∨ f_at = f_end) (h6 : z159 ≤ f_end) (h7 : f_at ≤ z159) (h8 : f_at < f_end → f_at + 1 ≤ z159) (h9 : 0 ≤ f_at ∧ f_at ≤ 1000) (h10 : 0 ≤ f_end ∧ f_end ≤ 1000) (h11 : 0 ≤ f_ft ∧ f_ft ≤ 4) (h12 : (-1) ≤ f_te ∧ f_te ≤ (-1)) (h13 : 1061 ≤ z140 ∧ z140 ≤ 1061) (h14 : 0 ≤ z159 ∧ z159 ≤ 1000) : z140 = 1060 ∨ z140 = 1061 ∨ z140 = 1062 := by omega
theorem vc_X6_relation_v_18 {f_at f_end f_te z140 : Int} (h0 : z140 = 1062) (h1 : (f_at = f_end → z140 = f_te)) (h2 : ¬ z140 = 1060) (h3 : ¬ z140 = 1061) (h4 : 0 ≤ f_at ∧ f_at ≤ 1000) (h5 : 0 ≤ f_end ∧ f_end ≤ 1000) (h6 : (-1) ≤ f_te ∧ f_te ≤ (-1)) (h7 : (-2147483648) ≤ z140 ∧ z140 ≤ 2147483647) : 1062 ≤ z140 ∧ z140 ≤ 1062 := by omega
theorem vc_X6_relation_v_19 {f_at f_end f_ft f_te z140 : Int} (h0 : f_at ≤ f_end) (h1 : f_ft = 0 ∨ f_at = f_end) (h2 : (f_at = f_end → z140 = f_te)) (h3 : f_te = -1) (h4 : ¬ z140 = 1060) (h5 : ¬ z140 = 1061) (h6 : z140 = 1062) (h7 : 0 ≤ f_at ∧ f_at ≤ 1000) (h8 : 0 ≤ f_end ∧ f_end ≤ 1000) (h9 : 0 ≤ f_ft ∧ f_ft ≤ 4) (h10 : (-1) ≤ f_te ∧ f_te ≤ (-1)) (h11 : 1062 ≤ z140 ∧ z140 ≤ 1062) : f_at ≤ f_end := by omega
theorem vc_X6_relation_v_20 {f_at f_end f_ft f_te z140 z169 : Int} (h0 : f_at ≤ f_end) (h1 : f_ft = 0 ∨ f_at = f_end) (h2 : (f_at = f_end → z140 = f_te)) (h3 : z169 ≤ f_end) (h4 : f_at ≤ z169) (h5 : f_at < f_end → f_at + 1 ≤ z169) (h6 : f_te = -1) (h7 : ¬ z140 = 1060) (h8 : ¬ z140 = 1061) (h9 : z140 = 1062) (h10 : 0 ≤ f_at ∧ f_at ≤ 1000) (h11 : 0 ≤ f_end ∧ f_end ≤ 1000) (h12 : 0 ≤ f_ft ∧ f_ft ≤ 4) (h13 : (-1) ≤ f_te ∧ f_te ≤ (-1)) (h14 : 1062 ≤ z140 ∧ z140 ≤ 1062) (h15 : 0 ≤ z169 ∧ z169 ≤ 1000) : z169 ≤ f_end := by omega
theorem vc_X6_relation_v_21 {f_at f_end f_ft f_te z140 z169 : Int} (h0 : f_at ≤ f_end) (h1 : f_ft = 0 ∨ f_at = f_end) (h2 : (f_at = f_end → z140 = f_te)) (h3 : z169 ≤ f_end) (h4 : f_at ≤ z169) (h5 : f_at < f_end → f_at + 1 ≤ z169) (h6 : f_te = -1) (h7 : ¬ z140 = 1060) (h8 : ¬ z140 = 1061) (h9 : z140 = 1062) (h10 : 0 ≤ f_at ∧ f_at ≤ 1000) (h11 : 0 ≤ f_end ∧ f_end ≤ 1000) (h12 : 0 ≤ f_ft ∧ f_ft ≤ 4) (h13 : (-1) ≤ f_te ∧ f_te ≤ (-1)) (h14 : 1062 ≤ z140 ∧ z140 ≤ 1062) (h15 : 0 ≤ z169 ∧ z169 ≤ 1000) : f_at ≤ z169 := by omega
theorem vc_X6_relation_v_22 {f_at f_end f_ft f_te z140 z169 : Int} (h0 : f_ft = 0 ∨ f_at = f_end) (h1 : f_at ≤ f_end) (h2 : (f_at = f_end → z140 = f_te)) (h3 : z169 ≤ f_end) (h4 : f_at ≤ z169) (h5 : f_at < f_end → f_at + 1 ≤ z169) (h6 : 0 ≤ f_at ∧ f_at ≤ 1000) (h7 : 0 ≤ f_end ∧ f_end ≤ 1000) (h8 : 0 ≤ f_ft ∧ f_ft ≤ 4) (h9 : (-1) ≤ f_te ∧ f_te ≤ (-1)) (h10 : 1062 ≤ z140 ∧ z140 ≤ 1062) (h11 : 0 ≤ z169 ∧ z169 ≤ 1000) : f_ft = 0 ∨ 1 ≤ f_ft := by omega
theorem vc_X6_relation_v_23 {f_at f_end f_ft f_te z140 z169 : Int} (h0 : f_at ≤ f_end) (h1 : f_ft = 0 ∨ f_at = f_end) (h2 : (f_at = f_end → z140 = f_te)) (h3 : z169 ≤ f_end) (h4 : f_at ≤ z169) (h5 : f_at < f_end → f_at + 1 ≤ z169) (h6 : f_te = -1) (h7 : ¬ z140 = 1060) (h8 : ¬ z140 = 1061) (h9 : z140 = 1062) (h10 : 0 ≤ f_at ∧ f_at ≤ 1000) (h11 : 0 ≤ f_end ∧ f_end ≤ 1000) (h12 : 0 ≤ f_ft ∧ f_ft ≤ 4) (h13 : (-1) ≤ f_te ∧ f_te ≤ (-1)) (h14 : 1062 ≤ z140 ∧ z140 ≤ 1062) (h15 : 0 ≤ z169 ∧ z169 ≤ 1000) : f_ft = 0 ∨ z169 = f_end := by omega
theorem vc_X6_relation_v_24 {f_at f_end f_ft f_te z140 z169 : Int} (h0 : f_at ≤ f_end) (h1 : f_ft = 0 ∨ f_at = f_end) (h2 : (f_at = f_end → z140 = f_te)) (h3 : z169 ≤ f_end) (h4 : f_at ≤ z169) (h5 : f_at < f_end → f_at + 1 ≤ z169) (h6 : f_te = -1) (h7 : ¬ z140 = 1060) (h8 : ¬ z140 = 1061) (h9 : z140 = 1062) (h10 : 0 ≤ f_at ∧ f_at ≤ 1000) (h11 : 0 ≤ f_end ∧ f_end ≤ 1000) (h12 : 0 ≤ f_ft ∧ f_ft ≤ 4) (h13 : (-1) ≤ f_te ∧ f_te ≤ (-1)) (h14 : 1062 ≤ z140 ∧ z140 ≤ 1062) (h15 : 0 ≤ z169 ∧ z169 ≤ 1000) : f_ft = 0 → f_at + 1 ≤ z169 := by omega
theorem vc_X6_relation_v_25 {f_at f_end f_ft f_te z140 z169 : Int} (h0 : (f_at = f_end → z140 = f_te)) (h1 : ¬ z140 = 1060) (h2 : ¬ z140 = 1061) (h3 : z140 = 1062) (h4 : f_at ≤ f_end) (h5 : f_te = -1) (h6 : f_ft = 0 ∨ f_at = f_end) (h7 : z169 ≤ f_end) (h8 : f_at ≤ z169) (h9 : f_at < f_end → f_at + 1 ≤ z169) (h10 : 0 ≤ f_at ∧ f_at ≤ 1000) (h11 : 0 ≤ f_end ∧ f_end ≤ 1000) (h12 : 0 ≤ f_ft ∧ f_ft ≤ 4) (h13 : (-1) ≤ f_te ∧ f_te ≤ (-1)) (h14 : 1062 ≤ z140 ∧ z140 ≤ 1062) (h15 : 0 ≤ z169 ∧ z169 ≤ 1000) : z140 = 1060 ∨ z140 = 1061 ∨ z140 = 1062 := by omega
theorem vc_X6_relation_v_26 {f_at f_end f_ft f_te z140 : Int} (h0 : f_at ≤ f_end) (h1 : f_ft = 0 ∨ f_at = f_end) (h2 : (f_at = f_end → z140 = f_te)) (h3 : f_te = -1) (h4 : ¬ z140 = 1060) (h5 : ¬ z140 = 1061) (h6 : ¬ z140 = 1062) (h7 : 0 ≤ f_at ∧ f_at ≤ 1000) (h8 : 0 ≤ f_end ∧ f_end ≤ 1000) (h9 : 0 ≤ f_ft ∧ f_ft ≤ 4) (h10 : (-1) ≤ f_te ∧ f_te ≤ (-1)) (h11 : (-2147483648) ≤ z140 ∧ z140 ≤ 2147483647) : f_at ≤ f_end := by omega
theorem vc_X6_relation_v_28 {f_at f_end f_ft f_te z140 z180 : Int} (h0 : f_at ≤ f_end) (h1 : f_ft = 0 ∨ f_at = f_end) (h2 : (f_at = f_end → z140 = f_te)) (h3 : z180 = f_end) (h4 : f_te = -1) (h5 : ¬ z140 = 1060) (h6 : ¬ z140 = 1061) (h7 : ¬ z140 = 1062) (h8 : 0 ≤ f_at ∧ f_at ≤ 1000) (h9 : 0 ≤ f_end ∧ f_end ≤ 1000) (h10 : 0 ≤ f_ft ∧ f_ft ≤ 4) (h11 : (-1) ≤ f_te ∧ f_te ≤ (-1)) (h12 : (-2147483648) ≤ z140 ∧ z140 ≤ 2147483647) (h13 : 0 ≤ z180 ∧ z180 ≤ 1000) : f_end ≤ f_end := by omega
theorem vc_X6_relation_v_29 {f_at f_end f_ft f_te z140 z180 : Int} (h0 : f_at ≤ f_end) (h1 : f_ft = 0 ∨ f_at = f_end) (h2 : (f_at = f_end → z140 = f_te)) (h3 : z180 = f_end) (h4 : f_te = -1) (h5 : ¬ z140 = 1060) (h6 : ¬ z140 = 1061) (h7 : ¬ z140 = 1062) (h8 : 0 ≤ f_at ∧ f_at ≤ 1000) (h9 : 0 ≤ f_end ∧ f_end ≤ 1000) (h10 : 0 ≤ f_ft ∧ f_ft ≤ 4) (h11 : (-1) ≤ f_te ∧ f_te ≤ (-1)) (h12 : (-2147483648) ≤ z140 ∧ z140 ≤ 2147483647) (h13 : 0 ≤ z180 ∧ z180 ≤ 1000) : f_at ≤ f_end := by omega
theorem vc_X6_relation_v_31 {f_at f_end f_ft f_te z140 z180 z182 : Int} (h0 : f_at ≤ f_end) (h1 : f_ft = 0 ∨ f_at = f_end) (h2 : (f_at = f_end → z140 = f_te)) (h3 : z180 = f_end) (h4 : 1 ≤ z182) (h5 : f_te = -1) (h6 : ¬ z140 = 1060) (h7 : ¬ z140 = 1061) (h8 : ¬ z140 = 1062) (h9 : 0 ≤ f_at ∧ f_at ≤ 1000) (h10 : 0 ≤ f_end ∧ f_end ≤ 1000) (h11 : 0 ≤ f_ft ∧ f_ft ≤ 4) (h12 : (-1) ≤ f_te ∧ f_te ≤ (-1)) (h13 : (-2147483648) ≤ z140 ∧ z140 ≤ 2147483647) (h14 : 0 ≤ z180 ∧ z180 ≤ 1000) (h15 : 1 ≤ z182 ∧ z182 ≤ 4) : z182 = 0 ∨ f_end = f_end := by omega
theorem vc_X6_relation_v_32 {f_at f_end f_ft f_te z140 z180 z182 : Int} (h0 : f_at ≤ f_end) (h1 : f_ft = 0 ∨ f_at = f_end) (h2 : (f_at = f_end → z140 = f_te)) (h3 : z180 = f_end) (h4 : 1 ≤ z182) (h5 : f_te = -1) (h6 : ¬ z140 = 1060) (h7 : ¬ z140 = 1061) (h8 : ¬ z140 = 1062) (h9 : 0 ≤ f_at ∧ f_at ≤ 1000) (h10 : 0 ≤ f_end ∧ f_end ≤ 1000) (h11 : 0 ≤ f_ft ∧ f_ft ≤ 4) (h12 : (-1) ≤ f_te ∧ f_te ≤ (-1)) (h13 : (-2147483648) ≤ z140 ∧ z140 ≤ 2147483647) (h14 : 0 ≤ z180 ∧ z180 ≤ 1000) (h15 : 1 ≤ z182 ∧ z182 ≤ 4) : z182 = 0 → f_at + 1 ≤ f_end := by omega
theorem vc_X6_relation_v_33 {f_at f_end f_ft f_te z140 z180 : Int} (h0 : (f_at = f_end → z140 = f_te)) (h1 : ¬ z140 = 1060) (h2 : ¬ z140 = 1061) (h3 : ¬ z140 = 1062) (h4 : f_at ≤ f_end) (h5 : f_te = -1) (h6 : f_ft = 0 ∨ f_at = f_end) (h7 : z180 = f_end) (h8 : 0 ≤ f_at ∧ f_at ≤ 1000) (h9 : 0 ≤ f_end ∧ f_end ≤ 1000) (h10 : 0 ≤ f_ft ∧ f_ft ≤ 4) (h11 : (-1) ≤ f_te ∧ f_te ≤ (-1)) (h12 : (-2147483648) ≤ z140 ∧ z140 ≤ 2147483647) (h13 : 0 ≤ z180 ∧ z180 ≤ 1000) : ¬ (z140 = 1060 ∨ z140 = 1061 ∨ z140 = 1062) := by omega
set_option maxRecDepth 4000 in
set_option maxHeartbeats 4000000 in
theorem c_X6_relation_v {l : Launch} {D : va_G} {c : Nat → ClassId} {H0 : Heap} {sa : Nat × Nat × (Nat → Int32)} {w : mW} {μ : mM} (hw : mWF w) (hT : mT w μ) {f_at : Int} (q_f_at : μ 23 9 = f_at) {f_end : Int} (q_f_end : μ 23 8 = f_end) {f_ft : Int} (q_f_ft : μ 23 18 = f_ft) {f_te : Int} (q_f_te : μ 24 (f_end.toNat) = f_te) {f_fp : Int} (q_f_fp : μ 23 19 = f_fp) (hq0 : f_at ≤ f_end) (hq1 : f_te = -1) (hq2 : f_ft = 0 ∨ f_at = f_end) : sC (gG l D c H0 sa) mX6_relation 2 0 0 [.ref 23] (mk w μ) (qI w [23009, 23018, 23019] μ (fun z μ1 => ∃ o_at o_ft : Int, μ1 23 9 = o_at ∧ μ1 23 18 = o_ft ∧ (0 ≤ z ∧ z ≤ 2) ∧ (o_at ≤ f_end) ∧ (f_at ≤ o_at) ∧ (f_ft = 0 ∨ 1 ≤ o_ft) ∧ (o_ft = 0 ∨ o_at = f_end) ∧ (o_ft = 0 → f_at + 1 ≤ o_at) ∧ (reK μ μ1) ∧ True)) := by
  refine sC.of rfl (by decide) (le_t rfl) ?_
  have ht_f_at : (0 ≤ f_at ∧ f_at ≤ 1000) := by rw [← q_f_at]; exact hT 23 23 (A_23 hw) 9
  have ht_f_end : (0 ≤ f_end ∧ f_end ≤ 1000) := by rw [← q_f_end]; exact hT 23 23 (A_23 hw) 8
  have ht_f_ft : (0 ≤ f_ft ∧ f_ft ≤ 4) := by rw [← q_f_ft]; exact hT 23 23 (A_23 hw) 18
  have ht_f_te : ((-2147483648) ≤ f_te ∧ f_te ≤ 2147483647) := by rw [← q_f_te]; exact hT 24 24 (A_24 hw) (f_end.toNat)
  have ht_f_fp : (0 ≤ f_fp ∧ f_fp ≤ 1000) := by rw [← q_f_fp]; exact hT 23 23 (A_23 hw) 19
  have h1 : (-1) ≤ f_te ∧ f_te ≤ (-1) := (vc_X6_take_v_1 hq1 ht_f_te)
  refine mr_lvE (lv' := [(0, .ref 23)]) rfl ?_
  refine sv_aload_n (pc := 0) dX6_relation_0 rfl rfl ?_
  refine gf_X6_0 (pc := 1) dX6_relation_1 wF_X6_9 (A_23 hw) hT ?_
  refine sv_aload_n (pc := 4) dX6_relation_4 rfl rfl ?_
  refine gk_X6_9 (pc := 5) dX6_relation_5 wF_X6_63 (A_23 hw) q_f_at ?_
  refine la_24 (pc := 8) dX6_relation_8 (A_24 hw) hT (rIx (n := 1001) ht_f_at rfl) fun z140 q141 h142 => ?_
  refine mr_istore_n (pc := 9) (lv' := [(1, iv z140), (0, .ref 23)]) dX6_relation_9 rfl (by decide) rfl ?_
  refine mr_iload_n (pc := 10) (z := z140) dX6_relation_10 rfl rfl ?_
  refine mr_sipush (pc := 11) (z := 1060) dX6_relation_11 (by decide) ?_
  refine mr_icmp_eq (pc := 14) (tgt := 38) dX6_relation_14 (by decide) h142 (r32 (rR (x := 1060)) rfl) (fun h143 => ?_) (fun h143 => ?_)
  · have h144 : 1060 ≤ z140 ∧ z140 ≤ 1060 := (vc_X6_relation_v_2 h143 (cgr q141 q_f_te) ht_f_at ht_f_end h1 h142)
    refine sv_aload_n (pc := 38) dX6_relation_38 rfl rfl ?_
    refine mr_cVV (pc := 39) (c_X6_step_v hw hT q_f_at q_f_end q_f_ft q_f_fp (vc_X6_relation_v_3 hq0 hq2 (cgr q141 q_f_te) hq1 h143 ht_f_at ht_f_end ht_f_ft h1 h144)) (gOk _ _ _ _ _) dX6_relation_39 (tX6_step _ _ _ _ _) ⟨wV_X6_step, wL_X6_step⟩ wM_X6_117 (gCX6 _ _ _ _ _) rfl (A_23 hw) rfl ⟨le_t rfl, le_t rfl⟩ ⟨le_t rfl, le_t rfl⟩ rfl (le_t rfl) fun μ145 T146 F147 h148 => ?_
    obtain ⟨z149, q150, h151⟩ := h148
    have h152 : (0 ≤ z149 ∧ z149 ≤ 1000) := by rw [← q150]; exact T146 23 23 (A_23 hw) 9
    refine mr_iload_n (pc := 42) (z := z140) dX6_relation_42 rfl rfl ?_
    refine mr_sipush (pc := 43) (z := 1000) dX6_relation_43 (by decide) ?_
    refine mr_isub (pc := 46) (x := z140) (y := 1000) dX6_relation_46 ?_
    refine mr_bipush (pc := 47) (z := 60) dX6_relation_47 (by decide) ?_
    refine mr_isub (pc := 49) (x := (z140 - 1000)) (y := 60) dX6_relation_49 ?_
    exact mr_iret dX6_relation_50 rfl (le_t rfl) (le_t rfl) T146 (mF.call mF.refl F147 rfl) ⟨z149, f_ft, q150, (F147.f (A_23 hw) rfl q_f_ft), (rW (c := 0) (d := 2) (rSub (e := 0) (f := 0) (rSub (e := 60) (f := 60) h144 (rR (x := 1000)) rfl) (rR (x := 60)) rfl) rfl), (vc_X6_relation_v_4 hq0 hq2 (cgr q141 q_f_te) h151.1 h151.2.1 h151.2.2.1 hq1 h143 ht_f_at ht_f_end ht_f_ft h1 h144 h152), (vc_X6_relation_v_5 hq0 hq2 (cgr q141 q_f_te) h151.1 h151.2.1 h151.2.2.1 hq1 h143 ht_f_at ht_f_end ht_f_ft h1 h144 h152), (vc_X6_relation_v_6 hq2 hq0 (cgr q141 q_f_te) h151.1 h151.2.1 h151.2.2.1 ht_f_at ht_f_end ht_f_ft h1 h144 h152), (vc_X6_relation_v_7 hq0 hq2 (cgr q141 q_f_te) h151.1 h151.2.1 h151.2.2.1 hq1 h143 ht_f_at ht_f_end ht_f_ft h1 h144 h152), (vc_X6_relation_v_8 hq0 hq2 (cgr q141 q_f_te) h151.1 h151.2.1 h151.2.2.1 hq1 h143 ht_f_at ht_f_end ht_f_ft h1 h144 h152), (Or.inl ⟨(by rw [(cT.is q_f_at q141)]; exact (vc_X6_relation_v_9 (cgr q141 q_f_te) h143 hq0 hq1 hq2 h151.1 h151.2.1 h151.2.2.1 ht_f_at ht_f_end ht_f_ft h1 h144 h152)), h151.2.2.2.1⟩), trivial⟩
  refine mr_iload_n (pc := 17) (z := z140) dX6_relation_17 rfl rfl ?_
  refine mr_sipush (pc := 18) (z := 1061) dX6_relation_18 (by decide) ?_
  refine mr_icmp_eq (pc := 21) (tgt := 38) dX6_relation_21 (by decide) h142 (r32 (rR (x := 1061)) rfl) (fun h153 => ?_) (fun h153 => ?_)
  · have h154 : 1061 ≤ z140 ∧ z140 ≤ 1061 := (vc_X6_relation_v_10 h153 (cgr q141 q_f_te) h143 ht_f_at ht_f_end h1 h142)
    refine sv_aload_n (pc := 38) dX6_relation_38 rfl rfl ?_
    refine mr_cVV (pc := 39) (c_X6_step_v hw hT q_f_at q_f_end q_f_ft q_f_fp (vc_X6_relation_v_11 hq0 hq2 (cgr q141 q_f_te) hq1 h143 h153 ht_f_at ht_f_end ht_f_ft h1 h154)) (gOk _ _ _ _ _) dX6_relation_39 (tX6_step _ _ _ _ _) ⟨wV_X6_step, wL_X6_step⟩ wM_X6_117 (gCX6 _ _ _ _ _) rfl (A_23 hw) rfl ⟨le_t rfl, le_t rfl⟩ ⟨le_t rfl, le_t rfl⟩ rfl (le_t rfl) fun μ155 T156 F157 h158 => ?_
    obtain ⟨z159, q160, h161⟩ := h158
    have h162 : (0 ≤ z159 ∧ z159 ≤ 1000) := by rw [← q160]; exact T156 23 23 (A_23 hw) 9
    refine mr_iload_n (pc := 42) (z := z140) dX6_relation_42 rfl rfl ?_
    refine mr_sipush (pc := 43) (z := 1000) dX6_relation_43 (by decide) ?_
    refine mr_isub (pc := 46) (x := z140) (y := 1000) dX6_relation_46 ?_
    refine mr_bipush (pc := 47) (z := 60) dX6_relation_47 (by decide) ?_
    refine mr_isub (pc := 49) (x := (z140 - 1000)) (y := 60) dX6_relation_49 ?_
    exact mr_iret dX6_relation_50 rfl (le_t rfl) (le_t rfl) T156 (mF.call mF.refl F157 rfl) ⟨z159, f_ft, q160, (F157.f (A_23 hw) rfl q_f_ft), (rW (c := 0) (d := 2) (rSub (e := 1) (f := 1) (rSub (e := 61) (f := 61) h154 (rR (x := 1000)) rfl) (rR (x := 60)) rfl) rfl), (vc_X6_relation_v_12 hq0 hq2 (cgr q141 q_f_te) h161.1 h161.2.1 h161.2.2.1 hq1 h143 h153 ht_f_at ht_f_end ht_f_ft h1 h154 h162), (vc_X6_relation_v_13 hq0 hq2 (cgr q141 q_f_te) h161.1 h161.2.1 h161.2.2.1 hq1 h143 h153 ht_f_at ht_f_end ht_f_ft h1 h154 h162), (vc_X6_relation_v_14 hq2 hq0 (cgr q141 q_f_te) h161.1 h161.2.1 h161.2.2.1 ht_f_at ht_f_end ht_f_ft h1 h154 h162), (vc_X6_relation_v_15 hq0 hq2 (cgr q141 q_f_te) h161.1 h161.2.1 h161.2.2.1 hq1 h143 h153 ht_f_at ht_f_end ht_f_ft h1 h154 h162), (vc_X6_relation_v_16 hq0 hq2 (cgr q141 q_f_te) h161.1 h161.2.1 h161.2.2.1 hq1 h143 h153 ht_f_at ht_f_end ht_f_ft h1 h154 h162), (Or.inl ⟨(by rw [(cT.is q_f_at q141)]; exact (vc_X6_relation_v_17 (cgr q141 q_f_te) h143 h153 hq0 hq1 hq2 h161.1 h161.2.1 h161.2.2.1 ht_f_at ht_f_end ht_f_ft h1 h154 h162)), h161.2.2.2.1⟩), trivial⟩
  refine mr_iload_n (pc := 24) (z := z140) dX6_relation_24 rfl rfl ?_
  refine mr_sipush (pc := 25) (z := 1062) dX6_relation_25 (by decide) ?_
  refine mr_icmp_eq (pc := 28) (tgt := 38) dX6_relation_28 (by decide) h142 (r32 (rR (x := 1062)) rfl) (fun h163 => ?_) (fun h163 => ?_)
  · have h164 : 1062 ≤ z140 ∧ z140 ≤ 1062 := (vc_X6_relation_v_18 h163 (cgr q141 q_f_te) h143 h153 ht_f_at ht_f_end h1 h142)
    refine sv_aload_n (pc := 38) dX6_relation_38 rfl rfl ?_
    refine mr_cVV (pc := 39) (c_X6_step_v hw hT q_f_at q_f_end q_f_ft q_f_fp (vc_X6_relation_v_19 hq0 hq2 (cgr q141 q_f_te) hq1 h143 h153 h163 ht_f_at ht_f_end ht_f_ft h1 h164)) (gOk _ _ _ _ _) dX6_relation_39 (tX6_step _ _ _ _ _) ⟨wV_X6_step, wL_X6_step⟩ wM_X6_117 (gCX6 _ _ _ _ _) rfl (A_23 hw) rfl ⟨le_t rfl, le_t rfl⟩ ⟨le_t rfl, le_t rfl⟩ rfl (le_t rfl) fun μ165 T166 F167 h168 => ?_
    obtain ⟨z169, q170, h171⟩ := h168
    have h172 : (0 ≤ z169 ∧ z169 ≤ 1000) := by rw [← q170]; exact T166 23 23 (A_23 hw) 9
    refine mr_iload_n (pc := 42) (z := z140) dX6_relation_42 rfl rfl ?_
    refine mr_sipush (pc := 43) (z := 1000) dX6_relation_43 (by decide) ?_
    refine mr_isub (pc := 46) (x := z140) (y := 1000) dX6_relation_46 ?_
    refine mr_bipush (pc := 47) (z := 60) dX6_relation_47 (by decide) ?_
    refine mr_isub (pc := 49) (x := (z140 - 1000)) (y := 60) dX6_relation_49 ?_
    exact mr_iret dX6_relation_50 rfl (le_t rfl) (le_t rfl) T166 (mF.call mF.refl F167 rfl) ⟨z169, f_ft, q170, (F167.f (A_23 hw) rfl q_f_ft), (rW (c := 0) (d := 2) (rSub (e := 2) (f := 2) (rSub (e := 62) (f := 62) h164 (rR (x := 1000)) rfl) (rR (x := 60)) rfl) rfl), (vc_X6_relation_v_20 hq0 hq2 (cgr q141 q_f_te) h171.1 h171.2.1 h171.2.2.1 hq1 h143 h153 h163 ht_f_at ht_f_end ht_f_ft h1 h164 h172), (vc_X6_relation_v_21 hq0 hq2 (cgr q141 q_f_te) h171.1 h171.2.1 h171.2.2.1 hq1 h143 h153 h163 ht_f_at ht_f_end ht_f_ft h1 h164 h172), (vc_X6_relation_v_22 hq2 hq0 (cgr q141 q_f_te) h171.1 h171.2.1 h171.2.2.1 ht_f_at ht_f_end ht_f_ft h1 h164 h172), (vc_X6_relation_v_23 hq0 hq2 (cgr q141 q_f_te) h171.1 h171.2.1 h171.2.2.1 hq1 h143 h153 h163 ht_f_at ht_f_end ht_f_ft h1 h164 h172), (vc_X6_relation_v_24 hq0 hq2 (cgr q141 q_f_te) h171.1 h171.2.1 h171.2.2.1 hq1 h143 h153 h163 ht_f_at ht_f_end ht_f_ft h1 h164 h172), (Or.inl ⟨(by rw [(cT.is q_f_at q141)]; exact (vc_X6_relation_v_25 (cgr q141 q_f_te) h143 h153 h163 hq0 hq1 hq2 h171.1 h171.2.1 h171.2.2.1 ht_f_at ht_f_end ht_f_ft h1 h164 h172)), h171.2.2.2.1⟩), trivial⟩
  refine sv_aload_n (pc := 31) dX6_relation_31 rfl rfl ?_
  refine mr_iconst (pc := 32) (z := 2) dX6_relation_32 ?_
  obtain ⟨z173, q174⟩ : ∃ z, μ 26 (f_at.toNat) = z := ⟨_, rfl⟩
  have h175 : (0 ≤ z173 ∧ z173 ≤ 1000) := by rw [← q174]; exact hT 26 26 (A_26 hw) (f_at.toNat)
  refine mr_cVV (pc := 33) (c_X6_fail_v hw hT (rW (c := 1) (d := 4) (rR (x := 2)) rfl) q_f_at q_f_end q_f_ft q_f_fp q174 (vc_X6_relation_v_26 hq0 hq2 (cgr q141 q_f_te) hq1 h143 h153 h163 ht_f_at ht_f_end ht_f_ft h1 h142)) (gOk _ _ _ _ _) dX6_relation_33 (tX6_fail _ _ _ _ _) ⟨wV_X6_fail, wL_X6_fail⟩ wM_X6_123 (gCX6 _ _ _ _ _) rfl (A_23 hw) rfl ⟨le_t rfl, le_t rfl⟩ ⟨le_t rfl, le_t rfl⟩ rfl (le_t rfl) fun μ176 T177 F178 h179 => ?_
  obtain ⟨z180, z182, q181, q183, h184⟩ := h179
  have h185 : (0 ≤ z180 ∧ z180 ≤ 1000) := by rw [← q181]; exact T177 23 23 (A_23 hw) 9
  have h186 : (0 ≤ z182 ∧ z182 ≤ 4) := by rw [← q183]; exact T177 23 23 (A_23 hw) 18
  have q187 : μ176 23 9 = f_end := q181.trans h184.1
  have h188 : 1 ≤ z182 ∧ z182 ≤ 4 := (vc_X6_expect_v_15 h184.2.1 h186)
  refine mr_iconst (pc := 36) (z := 0) dX6_relation_36 ?_
  exact mr_iret dX6_relation_37 rfl (le_t rfl) (le_t rfl) T177 (mF.call mF.refl F178 rfl) ⟨f_end, z182, q187, q183, (rW (c := 0) (d := 2) (rR (x := 0)) rfl), (vc_X6_relation_v_28 hq0 hq2 (cgr q141 q_f_te) h184.1 hq1 h143 h153 h163 ht_f_at ht_f_end ht_f_ft h1 h142 h185), (vc_X6_relation_v_29 hq0 hq2 (cgr q141 q_f_te) h184.1 hq1 h143 h153 h163 ht_f_at ht_f_end ht_f_ft h1 h142 h185), (vc_X6_number_v_37 hq2 h184.2.1 hq0 (cgr q141 q_f_te) h184.1 ht_f_at ht_f_end ht_f_ft h1 h142 h185 h188), (vc_X6_relation_v_31 hq0 hq2 (cgr q141 q_f_te) h184.1 h184.2.1 hq1 h143 h153 h163 ht_f_at ht_f_end ht_f_ft h1 h142 h185 h188), (vc_X6_relation_v_32 hq0 hq2 (cgr q141 q_f_te) h184.1 h184.2.1 hq1 h143 h153 h163 ht_f_at ht_f_end ht_f_ft h1 h142 h185 h188), (Or.inr ⟨(by rw [(cT.is q_f_at q141)]; exact (vc_X6_relation_v_33 (cgr q141 q_f_te) h143 h153 h163 hq0 hq1 hq2 h184.1 ht_f_at ht_f_end ht_f_ft h1 h142 h185)), h184.2.2.1⟩), trivial⟩
