theorem vc_X11_cut_v_2 {f_q p1 : Int} (h0 : p1 < 0) (h1 : 0 ≤ f_q ∧ f_q ≤ 1000) (h2 : (-2147483648) ≤ p1 ∧ p1 ≤ (-1)) : p1 < 0 ∨ f_q < p1 → (-1 : Int) = -1 ∧ f_q = f_q := by omega
theorem vc_X11_cut_v_3 {f_q p1 : Int} (h0 : p1 < 0) (h1 : 0 ≤ f_q ∧ f_q ≤ 1000) (h2 : (-2147483648) ≤ p1 ∧ p1 ≤ (-1)) : 0 ≤ p1 → p1 ≤ f_q → (-1 : Int) = f_q ∧ f_q = p1 := by omega
theorem vc_X11_cut_v_5 {f_q p1 : Int} (h0 : p1 ≤ f_q) (h1 : 0 ≤ p1) (h2 : 0 ≤ f_q ∧ f_q ≤ 1000) (h3 : 0 ≤ p1 ∧ p1 ≤ 2147483647) : 0 ≤ p1 ∧ p1 ≤ 1000 := by omega
theorem vc_X11_cut_v_6 {f_q p1 : Int} (h0 : 0 ≤ p1) (h1 : p1 ≤ f_q) (h2 : 0 ≤ f_q ∧ f_q ≤ 1000) (h3 : 0 ≤ p1 ∧ p1 ≤ 1000) : p1 < 0 ∨ f_q < p1 → f_q = -1 ∧ p1 = f_q := by omega
theorem vc_X11_cut_v_7 {f_q p1 : Int} (h0 : 0 ≤ p1) (h1 : p1 ≤ f_q) (h2 : 0 ≤ f_q ∧ f_q ≤ 1000) (h3 : 0 ≤ p1 ∧ p1 ≤ 1000) : 0 ≤ p1 → p1 ≤ f_q → f_q = f_q ∧ p1 = p1 := by omega
theorem vc_X11_cut_v_8 {f_q p1 : Int} (h0 : f_q < p1) (h1 : 0 ≤ p1) (h2 : 0 ≤ f_q ∧ f_q ≤ 1000) (h3 : 0 ≤ p1 ∧ p1 ≤ 2147483647) : 1 ≤ p1 ∧ p1 ≤ 2147483647 := by omega
theorem vc_X11_cut_v_9 {f_q p1 : Int} (h0 : 0 ≤ p1) (h1 : f_q < p1) (h2 : 0 ≤ f_q ∧ f_q ≤ 1000) (h3 : 1 ≤ p1 ∧ p1 ≤ 2147483647) : p1 < 0 ∨ f_q < p1 → (-1 : Int) = -1 ∧ f_q = f_q := by omega
theorem vc_X11_cut_v_10 {f_q p1 : Int} (h0 : 0 ≤ p1) (h1 : f_q < p1) (h2 : 0 ≤ f_q ∧ f_q ≤ 1000) (h3 : 1 ≤ p1 ∧ p1 ≤ 2147483647) : 0 ≤ p1 → p1 ≤ f_q → (-1 : Int) = f_q ∧ f_q = p1 := by omega
set_option maxRecDepth 4000 in
set_option maxHeartbeats 4000000 in
theorem c_X11_cut_v {l : Launch} {D : va_G} {c : Nat → ClassId} {H0 : Heap} {sa : Nat × Nat × (Nat → Int32)} {w : mW} {μ : mM} (hw : mWF w) (hT : mT w μ) {p1 : Int} (hp1 : (-2147483648) ≤ p1 ∧ p1 ≤ 2147483647) {f_q : Int} (q_f_q : μ 0 10 = f_q) : sC (gG l D c H0 sa) mX11_cut 1 0 0 [.ref 0, iv p1] (mk w μ) (qI w [10] μ (fun z μ1 => ∃ o_q : Int, μ1 0 10 = o_q ∧ ((-2147483648) ≤ z ∧ z ≤ 2147483647) ∧ (p1 < 0 ∨ f_q < p1 → z = -1 ∧ o_q = f_q) ∧ (0 ≤ p1 → p1 ≤ f_q → z = f_q ∧ o_q = p1) ∧ True)) := by
  refine sC.of rfl (by decide) (le_t rfl) ?_
  have ht_f_q : (0 ≤ f_q ∧ f_q ≤ 1000) := by rw [← q_f_q]; exact hT 0 0 (A_0 hw) 10
  refine mr_lvE (lv' := [(0, .ref 0), (1, iv p1)]) rfl ?_
  refine mr_iload_n (pc := 0) (z := p1) dX11_cut_0 rfl rfl ?_
  refine mr_if_lt (pc := 1) (tgt := 12) dX11_cut_1 (by decide) hp1 (fun h22 => ?_) (fun h22 => ?_)
  · have h23 : (-2147483648) ≤ p1 ∧ p1 ≤ (-1) := (vc_X12_ring_60 h22 hp1)
    refine mr_iconst (pc := 12) (z := (-1)) dX11_cut_12 ?_
    exact mr_iret dX11_cut_13 rfl (le_t rfl) (le_t rfl) hT mF.refl ⟨f_q, q_f_q, (rW (c := (-2147483648)) (d := 2147483647) (rR (x := (-1))) rfl), (vc_X11_cut_v_2 h22 ht_f_q h23), (vc_X11_cut_v_3 h22 ht_f_q h23), trivial⟩
  have h24 : 0 ≤ p1 ∧ p1 ≤ 2147483647 := (vc_X12_ring_1 h22 hp1)
  refine mr_iload_n (pc := 4) (z := p1) dX11_cut_4 rfl rfl ?_
  refine sv_aload_n (pc := 5) dX11_cut_5 rfl rfl ?_
  refine gk_X11_10 (pc := 6) dX11_cut_6 wF_X11_76 (A_0 hw) q_f_q ?_
  refine mr_icmp_le (pc := 9) (tgt := 14) dX11_cut_9 (by decide) (r32 h24 rfl) (r32 ht_f_q rfl) (fun h25 => ?_) (fun h25 => ?_)
  · have h26 : 0 ≤ p1 ∧ p1 ≤ 1000 := (vc_X11_cut_v_5 h25 h22 ht_f_q h24)
    refine sv_aload_n (pc := 14) dX11_cut_14 rfl rfl ?_
    refine gk_X11_10 (pc := 15) dX11_cut_15 wF_X11_76 (A_0 hw) q_f_q ?_
    refine mr_istore_n (pc := 18) (lv' := [(2, iv f_q), (0, .ref 0), (1, iv p1)]) dX11_cut_18 rfl (by decide) rfl ?_
    refine sv_aload_n (pc := 19) dX11_cut_19 rfl rfl ?_
    refine mr_iload_n (pc := 20) (z := p1) dX11_cut_20 rfl rfl ?_
    refine pf_X11_10 (pc := 21) dX11_cut_21 wF_X11_76 (A_0 hw) hT h26 fun μ27 u28 T29 => ?_
    refine mr_iload_n (pc := 24) (z := f_q) dX11_cut_24 rfl rfl ?_
    exact mr_iret dX11_cut_25 rfl (le_t rfl) (le_t rfl) T29 (mF.up mF.refl (A_0 hw) u28 rfl) ⟨p1, u28.1, (rW (c := (-2147483648)) (d := 2147483647) ht_f_q rfl), (vc_X11_cut_v_6 h22 h25 ht_f_q h26), (vc_X11_cut_v_7 h22 h25 ht_f_q h26), trivial⟩
  have h30 : 1 ≤ p1 ∧ p1 ≤ 2147483647 := (vc_X11_cut_v_8 h25 h22 ht_f_q h24)
  refine mr_iconst (pc := 12) (z := (-1)) dX11_cut_12 ?_
  exact mr_iret dX11_cut_13 rfl (le_t rfl) (le_t rfl) hT mF.refl ⟨f_q, q_f_q, (rW (c := (-2147483648)) (d := 2147483647) (rR (x := (-1))) rfl), (vc_X11_cut_v_9 h22 h25 ht_f_q h30), (vc_X11_cut_v_10 h22 h25 ht_f_q h30), trivial⟩
set_option maxRecDepth 4000 in
set_option maxHeartbeats 4000000 in
theorem c_X12_cut_v {l : Launch} {D : va_G} {c : Nat → ClassId} {H0 : Heap} {sa : Nat × Nat × (Nat → Int32)} {w : mW} {μ : mM} (hw : mWF w) (hT : mT w μ) {p1 : Int} (hp1 : (-2147483648) ≤ p1 ∧ p1 ≤ 2147483647) {f_q : Int} (q_f_q : μ 106 1 = f_q) : sC (gG l D c H0 sa) mX12_cut 1 0 0 [.ref 106, iv p1] (mk w μ) (qI w [106001] μ (fun z μ1 => ∃ o_q : Int, μ1 106 1 = o_q ∧ ((-2147483648) ≤ z ∧ z ≤ 2147483647) ∧ (p1 < 0 ∨ f_q < p1 → z = -1 ∧ o_q = f_q) ∧ (0 ≤ p1 → p1 ≤ f_q → z = f_q ∧ o_q = p1) ∧ True)) := by
  refine sC.of rfl (by decide) (le_t rfl) ?_
  have ht_f_q : (0 ≤ f_q ∧ f_q ≤ 1000) := by rw [← q_f_q]; exact hT 106 106 (A_106 hw) 1
  refine mr_lvE (lv' := [(0, .ref 106), (1, iv p1)]) rfl ?_
  refine mr_iload_n (pc := 0) (z := p1) dX12_cut_0 rfl rfl ?_
  refine mr_if_lt (pc := 1) (tgt := 12) dX12_cut_1 (by decide) hp1 (fun h22 => ?_) (fun h22 => ?_)
  · have h23 : (-2147483648) ≤ p1 ∧ p1 ≤ (-1) := (vc_X12_ring_60 h22 hp1)
    refine mr_iconst (pc := 12) (z := (-1)) dX12_cut_12 ?_
    exact mr_iret dX12_cut_13 rfl (le_t rfl) (le_t rfl) hT mF.refl ⟨f_q, q_f_q, (rW (c := (-2147483648)) (d := 2147483647) (rR (x := (-1))) rfl), (vc_X11_cut_v_2 h22 ht_f_q h23), (vc_X11_cut_v_3 h22 ht_f_q h23), trivial⟩
  have h24 : 0 ≤ p1 ∧ p1 ≤ 2147483647 := (vc_X12_ring_1 h22 hp1)
  refine mr_iload_n (pc := 4) (z := p1) dX12_cut_4 rfl rfl ?_
  refine sv_aload_n (pc := 5) dX12_cut_5 rfl rfl ?_
  refine gk_X12_1 (pc := 6) dX12_cut_6 wF_X12_1 (A_106 hw) q_f_q ?_
  refine mr_icmp_le (pc := 9) (tgt := 14) dX12_cut_9 (by decide) (r32 h24 rfl) (r32 ht_f_q rfl) (fun h25 => ?_) (fun h25 => ?_)
  · have h26 : 0 ≤ p1 ∧ p1 ≤ 1000 := (vc_X11_cut_v_5 h25 h22 ht_f_q h24)
    refine sv_aload_n (pc := 14) dX12_cut_14 rfl rfl ?_
    refine gk_X12_1 (pc := 15) dX12_cut_15 wF_X12_1 (A_106 hw) q_f_q ?_
    refine mr_istore_n (pc := 18) (lv' := [(2, iv f_q), (0, .ref 106), (1, iv p1)]) dX12_cut_18 rfl (by decide) rfl ?_
    refine sv_aload_n (pc := 19) dX12_cut_19 rfl rfl ?_
    refine mr_iload_n (pc := 20) (z := p1) dX12_cut_20 rfl rfl ?_
    refine pf_X12_1 (pc := 21) dX12_cut_21 wF_X12_1 (A_106 hw) hT h26 fun μ27 u28 T29 => ?_
    refine mr_iload_n (pc := 24) (z := f_q) dX12_cut_24 rfl rfl ?_
    exact mr_iret dX12_cut_25 rfl (le_t rfl) (le_t rfl) T29 (mF.up mF.refl (A_106 hw) u28 rfl) ⟨p1, u28.1, (rW (c := (-2147483648)) (d := 2147483647) ht_f_q rfl), (vc_X11_cut_v_6 h22 h25 ht_f_q h26), (vc_X11_cut_v_7 h22 h25 ht_f_q h26), trivial⟩
  have h30 : 1 ≤ p1 ∧ p1 ≤ 2147483647 := (vc_X11_cut_v_8 h25 h22 ht_f_q h24)
  refine mr_iconst (pc := 12) (z := (-1)) dX12_cut_12 ?_
  exact mr_iret dX12_cut_13 rfl (le_t rfl) (le_t rfl) hT mF.refl ⟨f_q, q_f_q, (rW (c := (-2147483648)) (d := 2147483647) (rR (x := (-1))) rfl), (vc_X11_cut_v_9 h22 h25 ht_f_q h30), (vc_X11_cut_v_10 h22 h25 ht_f_q h30), trivial⟩
theorem vc_X10_tieBetween_v_2 {f_n n1 z461 : Int} (h0 : f_n = n1) (h1 : f_n ≤ z461) (h2 : 0 ≤ f_n ∧ f_n ≤ 20) (h3 : 0 ≤ z461 ∧ z461 ≤ 20) : (-1 : Int) < n1 := by omega
theorem vc_X10_tieBetween_v_3 {f_n n1 z461 : Int} (h0 : f_n = n1) (h1 : f_n ≤ z461) (h2 : 0 ≤ f_n ∧ f_n ≤ 20) (h3 : 0 ≤ z461 ∧ z461 ≤ 20) : f_n ≤ z461 := by omega
theorem vc_X10_tieBetween_v_4 {f_n n1 z461 : Int} (h0 : z461 < f_n) (h1 : f_n = n1) (h2 : 0 ≤ f_n ∧ f_n ≤ 20) (h3 : 0 ≤ z461 ∧ z461 ≤ 20) : 0 ≤ z461 ∧ z461 ≤ 19 := by omega
theorem vc_X10_tieBetween_v_5 {f_n n1 z461 : Int} (h0 : z461 < f_n) (h1 : f_n = n1) (h2 : 0 ≤ f_n ∧ f_n ≤ 20) (h3 : 0 ≤ z461 ∧ z461 ≤ 19) : 1 ≤ f_n ∧ f_n ≤ 20 := by omega
theorem vc_X10_tieBetween_v_6 {f_n n1 z461 : Int} (h0 : f_n = n1) (h1 : z461 < f_n) (h2 : 1 ≤ f_n ∧ f_n ≤ 20) (h3 : 0 ≤ z461 ∧ z461 ≤ 19) : z461 < n1 := by omega
theorem vc_X10_tieBetween_v_7 {N f_n n1 z461 : Int} (h0 : (21 - z461) < N + 1) (h1 : z461 < f_n) (h2 : f_n = n1) (h3 : 1 ≤ f_n ∧ f_n ≤ 20) (h4 : 0 ≤ z461 ∧ z461 ≤ 19) : (21 - (z461 + 1)) < N := by omega
theorem vc_X10_tieBetween_v_8 {f_n n1 z461 : Int} (h0 : z461 < f_n) (h1 : f_n = n1) (h2 : 1 ≤ f_n ∧ f_n ≤ 20) (h3 : 0 ≤ z461 ∧ z461 ≤ 19) : 0 ≤ z461 := by omega
theorem vc_X10_tieBetween_v_9 {n0 p1 p2 z476 : Int} (h0 : z476 < n0) (h1 : ¬ z476 = p1) (h2 : ¬ z476 = p2) (h3 : (-2147483648) ≤ p1 ∧ p1 ≤ 2147483647) (h4 : (-2147483648) ≤ p2 ∧ p2 ≤ 2147483647) (h5 : 0 ≤ z476 ∧ z476 ≤ 9) : ¬ z476 = p1 ∧ ¬ z476 = p2 := by omega
theorem vc_X10_tieBetween_v_11 {n0 p1 p2 z476 z483 : Int} (h0 : z476 < n0) (h1 : ¬ z476 = p1) (h2 : z476 = p2) (h3 : z483 < n0) (h4 : ¬ z483 = p1) (h5 : (-2147483648) ≤ p1 ∧ p1 ≤ 2147483647) (h6 : 0 ≤ p2 ∧ p2 ≤ 9) (h7 : 0 ≤ z476 ∧ z476 ≤ 9) (h8 : 0 ≤ z483 ∧ z483 ≤ 9) : ¬ ((z476 = p1 ∧ z483 = p2) ∨ (z476 = p2 ∧ z483 = p1)) := by omega
theorem vc_X10_tieBetween_v_13 {f_n n1 z461 : Int} (h0 : f_n = n1) (h1 : z461 < f_n) (h2 : 1 ≤ f_n ∧ f_n ≤ 20) (h3 : 0 ≤ z461 ∧ z461 ≤ 19) : 0 ≤ z461 ∧ z461 < f_n := by omega
theorem vc_X10_tieBetween_v_14 {n0 p1 p2 z476 z483 : Int} (h0 : z476 < n0) (h1 : ¬ z476 = p1) (h2 : z476 = p2) (h3 : z483 < n0) (h4 : z483 = p1) (h5 : 0 ≤ p1 ∧ p1 ≤ 9) (h6 : 0 ≤ p2 ∧ p2 ≤ 9) (h7 : 0 ≤ z476 ∧ z476 ≤ 9) (h8 : 0 ≤ z483 ∧ z483 ≤ 9) : (z476 = p1 ∧ z483 = p2) ∨ (z476 = p2 ∧ z483 = p1) := by omega
theorem vc_X10_tieBetween_v_17 {n0 p1 p2 z476 z490 : Int} (h0 : z476 < n0) (h1 : z476 = p1) (h2 : z490 < n0) (h3 : z490 = p2) (h4 : 0 ≤ p1 ∧ p1 ≤ 9) (h5 : 0 ≤ p2 ∧ p2 ≤ 9) (h6 : 0 ≤ z476 ∧ z476 ≤ 9) (h7 : 0 ≤ z490 ∧ z490 ≤ 9) : (z476 = p1 ∧ z490 = p2) ∨ (z476 = p2 ∧ z490 = p1) := by omega
theorem vc_X10_tieBetween_v_18 {n0 p1 p2 z476 z490 : Int} (h0 : z476 < n0) (h1 : z476 = p1) (h2 : z490 < n0) (h3 : ¬ z490 = p2) (h4 : ¬ z476 = p2) (h5 : 0 ≤ p1 ∧ p1 ≤ 9) (h6 : (-2147483648) ≤ p2 ∧ p2 ≤ 2147483647) (h7 : 0 ≤ z476 ∧ z476 ≤ 9) (h8 : 0 ≤ z490 ∧ z490 ≤ 9) : ¬ ((z476 = p1 ∧ z490 = p2) ∨ (z476 = p2 ∧ z490 = p1)) := by omega
theorem vc_X10_tieBetween_v_20 {n0 p1 p2 z476 z490 : Int} (h0 : z476 < n0) (h1 : z476 = p1) (h2 : z490 < n0) (h3 : ¬ z490 = p2) (h4 : z476 = p2) (h5 : ¬ z490 = p1) (h6 : 0 ≤ p1 ∧ p1 ≤ 9) (h7 : 0 ≤ p2 ∧ p2 ≤ 9) (h8 : 0 ≤ z476 ∧ z476 ≤ 9) (h9 : 0 ≤ z490 ∧ z490 ≤ 9) : ¬ ((z476 = p1 ∧ z490 = p2) ∨ (z476 = p2 ∧ z490 = p1)) := by omega
theorem vc_X10_tieBetween_v_21 {n0 p1 p2 z476 z490 : Int} (h0 : z476 < n0) (h1 : z476 = p1) (h2 : z490 < n0) (h3 : ¬ z490 = p2) (h4 : z476 = p2) (h5 : z490 = p1) (h6 : 0 ≤ p1 ∧ p1 ≤ 9) (h7 : 0 ≤ p2 ∧ p2 ≤ 9) (h8 : 0 ≤ z476 ∧ z476 ≤ 9) (h9 : 0 ≤ z490 ∧ z490 ≤ 9) : (z476 = p1 ∧ z490 = p2) ∨ (z476 = p2 ∧ z490 = p1) := by omega
theorem vc_X10_tieBetween_v_23  : ((0 : Int) : Int) ≤ (0 : Int) := by omega
set_option maxRecDepth 4000 in
set_option maxHeartbeats 4000000 in
theorem c_X10_tieBetween_v {l : Launch} {D : va_G} {c : Nat → ClassId} {H0 : Heap} {sa : Nat × Nat × (Nat → Int32)} {w : mW} {μ : mM} (hw : mWF w) (hT : mT w μ) {p1 : Int} (hp1 : (-2147483648) ≤ p1 ∧ p1 ≤ 2147483647) {p2 : Int} (hp2 : (-2147483648) ≤ p2 ∧ p2 ≤ 2147483647) {f_n : Int} (q_f_n : μ 6 16 = f_n) : sC (gG l D c H0 sa) mX10_tieBetween 1 0 0 [.ref 6, iv p1, iv p2] (mk w μ) (qP w μ (fun z => ((-1) ≤ z ∧ z ≤ 19) ∧ (z < w.2.2.2 1) ∧ (fndQ (tc μ 0) (tc μ 1) f_n p1 p2 (-1) z) ∧ True)) := by
  refine sC.of rfl (by decide) (le_t rfl) ?_
  have ht_f_n : (f_n = w.2.2.2 1 ∧ 0 ≤ f_n ∧ f_n ≤ 20) := by rw [← q_f_n]; exact hT 6 6 (A_6 hw) 16
  refine mr_lvE (lv' := [(0, .ref 6), (1, iv p1), (2, iv p2)]) rfl ?_
  refine mr_iconst (pc := 0) (z := 0) dX10_tieBetween_0 ?_
  refine mr_istore_n (pc := 1) (lv' := [(3, iv 0), (0, .ref 6), (1, iv p1), (2, iv p2)]) dX10_tieBetween_1 rfl (by decide) rfl ?_
  have L462 : ∀ (nL462 : Nat) (z461 : Int), True → (0 ≤ z461 ∧ z461 ≤ 20) → noneQ (tc μ 0) (tc μ 1) z461 p1 p2 → (21 - z461) < (nL462 : Int) → sV (gG l D c H0 sa) mX10_tieBetween (sRm 1 0 0) (sZ (gG l D c H0 sa) 0 0 (qP w μ (fun z => ((-1) ≤ z ∧ z ≤ 19) ∧ (z < w.2.2.2 1) ∧ (fndQ (tc μ 0) (tc μ 1) f_n p1 p2 (-1) z) ∧ True))) 2 [(0, .ref 6), (1, iv p1), (2, iv p2), (3, iv z461)] [] (mk w μ) 0 0 := by
    intro nL462
    induction nL462 with
    | zero => intro z461 _ h463 R467 h468; exact ((vc_X12_tieOf_1 h468 h463)).elim
    | succ nL462 ih469 =>
      intro z461 _ h463 R467 h468
      refine mr_iload_n (pc := 2) (z := z461) dX10_tieBetween_2 rfl rfl ?_
      refine sv_aload_n (pc := 3) dX10_tieBetween_3 rfl rfl ?_
      refine gk_X10_16 (pc := 4) dX10_tieBetween_4 wF_X10_72 (A_6 hw) q_f_n ?_
      refine mr_icmp_ge (pc := 7) (tgt := 62) dX10_tieBetween_7 (by decide) (r32 h463 rfl) (r32 ht_f_n.2 rfl) (fun h470 => ?_) (fun h470 => ?_)
      · refine mr_iconst (pc := 62) (z := (-1)) dX10_tieBetween_62 ?_
        exact mr_iretP dX10_tieBetween_63 rfl (le_t rfl) (le_t rfl) ⟨(rW (c := (-1)) (d := 19) (rR (x := (-1))) rfl), (vc_X10_tieBetween_v_2 ht_f_n.1 h470 ht_f_n.2 h463), (fndQ.miss R467 (vc_X10_tieBetween_v_3 ht_f_n.1 h470 ht_f_n.2 h463)), trivial⟩
      have h471 : 0 ≤ z461 ∧ z461 ≤ 19 := (vc_X10_tieBetween_v_4 h470 ht_f_n.1 ht_f_n.2 h463)
      have h472 : 1 ≤ f_n ∧ f_n ≤ 20 := (vc_X10_tieBetween_v_5 h470 ht_f_n.1 ht_f_n.2 h471)
      refine sv_aload_n (pc := 10) dX10_tieBetween_10 rfl rfl ?_
      refine gf_X10_4 (pc := 11) dX10_tieBetween_11 wF_X10_29 (A_6 hw) hT ?_
      refine mr_iload_n (pc := 14) (z := z461) dX10_tieBetween_14 rfl rfl ?_
      refine la_11 (pc := 15) dX10_tieBetween_15 (A_11 hw) hT (rIx (n := 20) h471 rfl) (vc_X10_tieBetween_v_6 ht_f_n.1 h470 h472 h471) fun b473 q474 A475 => ?_
      refine mr_astore (pc := 16) (lv' := [(4, .ref b473), (0, .ref 6), (1, iv p1), (2, iv p2), (3, iv z461)]) dX10_tieBetween_16 (by decide) rfl ?_
      refine sv_aload (pc := 18) dX10_tieBetween_18 rfl ?_
      refine gf_X9_0 (pc := 20) dX10_tieBetween_20 wF_X10_78 A475 hT fun z476 q477 h478 => ?_
      have h479 : 0 ≤ z476 ∧ z476 ≤ 9 := ⟨h478.1, h478.2.1⟩
      refine mr_iload_n (pc := 23) (z := p1) dX10_tieBetween_23 rfl rfl ?_
      refine mr_icmp_ne (pc := 24) (tgt := 36) dX10_tieBetween_24 (by decide) (r32 h479 rfl) hp1 (fun h480 => ?_) (fun h480 => ?_)
      · refine sv_aload (pc := 36) dX10_tieBetween_36 rfl ?_
        refine gk_X9_0 (pc := 38) dX10_tieBetween_38 wF_X10_78 A475 q477 ?_
        refine mr_iload_n (pc := 41) (z := p2) dX10_tieBetween_41 rfl rfl ?_
        refine mr_icmp_ne (pc := 42) (tgt := 56) dX10_tieBetween_42 (by decide) (r32 h479 rfl) hp2 (fun h481 => ?_) (fun h481 => ?_)
        · refine mr_iinc (pc := 56) (lv' := [(3, iv (z461 + 1)), (4, .ref b473), (0, .ref 6), (1, iv p1), (2, iv p2)]) dX10_tieBetween_56 rfl (by decide) rfl ?_
          refine sv_goto (pc := 59) (tgt := 2) dX10_tieBetween_59 (by decide) ?_
          refine mr_lvS (lv' := [(0, .ref 6), (1, iv p1), (2, iv p2), (3, iv (z461 + 1))]) (List.forall_mem_cons.mpr ⟨rfl, List.forall_mem_cons.mpr ⟨rfl, List.forall_mem_cons.mpr ⟨rfl, List.forall_mem_cons.mpr ⟨rfl, fun _ h => absurd h List.not_mem_nil⟩⟩⟩⟩) ?_
          exact ih469 (z461 + 1) trivial (rW (c := 0) (d := 20) (rAdd (e := 1) (f := 20) h471 (rR (x := 1)) rfl) rfl) (noneQ.succ1 R467 (vc_X10_tieBetween_v_8 h470 ht_f_n.1 h472 h471) (tcOf q474 q477) (vc_X10_tieBetween_v_9 h478.2.2 h480 h481 hp1 hp2 h479)) (vc_X10_tieBetween_v_7 (nS h468) h470 ht_f_n.1 h472 h471)
        have h482 : 0 ≤ p2 ∧ p2 ≤ 9 := (vc_X10_tieBetween_7 h481 h478.2.2 h480 hp1 hp2 h479)
        refine sv_aload (pc := 45) dX10_tieBetween_45 rfl ?_
        refine gf_X9_1 (pc := 47) dX10_tieBetween_47 wF_X10_81 A475 hT fun z483 q484 h485 => ?_
        have h486 : 0 ≤ z483 ∧ z483 ≤ 9 := ⟨h485.1, h485.2.1⟩
        refine mr_iload_n (pc := 50) (z := p1) dX10_tieBetween_50 rfl rfl ?_
        refine mr_icmp_ne (pc := 51) (tgt := 56) dX10_tieBetween_51 (by decide) (r32 h486 rfl) hp1 (fun h487 => ?_) (fun h487 => ?_)
        · refine mr_iinc (pc := 56) (lv' := [(3, iv (z461 + 1)), (4, .ref b473), (0, .ref 6), (1, iv p1), (2, iv p2)]) dX10_tieBetween_56 rfl (by decide) rfl ?_
          refine sv_goto (pc := 59) (tgt := 2) dX10_tieBetween_59 (by decide) ?_
          refine mr_lvS (lv' := [(0, .ref 6), (1, iv p1), (2, iv p2), (3, iv (z461 + 1))]) (List.forall_mem_cons.mpr ⟨rfl, List.forall_mem_cons.mpr ⟨rfl, List.forall_mem_cons.mpr ⟨rfl, List.forall_mem_cons.mpr ⟨rfl, fun _ h => absurd h List.not_mem_nil⟩⟩⟩⟩) ?_
          exact ih469 (z461 + 1) trivial (rW (c := 0) (d := 20) (rAdd (e := 1) (f := 20) h471 (rR (x := 1)) rfl) rfl) (noneQ.succ R467 (vc_X10_tieBetween_v_8 h470 ht_f_n.1 h472 h471) (tcOf q474 q477) (tcOf q474 q484) (vc_X10_tieBetween_v_11 h478.2.2 h480 h481 h485.2.2 h487 hp1 h482 h479 h486)) (vc_X10_tieBetween_v_7 (nS h468) h470 ht_f_n.1 h472 h471)
        have h488 : 0 ≤ p1 ∧ p1 ≤ 9 := (vc_X10_tieBetween_8 h487 h480 h485.2.2 hp1 h479 h486)
        refine mr_iload_n (pc := 54) (z := z461) dX10_tieBetween_54 rfl rfl ?_
        exact mr_iretP dX10_tieBetween_55 rfl (le_t rfl) (le_t rfl) ⟨(rW (c := (-1)) (d := 19) h471 rfl), (vc_X10_tieBetween_v_6 ht_f_n.1 h470 h472 h471), (fndQ.hit (vc_X10_tieBetween_v_13 ht_f_n.1 h470 h472 h471) (tcOf q474 q477) (tcOf q474 q484) (vc_X10_tieBetween_v_14 h478.2.2 h480 h481 h485.2.2 h487 h488 h482 h479 h486) R467), trivial⟩
      have h489 : 0 ≤ p1 ∧ p1 ≤ 9 := (vc_X10_tieBetween_9 h480 h478.2.2 hp1 h479)
      refine sv_aload (pc := 27) dX10_tieBetween_27 rfl ?_
      refine gf_X9_1 (pc := 29) dX10_tieBetween_29 wF_X10_81 A475 hT fun z490 q491 h492 => ?_
      have h493 : 0 ≤ z490 ∧ z490 ≤ 9 := ⟨h492.1, h492.2.1⟩
      refine mr_iload_n (pc := 32) (z := p2) dX10_tieBetween_32 rfl rfl ?_
      refine mr_icmp_eq (pc := 33) (tgt := 54) dX10_tieBetween_33 (by decide) (r32 h493 rfl) hp2 (fun h494 => ?_) (fun h494 => ?_)
      · have h495 : 0 ≤ p2 ∧ p2 ≤ 9 := (vc_X10_tieBetween_9 h494 h492.2.2 hp2 h493)
        refine mr_iload_n (pc := 54) (z := z461) dX10_tieBetween_54 rfl rfl ?_
        exact mr_iretP dX10_tieBetween_55 rfl (le_t rfl) (le_t rfl) ⟨(rW (c := (-1)) (d := 19) h471 rfl), (vc_X10_tieBetween_v_6 ht_f_n.1 h470 h472 h471), (fndQ.hit (vc_X10_tieBetween_v_13 ht_f_n.1 h470 h472 h471) (tcOf q474 q477) (tcOf q474 q491) (vc_X10_tieBetween_v_17 h478.2.2 h480 h492.2.2 h494 h489 h495 h479 h493) R467), trivial⟩
      refine sv_aload (pc := 36) dX10_tieBetween_36 rfl ?_
      refine gk_X9_0 (pc := 38) dX10_tieBetween_38 wF_X10_78 A475 q477 ?_
      refine mr_iload_n (pc := 41) (z := p2) dX10_tieBetween_41 rfl rfl ?_
      refine mr_icmp_ne (pc := 42) (tgt := 56) dX10_tieBetween_42 (by decide) (r32 h479 rfl) hp2 (fun h496 => ?_) (fun h496 => ?_)
      · refine mr_iinc (pc := 56) (lv' := [(3, iv (z461 + 1)), (4, .ref b473), (0, .ref 6), (1, iv p1), (2, iv p2)]) dX10_tieBetween_56 rfl (by decide) rfl ?_
        refine sv_goto (pc := 59) (tgt := 2) dX10_tieBetween_59 (by decide) ?_
        refine mr_lvS (lv' := [(0, .ref 6), (1, iv p1), (2, iv p2), (3, iv (z461 + 1))]) (List.forall_mem_cons.mpr ⟨rfl, List.forall_mem_cons.mpr ⟨rfl, List.forall_mem_cons.mpr ⟨rfl, List.forall_mem_cons.mpr ⟨rfl, fun _ h => absurd h List.not_mem_nil⟩⟩⟩⟩) ?_
        exact ih469 (z461 + 1) trivial (rW (c := 0) (d := 20) (rAdd (e := 1) (f := 20) h471 (rR (x := 1)) rfl) rfl) (noneQ.succ R467 (vc_X10_tieBetween_v_8 h470 ht_f_n.1 h472 h471) (tcOf q474 q477) (tcOf q474 q491) (vc_X10_tieBetween_v_18 h478.2.2 h480 h492.2.2 h494 h496 h489 hp2 h479 h493)) (vc_X10_tieBetween_v_7 (nS h468) h470 ht_f_n.1 h472 h471)
      have h497 : 0 ≤ p2 ∧ p2 ≤ 9 := (vc_X10_tieBetween_11 h496 h478.2.2 h480 h494 h489 hp2 h479 h493)
      refine sv_aload (pc := 45) dX10_tieBetween_45 rfl ?_
      refine gk_X9_1 (pc := 47) dX10_tieBetween_47 wF_X10_81 A475 q491 ?_
      refine mr_iload_n (pc := 50) (z := p1) dX10_tieBetween_50 rfl rfl ?_
      refine mr_icmp_ne (pc := 51) (tgt := 56) dX10_tieBetween_51 (by decide) (r32 h493 rfl) (r32 h489 rfl) (fun h498 => ?_) (fun h498 => ?_)
      · refine mr_iinc (pc := 56) (lv' := [(3, iv (z461 + 1)), (4, .ref b473), (0, .ref 6), (1, iv p1), (2, iv p2)]) dX10_tieBetween_56 rfl (by decide) rfl ?_
        refine sv_goto (pc := 59) (tgt := 2) dX10_tieBetween_59 (by decide) ?_
        refine mr_lvS (lv' := [(0, .ref 6), (1, iv p1), (2, iv p2), (3, iv (z461 + 1))]) (List.forall_mem_cons.mpr ⟨rfl, List.forall_mem_cons.mpr ⟨rfl, List.forall_mem_cons.mpr ⟨rfl, List.forall_mem_cons.mpr ⟨rfl, fun _ h => absurd h List.not_mem_nil⟩⟩⟩⟩) ?_
        exact ih469 (z461 + 1) trivial (rW (c := 0) (d := 20) (rAdd (e := 1) (f := 20) h471 (rR (x := 1)) rfl) rfl) (noneQ.succ R467 (vc_X10_tieBetween_v_8 h470 ht_f_n.1 h472 h471) (tcOf q474 q477) (tcOf q474 q491) (vc_X10_tieBetween_v_20 h478.2.2 h480 h492.2.2 h494 h496 h498 h489 h497 h479 h493)) (vc_X10_tieBetween_v_7 (nS h468) h470 ht_f_n.1 h472 h471)
      refine mr_iload_n (pc := 54) (z := z461) dX10_tieBetween_54 rfl rfl ?_
      exact mr_iretP dX10_tieBetween_55 rfl (le_t rfl) (le_t rfl) ⟨(rW (c := (-1)) (d := 19) h471 rfl), (vc_X10_tieBetween_v_6 ht_f_n.1 h470 h472 h471), (fndQ.hit (vc_X10_tieBetween_v_13 ht_f_n.1 h470 h472 h471) (tcOf q474 q477) (tcOf q474 q491) (vc_X10_tieBetween_v_21 h478.2.2 h480 h492.2.2 h494 h496 h498 h489 h497 h479 h493) R467), trivial⟩
  refine mr_lvS (lv' := [(0, .ref 6), (1, iv p1), (2, iv p2), (3, iv 0)]) (List.forall_mem_cons.mpr ⟨rfl, List.forall_mem_cons.mpr ⟨rfl, List.forall_mem_cons.mpr ⟨rfl, List.forall_mem_cons.mpr ⟨rfl, fun _ h => absurd h List.not_mem_nil⟩⟩⟩⟩) ?_
  exact L462 22 0 trivial (rW (c := 0) (d := 20) (rR (x := 0)) rfl) (noneQ.zero vc_X10_tieBetween_v_23) vc_X12_tieOf_12
theorem vc_X11_feedNumber_v_1 {f_t0 : Int} (h0 : f_t0 ≤ 996) (h1 : 0 ≤ f_t0 ∧ f_t0 ≤ 1000) : 0 ≤ f_t0 ∧ f_t0 ≤ 996 := by omega
theorem vc_X11_feedNumber_v_2 {f_t f_t0 z328 : Int} (h0 : (z328 - (-9)) < ((0 : Nat) : Int)) (h1 : 8 * f_t + z328 = 8 * f_t0 + 24) (h2 : f_t0 ≤ 996) (h3 : f_t0 ≤ f_t) (h4 : 0 ≤ f_t0 ∧ f_t0 ≤ 996) (h5 : (-8) ≤ z328 ∧ z328 ≤ 24) : False := by omega
theorem vc_X11_feedNumber_v_3 {f_t f_t0 z328 : Int} (h0 : z328 < 0) (h1 : 8 * f_t + z328 = 8 * f_t0 + 24) (h2 : 0 ≤ f_t ∧ f_t ≤ 1000) (h3 : 0 ≤ f_t0 ∧ f_t0 ≤ 996) (h4 : (-8) ≤ z328 ∧ z328 ≤ 24) : (-8) ≤ z328 ∧ z328 ≤ (-1) := by omega
theorem vc_X11_feedNumber_v_4 {f_t f_t0 z328 : Int} (h0 : f_t0 ≤ 996) (h1 : 8 * f_t + z328 = 8 * f_t0 + 24) (h2 : f_t0 ≤ f_t) (h3 : z328 < 0) (h4 : 0 ≤ f_t ∧ f_t ≤ 1000) (h5 : 0 ≤ f_t0 ∧ f_t0 ≤ 996) (h6 : (-8) ≤ z328 ∧ z328 ≤ (-1)) : f_t = f_t0 + 4 := by omega
theorem vc_X11_feedNumber_v_5 {f_t f_t0 z328 : Int} (h0 : f_t0 ≤ 996) (h1 : 8 * f_t + z328 = 8 * f_t0 + 24) (h2 : f_t0 ≤ f_t) (h3 : z328 < 0) (h4 : 0 ≤ f_t ∧ f_t ≤ 1000) (h5 : 0 ≤ f_t0 ∧ f_t0 ≤ 996) (h6 : (-8) ≤ z328 ∧ z328 ≤ (-1)) : f_t0 + 4 = f_t := by omega
theorem vc_X11_feedNumber_v_6 {f_t f_t0 z328 : Int} (h0 : 0 ≤ z328) (h1 : 8 * f_t + z328 = 8 * f_t0 + 24) (h2 : 0 ≤ f_t ∧ f_t ≤ 1000) (h3 : 0 ≤ f_t0 ∧ f_t0 ≤ 996) (h4 : (-8) ≤ z328 ∧ z328 ≤ 24) : 0 ≤ z328 ∧ z328 ≤ 24 := by omega
theorem vc_X11_feedNumber_v_7 {f_t f_t0 z328 : Int} (h0 : 8 * f_t + z328 = 8 * f_t0 + 24) (h1 : f_t0 ≤ f_t) (h2 : f_t0 ≤ 996) (h3 : 0 ≤ z328) (h4 : 0 ≤ f_t ∧ f_t ≤ 1000) (h5 : 0 ≤ f_t0 ∧ f_t0 ≤ 996) (h6 : 0 ≤ z328 ∧ z328 ≤ 24) : 0 ≤ f_t ∧ f_t < 1000 := by omega
theorem vc_X11_feedNumber_v_8 {f_t f_t0 z328 : Int} (h0 : 8 * f_t + z328 = 8 * f_t0 + 24) (h1 : f_t0 ≤ f_t) (h2 : f_t0 ≤ 996) (h3 : 0 ≤ z328) (h4 : 0 ≤ f_t ∧ f_t ≤ 1000) (h5 : 0 ≤ f_t0 ∧ f_t0 ≤ 996) (h6 : 0 ≤ z328 ∧ z328 ≤ 24) : 0 ≤ (f_t + 1) ∧ (f_t + 1) ≤ 1000 := by omega
theorem vc_X11_feedNumber_v_9 {f_t f_t0 z328 : Int} (h0 : f_t0 ≤ 996) (h1 : 8 * f_t + z328 = 8 * f_t0 + 24) (h2 : f_t0 ≤ f_t) (h3 : 0 ≤ z328) (h4 : 0 ≤ f_t ∧ f_t ≤ 1000) (h5 : 0 ≤ f_t0 ∧ f_t0 ≤ 996) (h6 : 0 ≤ z328 ∧ z328 ≤ 24) : 8 * (f_t + 1) + (z328 + (-8)) = 8 * f_t0 + 24 := by omega
theorem vc_X11_feedNumber_v_10 {f_t f_t0 z328 : Int} (h0 : f_t0 ≤ 996) (h1 : 8 * f_t + z328 = 8 * f_t0 + 24) (h2 : f_t0 ≤ f_t) (h3 : 0 ≤ z328) (h4 : 0 ≤ f_t ∧ f_t ≤ 1000) (h5 : 0 ≤ f_t0 ∧ f_t0 ≤ 996) (h6 : 0 ≤ z328 ∧ z328 ≤ 24) : f_t0 ≤ (f_t + 1) := by omega
theorem vc_X11_feedNumber_v_11 {N f_t f_t0 z328 : Int} (h0 : (z328 - (-9)) < N + 1) (h1 : 8 * f_t + z328 = 8 * f_t0 + 24) (h2 : 0 ≤ z328) (h3 : f_t0 ≤ 996) (h4 : f_t0 ≤ f_t) (h5 : 0 ≤ f_t ∧ f_t ≤ 1000) (h6 : 0 ≤ f_t0 ∧ f_t0 ≤ 996) (h7 : 0 ≤ z328 ∧ z328 ≤ 24) : ((z328 + (-8)) - (-9)) < N := by omega
theorem vc_X11_feedNumber_v_12 {f_t f_t0 z328 : Int} (h0 : f_t0 ≤ 996) (h1 : 8 * f_t + z328 = 8 * f_t0 + 24) (h2 : f_t0 ≤ f_t) (h3 : 0 ≤ z328) (h4 : 0 ≤ f_t ∧ f_t ≤ 1000) (h5 : 0 ≤ f_t0 ∧ f_t0 ≤ 996) (h6 : 0 ≤ z328 ∧ z328 ≤ 24) : 0 ≤ f_t0 ∧ f_t0 ≤ f_t := by omega
theorem vc_X11_feedNumber_v_13 {f_t f_t0 z328 : Int} (h0 : f_t0 ≤ 996) (h1 : 8 * f_t + z328 = 8 * f_t0 + 24) (h2 : f_t0 ≤ f_t) (h3 : 0 ≤ z328) (h4 : 0 ≤ f_t ∧ f_t ≤ 1000) (h5 : 0 ≤ f_t0 ∧ f_t0 ≤ 996) (h6 : 0 ≤ z328 ∧ z328 ≤ 24) : z328 = 24 - 8 * (f_t - f_t0) := by omega
theorem vc_X11_feedNumber_v_14 {f_t f_t0 z328 : Int} (h0 : 8 * f_t + z328 = 8 * f_t0 + 24) (h1 : f_t0 ≤ f_t) (h2 : f_t0 ≤ 996) (h3 : 0 ≤ z328) (h4 : 0 ≤ f_t ∧ f_t ≤ 1000) (h5 : 0 ≤ f_t0 ∧ f_t0 ≤ 996) (h6 : 0 ≤ z328 ∧ z328 ≤ 24) : (f_t + 1) = f_t + 1 := by omega
theorem vc_X11_feedNumber_v_15 {f_t0 : Int} (h0 : f_t0 ≤ 996) (h1 : 0 ≤ f_t0 ∧ f_t0 ≤ 996) : 8 * f_t0 + (24 : Int) = 8 * f_t0 + 24 := by omega
theorem vc_X11_feedNumber_v_16 {f_t0 : Int} (h0 : f_t0 ≤ 996) (h1 : 0 ≤ f_t0 ∧ f_t0 ≤ 996) : f_t0 ≤ f_t0 := by omega
set_option maxRecDepth 4000 in
set_option maxHeartbeats 4000000 in
theorem c_X11_feedNumber_v {l : Launch} {D : va_G} {c : Nat → ClassId} {H0 : Heap} {sa : Nat × Nat × (Nat → Int32)} {w : mW} {μ : mM} (hw : mWF w) (hT : mT w μ) {p1 : Int} (hp1 : (-2147483648) ≤ p1 ∧ p1 ≤ 2147483647) {f_t0 : Int} (q_f_t0 : μ 0 10 = f_t0) (hq0 : f_t0 ≤ 996) : sC (gG l D c H0 sa) mX11_feedNumber 1 0 0 [.ref 0, iv p1] (mk w μ) (qV w [10, 1999] μ (fun μ1 => ∃ o_t : Int, μ1 0 10 = o_t ∧ (o_t = f_t0 + 4) ∧ (fdN μ μ1 f_t0 (f_t0 + 4) p1) ∧ True)) := by
  refine sC.of rfl (by decide) (le_t rfl) ?_
  have ht_f_t0 : (0 ≤ f_t0 ∧ f_t0 ≤ 1000) := by rw [← q_f_t0]; exact hT 0 0 (A_0 hw) 10
  have h1 : 0 ≤ f_t0 ∧ f_t0 ≤ 996 := (vc_X11_feedNumber_v_1 hq0 ht_f_t0)
  refine mr_lvE (lv' := [(0, .ref 0), (1, iv p1)]) rfl ?_
  refine mr_bipush (pc := 0) (z := 24) dX11_feedNumber_0 (by decide) ?_
  refine mr_istore_n (pc := 2) (lv' := [(2, iv 24), (0, .ref 0), (1, iv p1)]) dX11_feedNumber_2 rfl (by decide) rfl ?_
  have L330 : ∀ (nL330 : Nat) (z328 : Int) (μ329 : mM) (f_t : Int), mT w μ329 → mF [10, 1999] w μ μ329 → μ329 0 (10) = f_t → ((-8) ≤ z328 ∧ z328 ≤ 24) → (8 * f_t + z328 = 8 * f_t0 + 24) → (f_t0 ≤ f_t) → fdN μ μ329 f_t0 f_t p1 → (z328 - (-9)) < (nL330 : Int) → sV (gG l D c H0 sa) mX11_feedNumber (sRm 1 0 0) (sZ (gG l D c H0 sa) 0 0 (qV w [10, 1999] μ (fun μ1 => ∃ o_t : Int, μ1 0 10 = o_t ∧ (o_t = f_t0 + 4) ∧ (fdN μ μ1 f_t0 (f_t0 + 4) p1) ∧ True))) 3 [(0, .ref 0), (1, iv p1), (2, iv z328)] [] (mk w μ329) 0 0 := by
    intro nL330
    induction nL330 with
    | zero => intro z328 μ329 f_t T332 F333 q339 h331 h335 h336 R337 h338; exact ((vc_X11_feedNumber_v_2 h338 h335 hq0 h336 h1 h331)).elim
    | succ nL330 ih340 =>
      intro z328 μ329 f_t T332 F333 q339 h331 h335 h336 R337 h338
      have h341 : (0 ≤ f_t ∧ f_t ≤ 1000) := by rw [← q339]; exact T332 0 0 (A_0 hw) (10)
      refine mr_iload_n (pc := 3) (z := z328) dX11_feedNumber_3 rfl rfl ?_
      refine mr_if_lt (pc := 4) (tgt := 39) dX11_feedNumber_4 (by decide) (r32 h331 rfl) (fun h356 => ?_) (fun h356 => ?_)
      · have h357 : (-8) ≤ z328 ∧ z328 ≤ (-1) := (vc_X11_feedNumber_v_3 h356 h335 h341 h1 h331)
        exact mr_vret dX11_feedNumber_39 rfl (le_t rfl) (le_t rfl) T332 (mF.call mF.refl F333 rfl) ⟨f_t, q339, (vc_X11_feedNumber_v_4 hq0 h335 h336 h356 h341 h1 h357), (fdN.fin R337 (vc_X11_feedNumber_v_5 hq0 h335 h336 h356 h341 h1 h357)), trivial⟩
      have h358 : 0 ≤ z328 ∧ z328 ≤ 24 := (vc_X11_feedNumber_v_6 h356 h335 h341 h1 h331)
      refine sv_aload_n (pc := 7) dX11_feedNumber_7 rfl rfl ?_
      refine gf_X11_0 (pc := 8) dX11_feedNumber_8 wF_X11_9 (A_0 hw) T332 ?_
      refine sv_aload_n (pc := 11) dX11_feedNumber_11 rfl rfl ?_
      refine gk_X11_10 (pc := 12) dX11_feedNumber_12 wF_X11_76 (A_0 hw) q339 ?_
      refine mr_iload_n (pc := 15) (z := p1) dX11_feedNumber_15 rfl rfl ?_
      refine mr_iload_n (pc := 16) (z := z328) dX11_feedNumber_16 rfl rfl ?_
      refine mr_iushr (pc := 17) (x := p1) (y := z328) dX11_feedNumber_17 ?_
      refine mr_gen (P := fun z => (-2147483648) ≤ z ∧ z ≤ 2147483647) (r32i _) fun z359 q360 h361 => ?_
      refine mr_sipush (pc := 18) (z := 255) dX11_feedNumber_18 (by decide) ?_
      refine mr_iand (pc := 21) (x := z359) (y := 255) dX11_feedNumber_21 ?_
      refine mr_gen (P := fun z => 0 ≤ z ∧ z ≤ 255) (rAndR (rR (x := 255)) rfl) fun z362 q363 h364 => ?_
      refine ss_1 (pc := 22) dX11_feedNumber_22 (A_1 hw) T332 (vc_X11_feedNumber_v_7 h335 h336 hq0 h356 h341 h1 h358) h364 fun μ365 u366 T367 => ?_
      refine sv_aload_n (pc := 23) dX11_feedNumber_23 rfl rfl ?_
      refine sv_dup (pc := 24) dX11_feedNumber_24 rfl ?_
      refine gk_X11_10 (pc := 25) dX11_feedNumber_25 wF_X11_76 (A_0 hw) (u366.f (Or.inl (mAt.ne (A_1 hw) (A_0 hw) rfl)) q339) ?_
      refine mr_iconst (pc := 28) (z := 1) dX11_feedNumber_28 ?_
      refine mr_iadd (pc := 29) (x := f_t) (y := 1) dX11_feedNumber_29 ?_
      refine pf_X11_10 (pc := 30) dX11_feedNumber_30 wF_X11_76 (A_0 hw) T367 (vc_X11_feedNumber_v_8 h335 h336 hq0 h356 h341 h1 h358) fun μ368 u369 T370 => ?_
      refine mr_iinc (pc := 33) (lv' := [(2, iv (z328 + (-8))), (0, .ref 0), (1, iv p1)]) dX11_feedNumber_33 rfl (by decide) rfl ?_
      refine sv_goto (pc := 36) (tgt := 3) dX11_feedNumber_36 (by decide) ?_
      refine mr_lvS (lv' := [(0, .ref 0), (1, iv p1), (2, iv (z328 + (-8)))]) (List.forall_mem_cons.mpr ⟨rfl, List.forall_mem_cons.mpr ⟨rfl, List.forall_mem_cons.mpr ⟨rfl, fun _ h => absurd h List.not_mem_nil⟩⟩⟩) ?_
      exact ih340 (z328 + (-8)) μ368 (f_t + 1) T370 (mF.up (mF.up (mF.call mF.refl F333 rfl) (A_1 hw) u366 rfl) (A_0 hw) u369 rfl) u369.1 (rW (c := (-8)) (d := 24) (rAdd (e := (-8)) (f := 16) h358 (rR (x := (-8))) rfl) rfl) (vc_X11_feedNumber_v_9 hq0 h335 h336 h356 h341 h1 h358) (vc_X11_feedNumber_v_10 hq0 h335 h336 h356 h341 h1 h358) (fdN.next R337 (vc_X11_feedNumber_v_12 hq0 h335 h336 h356 h341 h1 h358) q360 q363 (vc_X11_feedNumber_v_13 hq0 h335 h336 h356 h341 h1 h358) u366 (rowB (A_1 hw) ((mF.up mF.refl (A_0 hw) u369 rfl) : mF [10] w μ365 μ368) rfl rfl) (vc_X11_feedNumber_v_14 h335 h336 hq0 h356 h341 h1 h358)) (vc_X11_feedNumber_v_11 (nS h338) h335 h356 hq0 h336 h341 h1 h358)
  refine mr_lvS (lv' := [(0, .ref 0), (1, iv p1), (2, iv 24)]) (List.forall_mem_cons.mpr ⟨rfl, List.forall_mem_cons.mpr ⟨rfl, List.forall_mem_cons.mpr ⟨rfl, fun _ h => absurd h List.not_mem_nil⟩⟩⟩) ?_
  exact L330 34 24 μ f_t0 hT mF.refl q_f_t0 (rW (c := (-8)) (d := 24) (rR (x := 24)) rfl) (vc_X11_feedNumber_v_15 hq0 h1) (vc_X11_feedNumber_v_16 hq0 h1) fdN.start vc_X12_octet4_10
theorem vc_X11_feed_w_1 {f_q : Int} (h0 : (f_q + 20) ≤ 1000) (h1 : 0 ≤ f_q ∧ f_q ≤ 1000) : 0 ≤ f_q ∧ f_q ≤ 980 := by omega
theorem vc_X11_feed_w_2 {f_q : Int} (h0 : (f_q + 20) ≤ 1000) (h1 : 0 ≤ f_q ∧ f_q ≤ 980) : f_q ≤ 996 := by omega
theorem vc_X11_feed_w_3 {f_q z148 : Int} (h0 : (f_q + 20) ≤ 1000) (h1 : z148 = f_q + 4) (h2 : 0 ≤ f_q ∧ f_q ≤ 980) (h3 : 0 ≤ z148 ∧ z148 ≤ 1000) : (f_q + 4) ≤ 996 := by omega
theorem vc_X11_feed_w_4 {f_q z148 z157 : Int} (h0 : (f_q + 20) ≤ 1000) (h1 : z148 = f_q + 4) (h2 : z157 = (f_q + 4) + 4) (h3 : 0 ≤ f_q ∧ f_q ≤ 980) (h4 : 0 ≤ z148 ∧ z148 ≤ 1000) (h5 : 0 ≤ z157 ∧ z157 ≤ 1000) : ((f_q + 4) + 4) ≤ 996 := by omega
theorem vc_X11_feed_w_5 {f_q z148 z157 z166 : Int} (h0 : (f_q + 20) ≤ 1000) (h1 : z148 = f_q + 4) (h2 : z157 = (f_q + 4) + 4) (h3 : z166 = ((f_q + 4) + 4) + 4) (h4 : 0 ≤ f_q ∧ f_q ≤ 980) (h5 : 0 ≤ z148 ∧ z148 ≤ 1000) (h6 : 0 ≤ z157 ∧ z157 ≤ 1000) (h7 : 0 ≤ z166 ∧ z166 ≤ 1000) : (((f_q + 4) + 4) + 4) ≤ 996 := by omega
theorem vc_X11_feed_w_6 {f_q z148 z157 z166 z175 : Int} (h0 : (f_q + 20) ≤ 1000) (h1 : z148 = f_q + 4) (h2 : z157 = (f_q + 4) + 4) (h3 : z166 = ((f_q + 4) + 4) + 4) (h4 : z175 = (((f_q + 4) + 4) + 4) + 4) (h5 : 0 ≤ f_q ∧ f_q ≤ 980) (h6 : 0 ≤ z148 ∧ z148 ≤ 1000) (h7 : 0 ≤ z157 ∧ z157 ≤ 1000) (h8 : 0 ≤ z166 ∧ z166 ≤ 1000) (h9 : 0 ≤ z175 ∧ z175 ≤ 1000) : ((((f_q + 4) + 4) + 4) + 4) ≤ 996 := by omega
theorem vc_X11_feed_w_7 {f_q z148 z157 z166 z175 z184 : Int} (h0 : (f_q + 20) ≤ 1000) (h1 : z148 = f_q + 4) (h2 : z157 = (f_q + 4) + 4) (h3 : z166 = ((f_q + 4) + 4) + 4) (h4 : z175 = (((f_q + 4) + 4) + 4) + 4) (h5 : z184 = ((((f_q + 4) + 4) + 4) + 4) + 4) (h6 : 0 ≤ f_q ∧ f_q ≤ 980) (h7 : 0 ≤ z148 ∧ z148 ≤ 1000) (h8 : 0 ≤ z157 ∧ z157 ≤ 1000) (h9 : 0 ≤ z166 ∧ z166 ≤ 1000) (h10 : 0 ≤ z175 ∧ z175 ≤ 1000) (h11 : 0 ≤ z184 ∧ z184 ≤ 1000) : f_q ≤ 980 → (((((f_q + 4) + 4) + 4) + 4) + 4) = f_q + 20 ∧ (((((f_q + 4) + 4) + 4) + 4) + 4) = f_q + 20 := by omega
theorem vc_X11_feed_w_8 {f_q z148 z157 z166 z175 z184 : Int} (h0 : (f_q + 20) ≤ 1000) (h1 : z148 = f_q + 4) (h2 : z157 = (f_q + 4) + 4) (h3 : z166 = ((f_q + 4) + 4) + 4) (h4 : z175 = (((f_q + 4) + 4) + 4) + 4) (h5 : z184 = ((((f_q + 4) + 4) + 4) + 4) + 4) (h6 : 0 ≤ f_q ∧ f_q ≤ 980) (h7 : 0 ≤ z148 ∧ z148 ≤ 1000) (h8 : 0 ≤ z157 ∧ z157 ≤ 1000) (h9 : 0 ≤ z166 ∧ z166 ≤ 1000) (h10 : 0 ≤ z175 ∧ z175 ≤ 1000) (h11 : 0 ≤ z184 ∧ z184 ≤ 1000) : 980 < f_q → (((((f_q + 4) + 4) + 4) + 4) + 4) = -3 ∧ (((((f_q + 4) + 4) + 4) + 4) + 4) = f_q := by omega
theorem vc_X11_feed_w_9 {f_q z148 z157 z166 z175 z184 : Int} (h0 : (f_q + 20) ≤ 1000) (h1 : z148 = f_q + 4) (h2 : z157 = (f_q + 4) + 4) (h3 : z166 = ((f_q + 4) + 4) + 4) (h4 : z175 = (((f_q + 4) + 4) + 4) + 4) (h5 : z184 = ((((f_q + 4) + 4) + 4) + 4) + 4) (h6 : 0 ≤ f_q ∧ f_q ≤ 980) (h7 : 0 ≤ z148 ∧ z148 ≤ 1000) (h8 : 0 ≤ z157 ∧ z157 ≤ 1000) (h9 : 0 ≤ z166 ∧ z166 ≤ 1000) (h10 : 0 ≤ z175 ∧ z175 ≤ 1000) (h11 : 0 ≤ z184 ∧ z184 ≤ 1000) : (f_q + 4) = f_q + 4 := by omega
theorem vc_X11_feed_w_10 {f_q z148 z157 z166 z175 z184 : Int} (h0 : (f_q + 20) ≤ 1000) (h1 : z148 = f_q + 4) (h2 : z157 = (f_q + 4) + 4) (h3 : z166 = ((f_q + 4) + 4) + 4) (h4 : z175 = (((f_q + 4) + 4) + 4) + 4) (h5 : z184 = ((((f_q + 4) + 4) + 4) + 4) + 4) (h6 : 0 ≤ f_q ∧ f_q ≤ 980) (h7 : 0 ≤ z148 ∧ z148 ≤ 1000) (h8 : 0 ≤ z157 ∧ z157 ≤ 1000) (h9 : 0 ≤ z166 ∧ z166 ≤ 1000) (h10 : 0 ≤ z175 ∧ z175 ≤ 1000) (h11 : 0 ≤ z184 ∧ z184 ≤ 1000) : ((f_q + 4) + 4) = f_q + 8 := by omega
theorem vc_X11_feed_w_11 {f_q z148 z157 z166 z175 z184 : Int} (h0 : (f_q + 20) ≤ 1000) (h1 : z148 = f_q + 4) (h2 : z157 = (f_q + 4) + 4) (h3 : z166 = ((f_q + 4) + 4) + 4) (h4 : z175 = (((f_q + 4) + 4) + 4) + 4) (h5 : z184 = ((((f_q + 4) + 4) + 4) + 4) + 4) (h6 : 0 ≤ f_q ∧ f_q ≤ 980) (h7 : 0 ≤ z148 ∧ z148 ≤ 1000) (h8 : 0 ≤ z157 ∧ z157 ≤ 1000) (h9 : 0 ≤ z166 ∧ z166 ≤ 1000) (h10 : 0 ≤ z175 ∧ z175 ≤ 1000) (h11 : 0 ≤ z184 ∧ z184 ≤ 1000) : (((f_q + 4) + 4) + 4) = f_q + 12 := by omega
theorem vc_X11_feed_w_12 {f_q z148 z157 z166 z175 z184 : Int} (h0 : (f_q + 20) ≤ 1000) (h1 : z148 = f_q + 4) (h2 : z157 = (f_q + 4) + 4) (h3 : z166 = ((f_q + 4) + 4) + 4) (h4 : z175 = (((f_q + 4) + 4) + 4) + 4) (h5 : z184 = ((((f_q + 4) + 4) + 4) + 4) + 4) (h6 : 0 ≤ f_q ∧ f_q ≤ 980) (h7 : 0 ≤ z148 ∧ z148 ≤ 1000) (h8 : 0 ≤ z157 ∧ z157 ≤ 1000) (h9 : 0 ≤ z166 ∧ z166 ≤ 1000) (h10 : 0 ≤ z175 ∧ z175 ≤ 1000) (h11 : 0 ≤ z184 ∧ z184 ≤ 1000) : ((((f_q + 4) + 4) + 4) + 4) = f_q + 16 := by omega
theorem vc_X11_feed_w_13 {f_q z148 z157 z166 z175 z184 : Int} (h0 : (f_q + 20) ≤ 1000) (h1 : z148 = f_q + 4) (h2 : z157 = (f_q + 4) + 4) (h3 : z166 = ((f_q + 4) + 4) + 4) (h4 : z175 = (((f_q + 4) + 4) + 4) + 4) (h5 : z184 = ((((f_q + 4) + 4) + 4) + 4) + 4) (h6 : 0 ≤ f_q ∧ f_q ≤ 980) (h7 : 0 ≤ z148 ∧ z148 ≤ 1000) (h8 : 0 ≤ z157 ∧ z157 ≤ 1000) (h9 : 0 ≤ z166 ∧ z166 ≤ 1000) (h10 : 0 ≤ z175 ∧ z175 ≤ 1000) (h11 : 0 ≤ z184 ∧ z184 ≤ 1000) : 0 ≤ (((((f_q + 4) + 4) + 4) + 4) + 4) := by omega
theorem vc_X11_feed_w_14 {f_q z148 z157 z166 z175 z184 : Int} (h0 : (f_q + 20) ≤ 1000) (h1 : z148 = f_q + 4) (h2 : z157 = (f_q + 4) + 4) (h3 : z166 = ((f_q + 4) + 4) + 4) (h4 : z175 = (((f_q + 4) + 4) + 4) + 4) (h5 : z184 = ((((f_q + 4) + 4) + 4) + 4) + 4) (h6 : 0 ≤ f_q ∧ f_q ≤ 980) (h7 : 0 ≤ z148 ∧ z148 ≤ 1000) (h8 : 0 ≤ z157 ∧ z157 ≤ 1000) (h9 : 0 ≤ z166 ∧ z166 ≤ 1000) (h10 : 0 ≤ z175 ∧ z175 ≤ 1000) (h11 : 0 ≤ z184 ∧ z184 ≤ 1000) : 0 ≤ f_q := by omega
theorem vc_X11_feed_w_15 {f_q : Int} (h0 : 1000 < (f_q + 20)) (h1 : 0 ≤ f_q ∧ f_q ≤ 1000) : 981 ≤ f_q ∧ f_q ≤ 1000 := by omega
theorem vc_X11_feed_w_16 {f_q : Int} (h0 : 1000 < (f_q + 20)) (h1 : 981 ≤ f_q ∧ f_q ≤ 1000) : f_q ≤ 980 → (-3 : Int) = f_q + 20 ∧ f_q = f_q + 20 := by omega
theorem vc_X11_feed_w_17 {f_q : Int} (h0 : 1000 < (f_q + 20)) (h1 : 981 ≤ f_q ∧ f_q ≤ 1000) : 980 < f_q → (-3 : Int) = -3 ∧ f_q = f_q := by omega
set_option maxRecDepth 4000 in
set_option maxHeartbeats 4000000 in
theorem c_X11_feed_w {l : Launch} {D : va_G} {c : Nat → ClassId} {H0 : Heap} {sa : Nat × Nat × (Nat → Int32)} {w : mW} {μ : mM} (hw : mWF w) (hT : mT w μ) {p1 : Int} (hp1 : (-2147483648) ≤ p1 ∧ p1 ≤ 2147483647) {p2 : Int} (hp2 : (-2147483648) ≤ p2 ∧ p2 ≤ 2147483647) {p3 : Int} (hp3 : (-2147483648) ≤ p3 ∧ p3 ≤ 2147483647) {p4 : Int} (hp4 : (-2147483648) ≤ p4 ∧ p4 ≤ 2147483647) {p5 : Int} (hp5 : (-2147483648) ≤ p5 ∧ p5 ≤ 2147483647) {f_q : Int} (q_f_q : μ 0 10 = f_q) : sC (gG l D c H0 sa) mX11_feed 2 0 0 [.ref 0, iv p1, iv p2, iv p3, iv p4, iv p5] (mk w μ) (qI w [10, 1999] μ (fun z μ1 => ∃ o_q : Int, μ1 0 10 = o_q ∧ ((-2147483648) ≤ z ∧ z ≤ 2147483647) ∧ (f_q ≤ 980 → z = f_q + 20 ∧ o_q = f_q + 20) ∧ (980 < f_q → z = -3 ∧ o_q = f_q) ∧ (((z < 0 ∧ μ1 1 = μ 1) ∨ (0 ≤ z ∧ fdC μ μ1 f_q p1 p2 p3 p4 p5))) ∧ True)) := by
  refine sC.of rfl (by decide) (le_t rfl) ?_
  have ht_f_q : (0 ≤ f_q ∧ f_q ≤ 1000) := by rw [← q_f_q]; exact hT 0 0 (A_0 hw) 10
  refine mr_lvE (lv' := [(0, .ref 0), (1, iv p1), (2, iv p2), (3, iv p3), (4, iv p4), (5, iv p5)]) rfl ?_
  refine sv_aload_n (pc := 0) dX11_feed_0 rfl rfl ?_
  refine gk_X11_10 (pc := 1) dX11_feed_1 wF_X11_76 (A_0 hw) q_f_q ?_
  refine mr_bipush (pc := 4) (z := 20) dX11_feed_4 (by decide) ?_
  refine mr_iadd (pc := 6) (x := f_q) (y := 20) dX11_feed_6 ?_
  refine mr_sipush (pc := 7) (z := 1000) dX11_feed_7 (by decide) ?_
  refine mr_icmp_le (pc := 10) (tgt := 16) dX11_feed_10 (by decide) (r32 (rAdd (e := 20) (f := 1020) ht_f_q (rR (x := 20)) rfl) rfl) (r32 (rR (x := 1000)) rfl) (fun h142 => ?_) (fun h142 => ?_)
  · have h143 : 0 ≤ f_q ∧ f_q ≤ 980 := (vc_X11_feed_w_1 h142 ht_f_q)
    refine sv_aload_n (pc := 16) dX11_feed_16 rfl rfl ?_
    refine mr_iload_n (pc := 17) (z := p1) dX11_feed_17 rfl rfl ?_
    refine mr_cVV (pc := 18) (c_X11_feedNumber_v hw hT hp1 q_f_q (vc_X11_feed_w_2 h142 h143)) (gOk _ _ _ _ _) dX11_feed_18 (tX11_feedNumber _ _ _ _ _) ⟨wV_X11_feedNumber, wL_X11_feedNumber⟩ wM_X11_80 (gCX11 _ _ _ _ _) rfl (A_0 hw) rfl ⟨le_t rfl, le_t rfl⟩ ⟨le_t rfl, le_t rfl⟩ rfl (le_t rfl) fun μ144 T145 F146 h147 => ?_
    obtain ⟨z148, q149, h150⟩ := h147
    have h151 : (0 ≤ z148 ∧ z148 ≤ 1000) := by rw [← q149]; exact T145 0 0 (A_0 hw) 10
    have q152 : μ144 0 10 = (f_q + 4) := q149.trans h150.1
    refine sv_aload_n (pc := 21) dX11_feed_21 rfl rfl ?_
    refine mr_iload_n (pc := 22) (z := p2) dX11_feed_22 rfl rfl ?_
    refine mr_cVV (pc := 23) (c_X11_feedNumber_v hw T145 hp2 q152 (vc_X11_feed_w_3 h142 h150.1 h143 h151)) (gOk _ _ _ _ _) dX11_feed_23 (tX11_feedNumber _ _ _ _ _) ⟨wV_X11_feedNumber, wL_X11_feedNumber⟩ wM_X11_80 (gCX11 _ _ _ _ _) rfl (A_0 hw) rfl ⟨le_t rfl, le_t rfl⟩ ⟨le_t rfl, le_t rfl⟩ rfl (le_t rfl) fun μ153 T154 F155 h156 => ?_
    obtain ⟨z157, q158, h159⟩ := h156
    have h160 : (0 ≤ z157 ∧ z157 ≤ 1000) := by rw [← q158]; exact T154 0 0 (A_0 hw) 10
    have q161 : μ153 0 10 = ((f_q + 4) + 4) := q158.trans h159.1
    refine sv_aload_n (pc := 26) dX11_feed_26 rfl rfl ?_
    refine mr_iload_n (pc := 27) (z := p3) dX11_feed_27 rfl rfl ?_
    refine mr_cVV (pc := 28) (c_X11_feedNumber_v hw T154 hp3 q161 (vc_X11_feed_w_4 h142 h150.1 h159.1 h143 h151 h160)) (gOk _ _ _ _ _) dX11_feed_28 (tX11_feedNumber _ _ _ _ _) ⟨wV_X11_feedNumber, wL_X11_feedNumber⟩ wM_X11_80 (gCX11 _ _ _ _ _) rfl (A_0 hw) rfl ⟨le_t rfl, le_t rfl⟩ ⟨le_t rfl, le_t rfl⟩ rfl (le_t rfl) fun μ162 T163 F164 h165 => ?_
    obtain ⟨z166, q167, h168⟩ := h165
    have h169 : (0 ≤ z166 ∧ z166 ≤ 1000) := by rw [← q167]; exact T163 0 0 (A_0 hw) 10
    have q170 : μ162 0 10 = (((f_q + 4) + 4) + 4) := q167.trans h168.1
    refine sv_aload_n (pc := 31) dX11_feed_31 rfl rfl ?_
    refine mr_iload (pc := 32) (z := p4) dX11_feed_32 rfl ?_
    refine mr_cVV (pc := 34) (c_X11_feedNumber_v hw T163 hp4 q170 (vc_X11_feed_w_5 h142 h150.1 h159.1 h168.1 h143 h151 h160 h169)) (gOk _ _ _ _ _) dX11_feed_34 (tX11_feedNumber _ _ _ _ _) ⟨wV_X11_feedNumber, wL_X11_feedNumber⟩ wM_X11_80 (gCX11 _ _ _ _ _) rfl (A_0 hw) rfl ⟨le_t rfl, le_t rfl⟩ ⟨le_t rfl, le_t rfl⟩ rfl (le_t rfl) fun μ171 T172 F173 h174 => ?_
    obtain ⟨z175, q176, h177⟩ := h174
    have h178 : (0 ≤ z175 ∧ z175 ≤ 1000) := by rw [← q176]; exact T172 0 0 (A_0 hw) 10
    have q179 : μ171 0 10 = ((((f_q + 4) + 4) + 4) + 4) := q176.trans h177.1
    refine sv_aload_n (pc := 37) dX11_feed_37 rfl rfl ?_
    refine mr_iload (pc := 38) (z := p5) dX11_feed_38 rfl ?_
    refine mr_cVV (pc := 40) (c_X11_feedNumber_v hw T172 hp5 q179 (vc_X11_feed_w_6 h142 h150.1 h159.1 h168.1 h177.1 h143 h151 h160 h169 h178)) (gOk _ _ _ _ _) dX11_feed_40 (tX11_feedNumber _ _ _ _ _) ⟨wV_X11_feedNumber, wL_X11_feedNumber⟩ wM_X11_80 (gCX11 _ _ _ _ _) rfl (A_0 hw) rfl ⟨le_t rfl, le_t rfl⟩ ⟨le_t rfl, le_t rfl⟩ rfl (le_t rfl) fun μ180 T181 F182 h183 => ?_
    obtain ⟨z184, q185, h186⟩ := h183
    have h187 : (0 ≤ z184 ∧ z184 ≤ 1000) := by rw [← q185]; exact T181 0 0 (A_0 hw) 10
    have q188 : μ180 0 10 = (((((f_q + 4) + 4) + 4) + 4) + 4) := q185.trans h186.1
    refine sv_aload_n (pc := 43) dX11_feed_43 rfl rfl ?_
    refine gk_X11_10 (pc := 44) dX11_feed_44 wF_X11_76 (A_0 hw) q188 ?_
    exact mr_iret dX11_feed_47 rfl (le_t rfl) (le_t rfl) T181 (mF.call (mF.call (mF.call (mF.call (mF.call mF.refl F146 rfl) F155 rfl) F164 rfl) F173 rfl) F182 rfl) ⟨(((((f_q + 4) + 4) + 4) + 4) + 4), q188, (rW (c := (-2147483648)) (d := 2147483647) (rAdd (e := 20) (f := 1000) (rAdd (e := 16) (f := 996) (rAdd (e := 12) (f := 992) (rAdd (e := 8) (f := 988) (rAdd (e := 4) (f := 984) h143 (rR (x := 4)) rfl) (rR (x := 4)) rfl) (rR (x := 4)) rfl) (rR (x := 4)) rfl) (rR (x := 4)) rfl) rfl), (vc_X11_feed_w_7 h142 h150.1 h159.1 h168.1 h177.1 h186.1 h143 h151 h160 h169 h178 h187), (vc_X11_feed_w_8 h142 h150.1 h159.1 h168.1 h177.1 h186.1 h143 h151 h160 h169 h178 h187), (Or.inr ⟨(vc_X11_feed_w_13 h142 h150.1 h159.1 h168.1 h177.1 h186.1 h143 h151 h160 h169 h178 h187), fdC.mk (vc_X11_feed_w_14 h142 h150.1 h159.1 h168.1 h177.1 h186.1 h143 h151 h160 h169 h178 h187) h150.2.1 (vc_X11_feed_w_9 h142 h150.1 h159.1 h168.1 h177.1 h186.1 h143 h151 h160 h169 h178 h187) h159.2.1 (vc_X11_feed_w_10 h142 h150.1 h159.1 h168.1 h177.1 h186.1 h143 h151 h160 h169 h178 h187) h168.2.1 (vc_X11_feed_w_11 h142 h150.1 h159.1 h168.1 h177.1 h186.1 h143 h151 h160 h169 h178 h187) h177.2.1 (vc_X11_feed_w_12 h142 h150.1 h159.1 h168.1 h177.1 h186.1 h143 h151 h160 h169 h178 h187) h186.2.1⟩), trivial⟩
  have h189 : 981 ≤ f_q ∧ f_q ≤ 1000 := (vc_X11_feed_w_15 h142 ht_f_q)
  refine mr_bipush (pc := 13) (z := (-3)) dX11_feed_13 (by decide) ?_
  exact mr_iret dX11_feed_15 rfl (le_t rfl) (le_t rfl) hT mF.refl ⟨f_q, q_f_q, (rW (c := (-2147483648)) (d := 2147483647) (rR (x := (-3))) rfl), (vc_X11_feed_w_16 h142 h189), (vc_X11_feed_w_17 h142 h189), (Or.inl ⟨by decide, rfl⟩), trivial⟩
theorem vc_X12_feed_w_4 {f_q : Int} (h0 : (f_q + 20) ≤ 1000) (h1 : 0 ≤ f_q ∧ f_q ≤ 980) : f_q ≤ 980 → (f_q + 20) = f_q + 20 ∧ (f_q + 20) = f_q + 20 := by omega
theorem vc_X12_feed_w_5 {f_q : Int} (h0 : (f_q + 20) ≤ 1000) (h1 : 0 ≤ f_q ∧ f_q ≤ 980) : 980 < f_q → (f_q + 20) = -3 ∧ (f_q + 20) = f_q := by omega
theorem vc_X12_feed_w_6 {f_q : Int} (h0 : (f_q + 20) ≤ 1000) (h1 : 0 ≤ f_q ∧ f_q ≤ 980) : 0 ≤ (f_q + 20) := by omega
theorem vc_X12_feed_w_7 {z1935 : Int} (h0 : 20 ≤ z1935) (h1 : 20 ≤ z1935 ∧ z1935 ≤ 20) : 20 ≤ z1935 := by omega
theorem vc_X12_feed_w_9 {z1935 : Int} (h0 : 4 ≤ z1935) (h1 : z1935 < 20) (h2 : 0 ≤ z1935 ∧ z1935 ≤ 19) : 4 ≤ z1935 ∧ z1935 ≤ 19 := by omega
theorem vc_X12_feed_w_10 {z1935 : Int} (h0 : 8 ≤ z1935) (h1 : z1935 < 20) (h2 : 4 ≤ z1935) (h3 : 4 ≤ z1935 ∧ z1935 ≤ 19) : 8 ≤ z1935 ∧ z1935 ≤ 19 := by omega
theorem vc_X12_feed_w_11 {z1935 : Int} (h0 : 12 ≤ z1935) (h1 : z1935 < 20) (h2 : 4 ≤ z1935) (h3 : 8 ≤ z1935) (h4 : 8 ≤ z1935 ∧ z1935 ≤ 19) : 12 ≤ z1935 ∧ z1935 ≤ 19 := by omega
theorem vc_X12_feed_w_12 {z1935 : Int} (h0 : 16 ≤ z1935) (h1 : z1935 < 20) (h2 : 4 ≤ z1935) (h3 : 8 ≤ z1935) (h4 : 12 ≤ z1935) (h5 : 12 ≤ z1935 ∧ z1935 ≤ 19) : 16 ≤ z1935 ∧ z1935 ≤ 19 := by omega
theorem vc_X12_feed_w_13  : (0 : Int) < (4 : Int) ∧ (4 : Int) ≤ (2147483647 : Int) := by omega
theorem vc_X12_feed_w_14 {N z1935 z2029 : Int} (h0 : (21 - z1935) < N + 1) (h1 : z1935 < 20) (h2 : 4 ≤ z1935) (h3 : 8 ≤ z1935) (h4 : 12 ≤ z1935) (h5 : 16 ≤ z1935) (h6 : z1935 % 4 = z2029) (h7 : 16 ≤ z1935 ∧ z1935 ≤ 19) (h8 : 0 ≤ z2029 ∧ z2029 ≤ 3) : (21 - (z1935 + 1)) < N := by omega
theorem vc_X12_feed_w_15 {p1 p2 p3 p4 p5 z1935 z2029 : Int} (h0 : z1935 < 20) (h1 : 4 ≤ z1935) (h2 : 8 ≤ z1935) (h3 : 12 ≤ z1935) (h4 : 16 ≤ z1935) (h5 : z1935 % 4 = z2029) (h6 : (-2147483648) ≤ p1 ∧ p1 ≤ 2147483647) (h7 : (-2147483648) ≤ p2 ∧ p2 ≤ 2147483647) (h8 : (-2147483648) ≤ p3 ∧ p3 ≤ 2147483647) (h9 : (-2147483648) ≤ p4 ∧ p4 ≤ 2147483647) (h10 : (-2147483648) ≤ p5 ∧ p5 ≤ 2147483647) (h11 : 16 ≤ z1935 ∧ z1935 ≤ 19) (h12 : 0 ≤ z2029 ∧ z2029 ≤ 3) : (z1935 < 4 ∧ p5 = p1) ∨ (4 ≤ z1935 ∧ z1935 < 8 ∧ p5 = p2) ∨ (8 ≤ z1935 ∧ z1935 < 12 ∧ p5 = p3) ∨ (12 ≤ z1935 ∧ z1935 < 16 ∧ p5 = p4) ∨ (16 ≤ z1935 ∧ p5 = p5) := by omega
theorem vc_X12_feed_w_16 {f_q : Int} (h0 : (f_q + 20) ≤ 1000) (h1 : 0 ≤ f_q ∧ f_q ≤ 980) : 0 ≤ f_q := by omega
theorem vc_X12_feed_w_17 {z1935 z2029 : Int} (h0 : z1935 < 20) (h1 : 4 ≤ z1935) (h2 : 8 ≤ z1935) (h3 : 12 ≤ z1935) (h4 : 16 ≤ z1935) (h5 : z1935 % 4 = z2029) (h6 : 16 ≤ z1935 ∧ z1935 ≤ 19) (h7 : 0 ≤ z2029 ∧ z2029 ≤ 3) : 0 ≤ z1935 := by omega
theorem vc_X12_feed_w_18 {z1935 z2029 : Int} (h0 : z1935 < 20) (h1 : 4 ≤ z1935) (h2 : 8 ≤ z1935) (h3 : 12 ≤ z1935) (h4 : 16 ≤ z1935) (h5 : z1935 % 4 = z2029) (h6 : 16 ≤ z1935 ∧ z1935 ≤ 19) (h7 : 0 ≤ z2029 ∧ z2029 ≤ 3) : (24 - (8 * z2029)) = 0 ∨ (24 - (8 * z2029)) = 8 ∨ (24 - (8 * z2029)) = 16 ∨ (24 - (8 * z2029)) = 24 := by omega
theorem vc_X12_feed_w_19 {z1935 z2029 : Int} (h0 : z1935 < 20) (h1 : 4 ≤ z1935) (h2 : 8 ≤ z1935) (h3 : 12 ≤ z1935) (h4 : 16 ≤ z1935) (h5 : z1935 % 4 = z2029) (h6 : 16 ≤ z1935 ∧ z1935 ≤ 19) (h7 : 0 ≤ z2029 ∧ z2029 ≤ 3) : (24 - (8 * z2029)) = 24 - 8 * (z1935 % 4) := by omega
theorem vc_X12_feed_w_20 {f_q z1935 z2029 : Int} (h0 : (f_q + 20) ≤ 1000) (h1 : z1935 < 20) (h2 : 4 ≤ z1935) (h3 : 8 ≤ z1935) (h4 : 12 ≤ z1935) (h5 : 16 ≤ z1935) (h6 : z1935 % 4 = z2029) (h7 : 0 ≤ f_q ∧ f_q ≤ 980) (h8 : 16 ≤ z1935 ∧ z1935 ≤ 19) (h9 : 0 ≤ z2029 ∧ z2029 ≤ 3) : (f_q + z1935) = f_q + z1935 := by omega
theorem vc_X12_feed_w_21 {z1935 : Int} (h0 : z1935 < 16) (h1 : z1935 < 20) (h2 : 4 ≤ z1935) (h3 : 8 ≤ z1935) (h4 : 12 ≤ z1935) (h5 : 12 ≤ z1935 ∧ z1935 ≤ 19) : 12 ≤ z1935 ∧ z1935 ≤ 15 := by omega
theorem vc_X12_feed_w_22 {N z1935 z2042 : Int} (h0 : (21 - z1935) < N + 1) (h1 : z1935 < 20) (h2 : 4 ≤ z1935) (h3 : 8 ≤ z1935) (h4 : 12 ≤ z1935) (h5 : z1935 < 16) (h6 : z1935 % 4 = z2042) (h7 : 12 ≤ z1935 ∧ z1935 ≤ 15) (h8 : 0 ≤ z2042 ∧ z2042 ≤ 3) : (21 - (z1935 + 1)) < N := by omega
theorem vc_X12_feed_w_23 {p1 p2 p3 p4 p5 z1935 z2042 : Int} (h0 : z1935 < 20) (h1 : 4 ≤ z1935) (h2 : 8 ≤ z1935) (h3 : 12 ≤ z1935) (h4 : z1935 < 16) (h5 : z1935 % 4 = z2042) (h6 : (-2147483648) ≤ p1 ∧ p1 ≤ 2147483647) (h7 : (-2147483648) ≤ p2 ∧ p2 ≤ 2147483647) (h8 : (-2147483648) ≤ p3 ∧ p3 ≤ 2147483647) (h9 : (-2147483648) ≤ p4 ∧ p4 ≤ 2147483647) (h10 : (-2147483648) ≤ p5 ∧ p5 ≤ 2147483647) (h11 : 12 ≤ z1935 ∧ z1935 ≤ 15) (h12 : 0 ≤ z2042 ∧ z2042 ≤ 3) : (z1935 < 4 ∧ p4 = p1) ∨ (4 ≤ z1935 ∧ z1935 < 8 ∧ p4 = p2) ∨ (8 ≤ z1935 ∧ z1935 < 12 ∧ p4 = p3) ∨ (12 ≤ z1935 ∧ z1935 < 16 ∧ p4 = p4) ∨ (16 ≤ z1935 ∧ p4 = p5) := by omega
theorem vc_X12_feed_w_24 {z1935 z2042 : Int} (h0 : z1935 < 20) (h1 : 4 ≤ z1935) (h2 : 8 ≤ z1935) (h3 : 12 ≤ z1935) (h4 : z1935 < 16) (h5 : z1935 % 4 = z2042) (h6 : 12 ≤ z1935 ∧ z1935 ≤ 15) (h7 : 0 ≤ z2042 ∧ z2042 ≤ 3) : 0 ≤ z1935 := by omega
theorem vc_X12_feed_w_25 {z1935 z2042 : Int} (h0 : z1935 < 20) (h1 : 4 ≤ z1935) (h2 : 8 ≤ z1935) (h3 : 12 ≤ z1935) (h4 : z1935 < 16) (h5 : z1935 % 4 = z2042) (h6 : 12 ≤ z1935 ∧ z1935 ≤ 15) (h7 : 0 ≤ z2042 ∧ z2042 ≤ 3) : (24 - (8 * z2042)) = 0 ∨ (24 - (8 * z2042)) = 8 ∨ (24 - (8 * z2042)) = 16 ∨ (24 - (8 * z2042)) = 24 := by omega
theorem vc_X12_feed_w_26 {z1935 z2042 : Int} (h0 : z1935 < 20) (h1 : 4 ≤ z1935) (h2 : 8 ≤ z1935) (h3 : 12 ≤ z1935) (h4 : z1935 < 16) (h5 : z1935 % 4 = z2042) (h6 : 12 ≤ z1935 ∧ z1935 ≤ 15) (h7 : 0 ≤ z2042 ∧ z2042 ≤ 3) : (24 - (8 * z2042)) = 24 - 8 * (z1935 % 4) := by omega
theorem vc_X12_feed_w_27 {f_q z1935 z2042 : Int} (h0 : (f_q + 20) ≤ 1000) (h1 : z1935 < 20) (h2 : 4 ≤ z1935) (h3 : 8 ≤ z1935) (h4 : 12 ≤ z1935) (h5 : z1935 < 16) (h6 : z1935 % 4 = z2042) (h7 : 0 ≤ f_q ∧ f_q ≤ 980) (h8 : 12 ≤ z1935 ∧ z1935 ≤ 15) (h9 : 0 ≤ z2042 ∧ z2042 ≤ 3) : (f_q + z1935) = f_q + z1935 := by omega
theorem vc_X12_feed_w_28 {z1935 : Int} (h0 : z1935 < 12) (h1 : z1935 < 20) (h2 : 4 ≤ z1935) (h3 : 8 ≤ z1935) (h4 : 8 ≤ z1935 ∧ z1935 ≤ 19) : 8 ≤ z1935 ∧ z1935 ≤ 11 := by omega
theorem vc_X12_feed_w_29 {N z1935 z2055 : Int} (h0 : (21 - z1935) < N + 1) (h1 : z1935 < 20) (h2 : 4 ≤ z1935) (h3 : 8 ≤ z1935) (h4 : z1935 < 12) (h5 : z1935 % 4 = z2055) (h6 : 8 ≤ z1935 ∧ z1935 ≤ 11) (h7 : 0 ≤ z2055 ∧ z2055 ≤ 3) : (21 - (z1935 + 1)) < N := by omega
theorem vc_X12_feed_w_30 {p1 p2 p3 p4 p5 z1935 z2055 : Int} (h0 : z1935 < 20) (h1 : 4 ≤ z1935) (h2 : 8 ≤ z1935) (h3 : z1935 < 12) (h4 : z1935 % 4 = z2055) (h5 : (-2147483648) ≤ p1 ∧ p1 ≤ 2147483647) (h6 : (-2147483648) ≤ p2 ∧ p2 ≤ 2147483647) (h7 : (-2147483648) ≤ p3 ∧ p3 ≤ 2147483647) (h8 : (-2147483648) ≤ p4 ∧ p4 ≤ 2147483647) (h9 : (-2147483648) ≤ p5 ∧ p5 ≤ 2147483647) (h10 : 8 ≤ z1935 ∧ z1935 ≤ 11) (h11 : 0 ≤ z2055 ∧ z2055 ≤ 3) : (z1935 < 4 ∧ p3 = p1) ∨ (4 ≤ z1935 ∧ z1935 < 8 ∧ p3 = p2) ∨ (8 ≤ z1935 ∧ z1935 < 12 ∧ p3 = p3) ∨ (12 ≤ z1935 ∧ z1935 < 16 ∧ p3 = p4) ∨ (16 ≤ z1935 ∧ p3 = p5) := by omega
theorem vc_X12_feed_w_31 {z1935 z2055 : Int} (h0 : z1935 < 20) (h1 : 4 ≤ z1935) (h2 : 8 ≤ z1935) (h3 : z1935 < 12) (h4 : z1935 % 4 = z2055) (h5 : 8 ≤ z1935 ∧ z1935 ≤ 11) (h6 : 0 ≤ z2055 ∧ z2055 ≤ 3) : 0 ≤ z1935 := by omega
theorem vc_X12_feed_w_32 {z1935 z2055 : Int} (h0 : z1935 < 20) (h1 : 4 ≤ z1935) (h2 : 8 ≤ z1935) (h3 : z1935 < 12) (h4 : z1935 % 4 = z2055) (h5 : 8 ≤ z1935 ∧ z1935 ≤ 11) (h6 : 0 ≤ z2055 ∧ z2055 ≤ 3) : (24 - (8 * z2055)) = 0 ∨ (24 - (8 * z2055)) = 8 ∨ (24 - (8 * z2055)) = 16 ∨ (24 - (8 * z2055)) = 24 := by omega
theorem vc_X12_feed_w_33 {z1935 z2055 : Int} (h0 : z1935 < 20) (h1 : 4 ≤ z1935) (h2 : 8 ≤ z1935) (h3 : z1935 < 12) (h4 : z1935 % 4 = z2055) (h5 : 8 ≤ z1935 ∧ z1935 ≤ 11) (h6 : 0 ≤ z2055 ∧ z2055 ≤ 3) : (24 - (8 * z2055)) = 24 - 8 * (z1935 % 4) := by omega
theorem vc_X12_feed_w_34 {f_q z1935 z2055 : Int} (h0 : (f_q + 20) ≤ 1000) (h1 : z1935 < 20) (h2 : 4 ≤ z1935) (h3 : 8 ≤ z1935) (h4 : z1935 < 12) (h5 : z1935 % 4 = z2055) (h6 : 0 ≤ f_q ∧ f_q ≤ 980) (h7 : 8 ≤ z1935 ∧ z1935 ≤ 11) (h8 : 0 ≤ z2055 ∧ z2055 ≤ 3) : (f_q + z1935) = f_q + z1935 := by omega
theorem vc_X12_feed_w_35 {z1935 : Int} (h0 : z1935 < 8) (h1 : z1935 < 20) (h2 : 4 ≤ z1935) (h3 : 4 ≤ z1935 ∧ z1935 ≤ 19) : 4 ≤ z1935 ∧ z1935 ≤ 7 := by omega
theorem vc_X12_feed_w_36 {N z1935 z2068 : Int} (h0 : (21 - z1935) < N + 1) (h1 : z1935 < 20) (h2 : 4 ≤ z1935) (h3 : z1935 < 8) (h4 : z1935 % 4 = z2068) (h5 : 4 ≤ z1935 ∧ z1935 ≤ 7) (h6 : 0 ≤ z2068 ∧ z2068 ≤ 3) : (21 - (z1935 + 1)) < N := by omega
theorem vc_X12_feed_w_37 {p1 p2 p3 p4 p5 z1935 z2068 : Int} (h0 : z1935 < 20) (h1 : 4 ≤ z1935) (h2 : z1935 < 8) (h3 : z1935 % 4 = z2068) (h4 : (-2147483648) ≤ p1 ∧ p1 ≤ 2147483647) (h5 : (-2147483648) ≤ p2 ∧ p2 ≤ 2147483647) (h6 : (-2147483648) ≤ p3 ∧ p3 ≤ 2147483647) (h7 : (-2147483648) ≤ p4 ∧ p4 ≤ 2147483647) (h8 : (-2147483648) ≤ p5 ∧ p5 ≤ 2147483647) (h9 : 4 ≤ z1935 ∧ z1935 ≤ 7) (h10 : 0 ≤ z2068 ∧ z2068 ≤ 3) : (z1935 < 4 ∧ p2 = p1) ∨ (4 ≤ z1935 ∧ z1935 < 8 ∧ p2 = p2) ∨ (8 ≤ z1935 ∧ z1935 < 12 ∧ p2 = p3) ∨ (12 ≤ z1935 ∧ z1935 < 16 ∧ p2 = p4) ∨ (16 ≤ z1935 ∧ p2 = p5) := by omega
theorem vc_X12_feed_w_38 {z1935 z2068 : Int} (h0 : z1935 < 20) (h1 : 4 ≤ z1935) (h2 : z1935 < 8) (h3 : z1935 % 4 = z2068) (h4 : 4 ≤ z1935 ∧ z1935 ≤ 7) (h5 : 0 ≤ z2068 ∧ z2068 ≤ 3) : 0 ≤ z1935 := by omega
theorem vc_X12_feed_w_39 {z1935 z2068 : Int} (h0 : z1935 < 20) (h1 : 4 ≤ z1935) (h2 : z1935 < 8) (h3 : z1935 % 4 = z2068) (h4 : 4 ≤ z1935 ∧ z1935 ≤ 7) (h5 : 0 ≤ z2068 ∧ z2068 ≤ 3) : (24 - (8 * z2068)) = 0 ∨ (24 - (8 * z2068)) = 8 ∨ (24 - (8 * z2068)) = 16 ∨ (24 - (8 * z2068)) = 24 := by omega
theorem vc_X12_feed_w_40 {z1935 z2068 : Int} (h0 : z1935 < 20) (h1 : 4 ≤ z1935) (h2 : z1935 < 8) (h3 : z1935 % 4 = z2068) (h4 : 4 ≤ z1935 ∧ z1935 ≤ 7) (h5 : 0 ≤ z2068 ∧ z2068 ≤ 3) : (24 - (8 * z2068)) = 24 - 8 * (z1935 % 4) := by omega
theorem vc_X12_feed_w_41 {f_q z1935 z2068 : Int} (h0 : (f_q + 20) ≤ 1000) (h1 : z1935 < 20) (h2 : 4 ≤ z1935) (h3 : z1935 < 8) (h4 : z1935 % 4 = z2068) (h5 : 0 ≤ f_q ∧ f_q ≤ 980) (h6 : 4 ≤ z1935 ∧ z1935 ≤ 7) (h7 : 0 ≤ z2068 ∧ z2068 ≤ 3) : (f_q + z1935) = f_q + z1935 := by omega
theorem vc_X12_feed_w_42 {z1935 : Int} (h0 : z1935 < 4) (h1 : z1935 < 20) (h2 : 0 ≤ z1935 ∧ z1935 ≤ 19) : 0 ≤ z1935 ∧ z1935 ≤ 3 := by omega
theorem vc_X12_feed_w_43 {N z1935 z2081 : Int} (h0 : (21 - z1935) < N + 1) (h1 : z1935 < 20) (h2 : z1935 < 4) (h3 : z1935 % 4 = z2081) (h4 : 0 ≤ z1935 ∧ z1935 ≤ 3) (h5 : 0 ≤ z2081 ∧ z2081 ≤ 3) : (21 - (z1935 + 1)) < N := by omega
theorem vc_X12_feed_w_44 {p1 p2 p3 p4 p5 z1935 z2081 : Int} (h0 : z1935 < 20) (h1 : z1935 < 4) (h2 : z1935 % 4 = z2081) (h3 : (-2147483648) ≤ p1 ∧ p1 ≤ 2147483647) (h4 : (-2147483648) ≤ p2 ∧ p2 ≤ 2147483647) (h5 : (-2147483648) ≤ p3 ∧ p3 ≤ 2147483647) (h6 : (-2147483648) ≤ p4 ∧ p4 ≤ 2147483647) (h7 : (-2147483648) ≤ p5 ∧ p5 ≤ 2147483647) (h8 : 0 ≤ z1935 ∧ z1935 ≤ 3) (h9 : 0 ≤ z2081 ∧ z2081 ≤ 3) : (z1935 < 4 ∧ p1 = p1) ∨ (4 ≤ z1935 ∧ z1935 < 8 ∧ p1 = p2) ∨ (8 ≤ z1935 ∧ z1935 < 12 ∧ p1 = p3) ∨ (12 ≤ z1935 ∧ z1935 < 16 ∧ p1 = p4) ∨ (16 ≤ z1935 ∧ p1 = p5) := by omega
theorem vc_X12_feed_w_45 {z1935 z2081 : Int} (h0 : z1935 < 20) (h1 : z1935 < 4) (h2 : z1935 % 4 = z2081) (h3 : 0 ≤ z1935 ∧ z1935 ≤ 3) (h4 : 0 ≤ z2081 ∧ z2081 ≤ 3) : 0 ≤ z1935 := by omega
theorem vc_X12_feed_w_46 {z1935 z2081 : Int} (h0 : z1935 < 20) (h1 : z1935 < 4) (h2 : z1935 % 4 = z2081) (h3 : 0 ≤ z1935 ∧ z1935 ≤ 3) (h4 : 0 ≤ z2081 ∧ z2081 ≤ 3) : (24 - (8 * z2081)) = 0 ∨ (24 - (8 * z2081)) = 8 ∨ (24 - (8 * z2081)) = 16 ∨ (24 - (8 * z2081)) = 24 := by omega
theorem vc_X12_feed_w_47 {z1935 z2081 : Int} (h0 : z1935 < 20) (h1 : z1935 < 4) (h2 : z1935 % 4 = z2081) (h3 : 0 ≤ z1935 ∧ z1935 ≤ 3) (h4 : 0 ≤ z2081 ∧ z2081 ≤ 3) : (24 - (8 * z2081)) = 24 - 8 * (z1935 % 4) := by omega
theorem vc_X12_feed_w_48 {f_q z1935 z2081 : Int} (h0 : (f_q + 20) ≤ 1000) (h1 : z1935 < 20) (h2 : z1935 < 4) (h3 : z1935 % 4 = z2081) (h4 : 0 ≤ f_q ∧ f_q ≤ 980) (h5 : 0 ≤ z1935 ∧ z1935 ≤ 3) (h6 : 0 ≤ z2081 ∧ z2081 ≤ 3) : (f_q + z1935) = f_q + z1935 := by omega
set_option maxRecDepth 4000 in
set_option maxHeartbeats 4000000 in
theorem c_X12_feed_w {l : Launch} {D : va_G} {c : Nat → ClassId} {H0 : Heap} {sa : Nat × Nat × (Nat → Int32)} {w : mW} {μ : mM} (hw : mWF w) (hT : mT w μ) {p1 : Int} (hp1 : (-2147483648) ≤ p1 ∧ p1 ≤ 2147483647) {p2 : Int} (hp2 : (-2147483648) ≤ p2 ∧ p2 ≤ 2147483647) {p3 : Int} (hp3 : (-2147483648) ≤ p3 ∧ p3 ≤ 2147483647) {p4 : Int} (hp4 : (-2147483648) ≤ p4 ∧ p4 ≤ 2147483647) {p5 : Int} (hp5 : (-2147483648) ≤ p5 ∧ p5 ≤ 2147483647) {f_q : Int} (q_f_q : μ 106 1 = f_q) : sC (gG l D c H0 sa) mX12_feed 1 0 0 [.ref 106, iv p1, iv p2, iv p3, iv p4, iv p5] (mk w μ) (qI w [106001, 107999] μ (fun z μ1 => ∃ o_q : Int, μ1 106 1 = o_q ∧ ((-2147483648) ≤ z ∧ z ≤ 2147483647) ∧ (f_q ≤ 980 → z = f_q + 20 ∧ o_q = f_q + 20) ∧ (980 < f_q → z = -3 ∧ o_q = f_q) ∧ (((z < 0 ∧ μ1 107 = μ 107) ∨ (0 ≤ z ∧ fdR μ μ1 f_q 20 p1 p2 p3 p4 p5))) ∧ True)) := by
  refine sC.of rfl (by decide) (le_t rfl) ?_
  have ht_f_q : (0 ≤ f_q ∧ f_q ≤ 1000) := by rw [← q_f_q]; exact hT 106 106 (A_106 hw) 1
  refine mr_lvE (lv' := [(0, .ref 106), (1, iv p1), (2, iv p2), (3, iv p3), (4, iv p4), (5, iv p5)]) rfl ?_
  refine sv_aload_n (pc := 0) dX12_feed_0 rfl rfl ?_
  refine gk_X12_1 (pc := 1) dX12_feed_1 wF_X12_1 (A_106 hw) q_f_q ?_
  refine mr_bipush (pc := 4) (z := 20) dX12_feed_4 (by decide) ?_
  refine mr_iadd (pc := 6) (x := f_q) (y := 20) dX12_feed_6 ?_
  refine mr_sipush (pc := 7) (z := 1000) dX12_feed_7 (by decide) ?_
  refine mr_icmp_le (pc := 10) (tgt := 16) dX12_feed_10 (by decide) (r32 (rAdd (e := 20) (f := 1020) ht_f_q (rR (x := 20)) rfl) rfl) (r32 (rR (x := 1000)) rfl) (fun h1111 => ?_) (fun h1111 => ?_)
  · have h1112 : 0 ≤ f_q ∧ f_q ≤ 980 := (vc_X11_feed_w_1 h1111 ht_f_q)
    refine mr_iconst (pc := 16) (z := 0) dX12_feed_16 ?_
    refine mr_istore (pc := 17) (lv' := [(6, iv 0), (0, .ref 106), (1, iv p1), (2, iv p2), (3, iv p3), (4, iv p4), (5, iv p5)]) dX12_feed_17 (by decide) rfl ?_
    have L1937 : ∀ (nL1937 : Nat) (z1935 : Int) (μ1936 : mM), mT w μ1936 → mF [107999] w μ μ1936 → (0 ≤ z1935 ∧ z1935 ≤ 20) → fdR μ μ1936 f_q z1935 p1 p2 p3 p4 p5 → (21 - z1935) < (nL1937 : Int) → sV (gG l D c H0 sa) mX12_feed (sRm 1 0 0) (sZ (gG l D c H0 sa) 0 0 (qI w [106001, 107999] μ (fun z μ1 => ∃ o_q : Int, μ1 106 1 = o_q ∧ ((-2147483648) ≤ z ∧ z ≤ 2147483647) ∧ (f_q ≤ 980 → z = f_q + 20 ∧ o_q = f_q + 20) ∧ (980 < f_q → z = -3 ∧ o_q = f_q) ∧ (((z < 0 ∧ μ1 107 = μ 107) ∨ (0 ≤ z ∧ fdR μ μ1 f_q 20 p1 p2 p3 p4 p5))) ∧ True))) 19 [(0, .ref 106), (1, iv p1), (2, iv p2), (3, iv p3), (4, iv p4), (5, iv p5), (6, iv z1935)] [] (mk w μ1936) 0 0 := by
      intro nL1937
      induction nL1937 with
      | zero => intro z1935 μ1936 T1939 F1940 h1938 R1942 h1943; exact ((vc_X12_tieOf_1 h1943 h1938)).elim
      | succ nL1937 ih1944 =>
        intro z1935 μ1936 T1939 F1940 h1938 R1942 h1943
        refine mr_iload (pc := 19) (z := z1935) dX12_feed_19 rfl ?_
        refine mr_bipush (pc := 21) (z := 20) dX12_feed_21 (by decide) ?_
        refine mr_icmp_ge (pc := 23) (tgt := 106) dX12_feed_23 (by decide) (r32 h1938 rfl) (r32 (rR (x := 20)) rfl) (fun h2015 => ?_) (fun h2015 => ?_)
        · have h2016 : 20 ≤ z1935 ∧ z1935 ≤ 20 := (vc_X12_feed_3 h2015 h1938)
          refine sv_aload_n (pc := 106) dX12_feed_106 rfl rfl ?_
          refine sv_dup (pc := 107) dX12_feed_107 rfl ?_
          refine gk_X12_1 (pc := 108) dX12_feed_108 wF_X12_1 (A_106 hw) (F1940.f (A_106 hw) rfl q_f_q) ?_
          refine mr_bipush (pc := 111) (z := 20) dX12_feed_111 (by decide) ?_
          refine mr_iadd (pc := 113) (x := f_q) (y := 20) dX12_feed_113 ?_
          refine pf_X12_1 (pc := 114) dX12_feed_114 wF_X12_1 (A_106 hw) T1939 (rW (c := 0) (d := 1000) (rAdd (e := 20) (f := 1000) h1112 (rR (x := 20)) rfl) rfl) fun μ2017 u2018 T2019 => ?_
          refine sv_aload_n (pc := 117) dX12_feed_117 rfl rfl ?_
          refine gk_X12_1 (pc := 118) dX12_feed_118 wF_X12_1 (A_106 hw) u2018.1 ?_
          exact mr_iret dX12_feed_121 rfl (le_t rfl) (le_t rfl) T2019 (mF.up (mF.call mF.refl F1940 rfl) (A_106 hw) u2018 rfl) ⟨(f_q + 20), u2018.1, (rW (c := (-2147483648)) (d := 2147483647) (rAdd (e := 20) (f := 1000) h1112 (rR (x := 20)) rfl) rfl), (vc_X12_feed_w_4 h1111 h1112), (vc_X12_feed_w_5 h1111 h1112), (Or.inr ⟨(vc_X12_feed_w_6 h1111 h1112), fdR.of R1942 (rowB (A_107 hw) ((mF.up mF.refl (A_106 hw) u2018 rfl) : mF [106001] w μ1936 μ2017) rfl rfl) (vc_X12_feed_w_7 h2015 h2016)⟩), trivial⟩
        have h2020 : 0 ≤ z1935 ∧ z1935 ≤ 19 := (vc_X12_feed_4 h2015 h1938)
        refine mr_iload (pc := 26) (z := z1935) dX12_feed_26 rfl ?_
        refine mr_iconst (pc := 28) (z := 4) dX12_feed_28 ?_
        refine mr_icmp_ge (pc := 29) (tgt := 36) dX12_feed_29 (by decide) (r32 h2020 rfl) (r32 (rR (x := 4)) rfl) (fun h2021 => ?_) (fun h2021 => ?_)
        · have h2022 : 4 ≤ z1935 ∧ z1935 ≤ 19 := (vc_X12_feed_w_9 h2021 h2015 h2020)
          refine mr_iload (pc := 36) (z := z1935) dX12_feed_36 rfl ?_
          refine mr_bipush (pc := 38) (z := 8) dX12_feed_38 (by decide) ?_
          refine mr_icmp_ge (pc := 40) (tgt := 47) dX12_feed_40 (by decide) (r32 h2022 rfl) (r32 (rR (x := 8)) rfl) (fun h2023 => ?_) (fun h2023 => ?_)
          · have h2024 : 8 ≤ z1935 ∧ z1935 ≤ 19 := (vc_X12_feed_w_10 h2023 h2015 h2021 h2022)
            refine mr_iload (pc := 47) (z := z1935) dX12_feed_47 rfl ?_
            refine mr_bipush (pc := 49) (z := 12) dX12_feed_49 (by decide) ?_
            refine mr_icmp_ge (pc := 51) (tgt := 58) dX12_feed_51 (by decide) (r32 h2024 rfl) (r32 (rR (x := 12)) rfl) (fun h2025 => ?_) (fun h2025 => ?_)
            · have h2026 : 12 ≤ z1935 ∧ z1935 ≤ 19 := (vc_X12_feed_w_11 h2025 h2015 h2021 h2023 h2024)
              refine mr_iload (pc := 58) (z := z1935) dX12_feed_58 rfl ?_
              refine mr_bipush (pc := 60) (z := 16) dX12_feed_60 (by decide) ?_
              refine mr_icmp_ge (pc := 62) (tgt := 70) dX12_feed_62 (by decide) (r32 h2026 rfl) (r32 (rR (x := 16)) rfl) (fun h2027 => ?_) (fun h2027 => ?_)
              · have h2028 : 16 ≤ z1935 ∧ z1935 ≤ 19 := (vc_X12_feed_w_12 h2027 h2015 h2021 h2023 h2025 h2026)
                refine mr_iload (pc := 70) (z := p5) dX12_feed_70 rfl ?_
                refine mr_istore (pc := 72) (lv' := [(7, iv p5), (0, .ref 106), (1, iv p1), (2, iv p2), (3, iv p3), (4, iv p4), (5, iv p5), (6, iv z1935)]) dX12_feed_72 (by decide) rfl ?_
                refine sv_aload_n (pc := 74) dX12_feed_74 rfl rfl ?_
                refine gf_X12_0 (pc := 75) dX12_feed_75 wF_X12_7 (A_106 hw) T1939 ?_
                refine sv_aload_n (pc := 78) dX12_feed_78 rfl rfl ?_
                refine gk_X12_1 (pc := 79) dX12_feed_79 wF_X12_1 (A_106 hw) (F1940.f (A_106 hw) rfl q_f_q) ?_
                refine mr_iload (pc := 82) (z := z1935) dX12_feed_82 rfl ?_
                refine mr_iadd (pc := 84) (x := f_q) (y := z1935) dX12_feed_84 ?_
                refine mr_iload (pc := 85) (z := p5) dX12_feed_85 rfl ?_
                refine mr_bipush (pc := 87) (z := 24) dX12_feed_87 (by decide) ?_
                refine mr_bipush (pc := 89) (z := 8) dX12_feed_89 (by decide) ?_
                refine mr_iload (pc := 91) (z := z1935) dX12_feed_91 rfl ?_
                refine mr_iconst (pc := 93) (z := 4) dX12_feed_93 ?_
                refine mr_irem (pc := 94) (x := z1935) (y := 4) dX12_feed_94 (rW (c := 0) (d := 2147483647) h2028 rfl) vc_X12_feed_w_13 ?_
                refine mr_gen (P := fun z => 0 ≤ z ∧ z ≤ 3) (rMod h2028 rfl) fun z2029 q2030 h2031 => ?_
                refine mr_imul (pc := 95) (x := 8) (y := z2029) dX12_feed_95 ?_
                refine mr_isub (pc := 96) (x := 24) (y := (8 * z2029)) dX12_feed_96 ?_
                refine mr_ishr (pc := 97) (x := p5) (y := (24 - (8 * z2029))) dX12_feed_97 ?_
                refine mr_gen (P := fun z => (-2147483648) ≤ z ∧ z ≤ 2147483647) (r32i _) fun z2032 q2033 h2034 => ?_
                refine mr_i2b (pc := 98) dX12_feed_98 ?_
                refine mr_gen (P := fun z => (-128) ≤ z ∧ z ≤ 127) (rByte _) fun z2035 q2036 h2037 => ?_
                refine ss_107 (pc := 99) dX12_feed_99 (A_107 hw) T1939 (rIx (n := 1000) (rAdd (e := 16) (f := 999) h1112 h2028 rfl) rfl) h2037 fun μ2038 u2039 T2040 => ?_
                refine mr_iinc (pc := 100) (lv' := [(6, iv (z1935 + 1)), (7, iv p5), (0, .ref 106), (1, iv p1), (2, iv p2), (3, iv p3), (4, iv p4), (5, iv p5)]) dX12_feed_100 rfl (by decide) rfl ?_
                refine sv_goto (pc := 103) (tgt := 19) dX12_feed_103 (by decide) ?_
                refine mr_lvS (lv' := [(0, .ref 106), (1, iv p1), (2, iv p2), (3, iv p3), (4, iv p4), (5, iv p5), (6, iv (z1935 + 1))]) (List.forall_mem_cons.mpr ⟨rfl, List.forall_mem_cons.mpr ⟨rfl, List.forall_mem_cons.mpr ⟨rfl, List.forall_mem_cons.mpr ⟨rfl, List.forall_mem_cons.mpr ⟨rfl, List.forall_mem_cons.mpr ⟨rfl, List.forall_mem_cons.mpr ⟨rfl, fun _ h => absurd h List.not_mem_nil⟩⟩⟩⟩⟩⟩⟩) ?_
                exact ih1944 (z1935 + 1) μ2038 T2040 (mF.up (mF.call mF.refl F1940 rfl) (A_107 hw) u2039 rfl) (rW (c := 0) (d := 20) (rAdd (e := 17) (f := 20) h2028 (rR (x := 1)) rfl) rfl) (fdR.next R1942 (vc_X12_feed_w_16 h1111 h1112) (vc_X12_feed_w_17 h2015 h2021 h2023 h2025 h2027 q2030 h2028 h2031) (vc_X12_feed_w_18 h2015 h2021 h2023 h2025 h2027 q2030 h2028 h2031) q2033 q2036 (vc_X12_feed_w_19 h2015 h2021 h2023 h2025 h2027 q2030 h2028 h2031) (fdS.is (vc_X12_feed_w_17 h2015 h2021 h2023 h2025 h2027 q2030 h2028 h2031) (vc_X12_feed_w_15 h2015 h2021 h2023 h2025 h2027 q2030 hp1 hp2 hp3 hp4 hp5 h2028 h2031)) u2039 (vc_X12_feed_w_20 h1111 h2015 h2021 h2023 h2025 h2027 q2030 h1112 h2028 h2031)) (vc_X12_feed_w_14 (nS h1943) h2015 h2021 h2023 h2025 h2027 q2030 h2028 h2031)
              have h2041 : 12 ≤ z1935 ∧ z1935 ≤ 15 := (vc_X12_feed_w_21 h2027 h2015 h2021 h2023 h2025 h2026)
              refine mr_iload (pc := 65) (z := p4) dX12_feed_65 rfl ?_
              refine sv_goto (pc := 67) (tgt := 72) dX12_feed_67 (by decide) ?_
              refine mr_istore (pc := 72) (lv' := [(7, iv p4), (0, .ref 106), (1, iv p1), (2, iv p2), (3, iv p3), (4, iv p4), (5, iv p5), (6, iv z1935)]) dX12_feed_72 (by decide) rfl ?_
              refine sv_aload_n (pc := 74) dX12_feed_74 rfl rfl ?_
              refine gf_X12_0 (pc := 75) dX12_feed_75 wF_X12_7 (A_106 hw) T1939 ?_
              refine sv_aload_n (pc := 78) dX12_feed_78 rfl rfl ?_
              refine gk_X12_1 (pc := 79) dX12_feed_79 wF_X12_1 (A_106 hw) (F1940.f (A_106 hw) rfl q_f_q) ?_
              refine mr_iload (pc := 82) (z := z1935) dX12_feed_82 rfl ?_
              refine mr_iadd (pc := 84) (x := f_q) (y := z1935) dX12_feed_84 ?_
              refine mr_iload (pc := 85) (z := p4) dX12_feed_85 rfl ?_
              refine mr_bipush (pc := 87) (z := 24) dX12_feed_87 (by decide) ?_
              refine mr_bipush (pc := 89) (z := 8) dX12_feed_89 (by decide) ?_
              refine mr_iload (pc := 91) (z := z1935) dX12_feed_91 rfl ?_
              refine mr_iconst (pc := 93) (z := 4) dX12_feed_93 ?_
              refine mr_irem (pc := 94) (x := z1935) (y := 4) dX12_feed_94 (rW (c := 0) (d := 2147483647) h2041 rfl) vc_X12_feed_w_13 ?_
              refine mr_gen (P := fun z => 0 ≤ z ∧ z ≤ 3) (rMod h2041 rfl) fun z2042 q2043 h2044 => ?_
              refine mr_imul (pc := 95) (x := 8) (y := z2042) dX12_feed_95 ?_
              refine mr_isub (pc := 96) (x := 24) (y := (8 * z2042)) dX12_feed_96 ?_
              refine mr_ishr (pc := 97) (x := p4) (y := (24 - (8 * z2042))) dX12_feed_97 ?_
              refine mr_gen (P := fun z => (-2147483648) ≤ z ∧ z ≤ 2147483647) (r32i _) fun z2045 q2046 h2047 => ?_
              refine mr_i2b (pc := 98) dX12_feed_98 ?_
              refine mr_gen (P := fun z => (-128) ≤ z ∧ z ≤ 127) (rByte _) fun z2048 q2049 h2050 => ?_
              refine ss_107 (pc := 99) dX12_feed_99 (A_107 hw) T1939 (rIx (n := 1000) (rAdd (e := 12) (f := 995) h1112 h2041 rfl) rfl) h2050 fun μ2051 u2052 T2053 => ?_
              refine mr_iinc (pc := 100) (lv' := [(6, iv (z1935 + 1)), (7, iv p4), (0, .ref 106), (1, iv p1), (2, iv p2), (3, iv p3), (4, iv p4), (5, iv p5)]) dX12_feed_100 rfl (by decide) rfl ?_
              refine sv_goto (pc := 103) (tgt := 19) dX12_feed_103 (by decide) ?_
              refine mr_lvS (lv' := [(0, .ref 106), (1, iv p1), (2, iv p2), (3, iv p3), (4, iv p4), (5, iv p5), (6, iv (z1935 + 1))]) (List.forall_mem_cons.mpr ⟨rfl, List.forall_mem_cons.mpr ⟨rfl, List.forall_mem_cons.mpr ⟨rfl, List.forall_mem_cons.mpr ⟨rfl, List.forall_mem_cons.mpr ⟨rfl, List.forall_mem_cons.mpr ⟨rfl, List.forall_mem_cons.mpr ⟨rfl, fun _ h => absurd h List.not_mem_nil⟩⟩⟩⟩⟩⟩⟩) ?_
              exact ih1944 (z1935 + 1) μ2051 T2053 (mF.up (mF.call mF.refl F1940 rfl) (A_107 hw) u2052 rfl) (rW (c := 0) (d := 20) (rAdd (e := 13) (f := 16) h2041 (rR (x := 1)) rfl) rfl) (fdR.next R1942 (vc_X12_feed_w_16 h1111 h1112) (vc_X12_feed_w_24 h2015 h2021 h2023 h2025 h2027 q2043 h2041 h2044) (vc_X12_feed_w_25 h2015 h2021 h2023 h2025 h2027 q2043 h2041 h2044) q2046 q2049 (vc_X12_feed_w_26 h2015 h2021 h2023 h2025 h2027 q2043 h2041 h2044) (fdS.is (vc_X12_feed_w_24 h2015 h2021 h2023 h2025 h2027 q2043 h2041 h2044) (vc_X12_feed_w_23 h2015 h2021 h2023 h2025 h2027 q2043 hp1 hp2 hp3 hp4 hp5 h2041 h2044)) u2052 (vc_X12_feed_w_27 h1111 h2015 h2021 h2023 h2025 h2027 q2043 h1112 h2041 h2044)) (vc_X12_feed_w_22 (nS h1943) h2015 h2021 h2023 h2025 h2027 q2043 h2041 h2044)
            have h2054 : 8 ≤ z1935 ∧ z1935 ≤ 11 := (vc_X12_feed_w_28 h2025 h2015 h2021 h2023 h2024)
            refine mr_iload_n (pc := 54) (z := p3) dX12_feed_54 rfl rfl ?_
            refine sv_goto (pc := 55) (tgt := 72) dX12_feed_55 (by decide) ?_
            refine mr_istore (pc := 72) (lv' := [(7, iv p3), (0, .ref 106), (1, iv p1), (2, iv p2), (3, iv p3), (4, iv p4), (5, iv p5), (6, iv z1935)]) dX12_feed_72 (by decide) rfl ?_
            refine sv_aload_n (pc := 74) dX12_feed_74 rfl rfl ?_
            refine gf_X12_0 (pc := 75) dX12_feed_75 wF_X12_7 (A_106 hw) T1939 ?_
            refine sv_aload_n (pc := 78) dX12_feed_78 rfl rfl ?_
            refine gk_X12_1 (pc := 79) dX12_feed_79 wF_X12_1 (A_106 hw) (F1940.f (A_106 hw) rfl q_f_q) ?_
            refine mr_iload (pc := 82) (z := z1935) dX12_feed_82 rfl ?_
            refine mr_iadd (pc := 84) (x := f_q) (y := z1935) dX12_feed_84 ?_
            refine mr_iload (pc := 85) (z := p3) dX12_feed_85 rfl ?_
            refine mr_bipush (pc := 87) (z := 24) dX12_feed_87 (by decide) ?_
            refine mr_bipush (pc := 89) (z := 8) dX12_feed_89 (by decide) ?_
            refine mr_iload (pc := 91) (z := z1935) dX12_feed_91 rfl ?_
            refine mr_iconst (pc := 93) (z := 4) dX12_feed_93 ?_
            refine mr_irem (pc := 94) (x := z1935) (y := 4) dX12_feed_94 (rW (c := 0) (d := 2147483647) h2054 rfl) vc_X12_feed_w_13 ?_
            refine mr_gen (P := fun z => 0 ≤ z ∧ z ≤ 3) (rMod h2054 rfl) fun z2055 q2056 h2057 => ?_
            refine mr_imul (pc := 95) (x := 8) (y := z2055) dX12_feed_95 ?_
            refine mr_isub (pc := 96) (x := 24) (y := (8 * z2055)) dX12_feed_96 ?_
            refine mr_ishr (pc := 97) (x := p3) (y := (24 - (8 * z2055))) dX12_feed_97 ?_
            refine mr_gen (P := fun z => (-2147483648) ≤ z ∧ z ≤ 2147483647) (r32i _) fun z2058 q2059 h2060 => ?_
            refine mr_i2b (pc := 98) dX12_feed_98 ?_
            refine mr_gen (P := fun z => (-128) ≤ z ∧ z ≤ 127) (rByte _) fun z2061 q2062 h2063 => ?_
            refine ss_107 (pc := 99) dX12_feed_99 (A_107 hw) T1939 (rIx (n := 1000) (rAdd (e := 8) (f := 991) h1112 h2054 rfl) rfl) h2063 fun μ2064 u2065 T2066 => ?_
            refine mr_iinc (pc := 100) (lv' := [(6, iv (z1935 + 1)), (7, iv p3), (0, .ref 106), (1, iv p1), (2, iv p2), (3, iv p3), (4, iv p4), (5, iv p5)]) dX12_feed_100 rfl (by decide) rfl ?_
            refine sv_goto (pc := 103) (tgt := 19) dX12_feed_103 (by decide) ?_
            refine mr_lvS (lv' := [(0, .ref 106), (1, iv p1), (2, iv p2), (3, iv p3), (4, iv p4), (5, iv p5), (6, iv (z1935 + 1))]) (List.forall_mem_cons.mpr ⟨rfl, List.forall_mem_cons.mpr ⟨rfl, List.forall_mem_cons.mpr ⟨rfl, List.forall_mem_cons.mpr ⟨rfl, List.forall_mem_cons.mpr ⟨rfl, List.forall_mem_cons.mpr ⟨rfl, List.forall_mem_cons.mpr ⟨rfl, fun _ h => absurd h List.not_mem_nil⟩⟩⟩⟩⟩⟩⟩) ?_
            exact ih1944 (z1935 + 1) μ2064 T2066 (mF.up (mF.call mF.refl F1940 rfl) (A_107 hw) u2065 rfl) (rW (c := 0) (d := 20) (rAdd (e := 9) (f := 12) h2054 (rR (x := 1)) rfl) rfl) (fdR.next R1942 (vc_X12_feed_w_16 h1111 h1112) (vc_X12_feed_w_31 h2015 h2021 h2023 h2025 q2056 h2054 h2057) (vc_X12_feed_w_32 h2015 h2021 h2023 h2025 q2056 h2054 h2057) q2059 q2062 (vc_X12_feed_w_33 h2015 h2021 h2023 h2025 q2056 h2054 h2057) (fdS.is (vc_X12_feed_w_31 h2015 h2021 h2023 h2025 q2056 h2054 h2057) (vc_X12_feed_w_30 h2015 h2021 h2023 h2025 q2056 hp1 hp2 hp3 hp4 hp5 h2054 h2057)) u2065 (vc_X12_feed_w_34 h1111 h2015 h2021 h2023 h2025 q2056 h1112 h2054 h2057)) (vc_X12_feed_w_29 (nS h1943) h2015 h2021 h2023 h2025 q2056 h2054 h2057)
          have h2067 : 4 ≤ z1935 ∧ z1935 ≤ 7 := (vc_X12_feed_w_35 h2023 h2015 h2021 h2022)
          refine mr_iload_n (pc := 43) (z := p2) dX12_feed_43 rfl rfl ?_
          refine sv_goto (pc := 44) (tgt := 72) dX12_feed_44 (by decide) ?_
          refine mr_istore (pc := 72) (lv' := [(7, iv p2), (0, .ref 106), (1, iv p1), (2, iv p2), (3, iv p3), (4, iv p4), (5, iv p5), (6, iv z1935)]) dX12_feed_72 (by decide) rfl ?_
          refine sv_aload_n (pc := 74) dX12_feed_74 rfl rfl ?_
          refine gf_X12_0 (pc := 75) dX12_feed_75 wF_X12_7 (A_106 hw) T1939 ?_
          refine sv_aload_n (pc := 78) dX12_feed_78 rfl rfl ?_
          refine gk_X12_1 (pc := 79) dX12_feed_79 wF_X12_1 (A_106 hw) (F1940.f (A_106 hw) rfl q_f_q) ?_
          refine mr_iload (pc := 82) (z := z1935) dX12_feed_82 rfl ?_
          refine mr_iadd (pc := 84) (x := f_q) (y := z1935) dX12_feed_84 ?_
          refine mr_iload (pc := 85) (z := p2) dX12_feed_85 rfl ?_
          refine mr_bipush (pc := 87) (z := 24) dX12_feed_87 (by decide) ?_
          refine mr_bipush (pc := 89) (z := 8) dX12_feed_89 (by decide) ?_
          refine mr_iload (pc := 91) (z := z1935) dX12_feed_91 rfl ?_
          refine mr_iconst (pc := 93) (z := 4) dX12_feed_93 ?_
          refine mr_irem (pc := 94) (x := z1935) (y := 4) dX12_feed_94 (rW (c := 0) (d := 2147483647) h2067 rfl) vc_X12_feed_w_13 ?_
          refine mr_gen (P := fun z => 0 ≤ z ∧ z ≤ 3) (rMod h2067 rfl) fun z2068 q2069 h2070 => ?_
          refine mr_imul (pc := 95) (x := 8) (y := z2068) dX12_feed_95 ?_
          refine mr_isub (pc := 96) (x := 24) (y := (8 * z2068)) dX12_feed_96 ?_
          refine mr_ishr (pc := 97) (x := p2) (y := (24 - (8 * z2068))) dX12_feed_97 ?_
          refine mr_gen (P := fun z => (-2147483648) ≤ z ∧ z ≤ 2147483647) (r32i _) fun z2071 q2072 h2073 => ?_
          refine mr_i2b (pc := 98) dX12_feed_98 ?_
          refine mr_gen (P := fun z => (-128) ≤ z ∧ z ≤ 127) (rByte _) fun z2074 q2075 h2076 => ?_
          refine ss_107 (pc := 99) dX12_feed_99 (A_107 hw) T1939 (rIx (n := 1000) (rAdd (e := 4) (f := 987) h1112 h2067 rfl) rfl) h2076 fun μ2077 u2078 T2079 => ?_
          refine mr_iinc (pc := 100) (lv' := [(6, iv (z1935 + 1)), (7, iv p2), (0, .ref 106), (1, iv p1), (2, iv p2), (3, iv p3), (4, iv p4), (5, iv p5)]) dX12_feed_100 rfl (by decide) rfl ?_
          refine sv_goto (pc := 103) (tgt := 19) dX12_feed_103 (by decide) ?_
          refine mr_lvS (lv' := [(0, .ref 106), (1, iv p1), (2, iv p2), (3, iv p3), (4, iv p4), (5, iv p5), (6, iv (z1935 + 1))]) (List.forall_mem_cons.mpr ⟨rfl, List.forall_mem_cons.mpr ⟨rfl, List.forall_mem_cons.mpr ⟨rfl, List.forall_mem_cons.mpr ⟨rfl, List.forall_mem_cons.mpr ⟨rfl, List.forall_mem_cons.mpr ⟨rfl, List.forall_mem_cons.mpr ⟨rfl, fun _ h => absurd h List.not_mem_nil⟩⟩⟩⟩⟩⟩⟩) ?_
          exact ih1944 (z1935 + 1) μ2077 T2079 (mF.up (mF.call mF.refl F1940 rfl) (A_107 hw) u2078 rfl) (rW (c := 0) (d := 20) (rAdd (e := 5) (f := 8) h2067 (rR (x := 1)) rfl) rfl) (fdR.next R1942 (vc_X12_feed_w_16 h1111 h1112) (vc_X12_feed_w_38 h2015 h2021 h2023 q2069 h2067 h2070) (vc_X12_feed_w_39 h2015 h2021 h2023 q2069 h2067 h2070) q2072 q2075 (vc_X12_feed_w_40 h2015 h2021 h2023 q2069 h2067 h2070) (fdS.is (vc_X12_feed_w_38 h2015 h2021 h2023 q2069 h2067 h2070) (vc_X12_feed_w_37 h2015 h2021 h2023 q2069 hp1 hp2 hp3 hp4 hp5 h2067 h2070)) u2078 (vc_X12_feed_w_41 h1111 h2015 h2021 h2023 q2069 h1112 h2067 h2070)) (vc_X12_feed_w_36 (nS h1943) h2015 h2021 h2023 q2069 h2067 h2070)
        have h2080 : 0 ≤ z1935 ∧ z1935 ≤ 3 := (vc_X12_feed_w_42 h2021 h2015 h2020)
        refine mr_iload_n (pc := 32) (z := p1) dX12_feed_32 rfl rfl ?_
        refine sv_goto (pc := 33) (tgt := 72) dX12_feed_33 (by decide) ?_
        refine mr_istore (pc := 72) (lv' := [(7, iv p1), (0, .ref 106), (1, iv p1), (2, iv p2), (3, iv p3), (4, iv p4), (5, iv p5), (6, iv z1935)]) dX12_feed_72 (by decide) rfl ?_
        refine sv_aload_n (pc := 74) dX12_feed_74 rfl rfl ?_
        refine gf_X12_0 (pc := 75) dX12_feed_75 wF_X12_7 (A_106 hw) T1939 ?_
        refine sv_aload_n (pc := 78) dX12_feed_78 rfl rfl ?_
        refine gk_X12_1 (pc := 79) dX12_feed_79 wF_X12_1 (A_106 hw) (F1940.f (A_106 hw) rfl q_f_q) ?_
        refine mr_iload (pc := 82) (z := z1935) dX12_feed_82 rfl ?_
        refine mr_iadd (pc := 84) (x := f_q) (y := z1935) dX12_feed_84 ?_
        refine mr_iload (pc := 85) (z := p1) dX12_feed_85 rfl ?_
        refine mr_bipush (pc := 87) (z := 24) dX12_feed_87 (by decide) ?_
        refine mr_bipush (pc := 89) (z := 8) dX12_feed_89 (by decide) ?_
        refine mr_iload (pc := 91) (z := z1935) dX12_feed_91 rfl ?_
        refine mr_iconst (pc := 93) (z := 4) dX12_feed_93 ?_
        refine mr_irem (pc := 94) (x := z1935) (y := 4) dX12_feed_94 (rW (c := 0) (d := 2147483647) h2080 rfl) vc_X12_feed_w_13 ?_
        refine mr_gen (P := fun z => 0 ≤ z ∧ z ≤ 3) (rMod h2080 rfl) fun z2081 q2082 h2083 => ?_
        refine mr_imul (pc := 95) (x := 8) (y := z2081) dX12_feed_95 ?_
        refine mr_isub (pc := 96) (x := 24) (y := (8 * z2081)) dX12_feed_96 ?_
        refine mr_ishr (pc := 97) (x := p1) (y := (24 - (8 * z2081))) dX12_feed_97 ?_
        refine mr_gen (P := fun z => (-2147483648) ≤ z ∧ z ≤ 2147483647) (r32i _) fun z2084 q2085 h2086 => ?_
        refine mr_i2b (pc := 98) dX12_feed_98 ?_
        refine mr_gen (P := fun z => (-128) ≤ z ∧ z ≤ 127) (rByte _) fun z2087 q2088 h2089 => ?_
        refine ss_107 (pc := 99) dX12_feed_99 (A_107 hw) T1939 (rIx (n := 1000) (rAdd (e := 0) (f := 983) h1112 h2080 rfl) rfl) h2089 fun μ2090 u2091 T2092 => ?_
        refine mr_iinc (pc := 100) (lv' := [(6, iv (z1935 + 1)), (7, iv p1), (0, .ref 106), (1, iv p1), (2, iv p2), (3, iv p3), (4, iv p4), (5, iv p5)]) dX12_feed_100 rfl (by decide) rfl ?_
        refine sv_goto (pc := 103) (tgt := 19) dX12_feed_103 (by decide) ?_
        refine mr_lvS (lv' := [(0, .ref 106), (1, iv p1), (2, iv p2), (3, iv p3), (4, iv p4), (5, iv p5), (6, iv (z1935 + 1))]) (List.forall_mem_cons.mpr ⟨rfl, List.forall_mem_cons.mpr ⟨rfl, List.forall_mem_cons.mpr ⟨rfl, List.forall_mem_cons.mpr ⟨rfl, List.forall_mem_cons.mpr ⟨rfl, List.forall_mem_cons.mpr ⟨rfl, List.forall_mem_cons.mpr ⟨rfl, fun _ h => absurd h List.not_mem_nil⟩⟩⟩⟩⟩⟩⟩) ?_
        exact ih1944 (z1935 + 1) μ2090 T2092 (mF.up (mF.call mF.refl F1940 rfl) (A_107 hw) u2091 rfl) (rW (c := 0) (d := 20) (rAdd (e := 1) (f := 4) h2080 (rR (x := 1)) rfl) rfl) (fdR.next R1942 (vc_X12_feed_w_16 h1111 h1112) (vc_X12_feed_w_45 h2015 h2021 q2082 h2080 h2083) (vc_X12_feed_w_46 h2015 h2021 q2082 h2080 h2083) q2085 q2088 (vc_X12_feed_w_47 h2015 h2021 q2082 h2080 h2083) (fdS.is (vc_X12_feed_w_45 h2015 h2021 q2082 h2080 h2083) (vc_X12_feed_w_44 h2015 h2021 q2082 hp1 hp2 hp3 hp4 hp5 h2080 h2083)) u2091 (vc_X12_feed_w_48 h1111 h2015 h2021 q2082 h1112 h2080 h2083)) (vc_X12_feed_w_43 (nS h1943) h2015 h2021 q2082 h2080 h2083)
    refine mr_lvS (lv' := [(0, .ref 106), (1, iv p1), (2, iv p2), (3, iv p3), (4, iv p4), (5, iv p5), (6, iv 0)]) (List.forall_mem_cons.mpr ⟨rfl, List.forall_mem_cons.mpr ⟨rfl, List.forall_mem_cons.mpr ⟨rfl, List.forall_mem_cons.mpr ⟨rfl, List.forall_mem_cons.mpr ⟨rfl, List.forall_mem_cons.mpr ⟨rfl, List.forall_mem_cons.mpr ⟨rfl, fun _ h => absurd h List.not_mem_nil⟩⟩⟩⟩⟩⟩⟩) ?_
    exact L1937 22 0 μ hT mF.refl (rW (c := 0) (d := 20) (rR (x := 0)) rfl) (fdR.start vc_X10_tieBetween_v_23) vc_X12_tieOf_12
  have h2093 : 981 ≤ f_q ∧ f_q ≤ 1000 := (vc_X11_feed_w_15 h1111 ht_f_q)
  refine mr_bipush (pc := 13) (z := (-3)) dX12_feed_13 (by decide) ?_
  exact mr_iret dX12_feed_15 rfl (le_t rfl) (le_t rfl) hT mF.refl ⟨f_q, q_f_q, (rW (c := (-2147483648)) (d := 2147483647) (rR (x := (-3))) rfl), (vc_X11_feed_w_16 h1111 h2093), (vc_X11_feed_w_17 h1111 h2093), (Or.inl ⟨by decide, rfl⟩), trivial⟩
