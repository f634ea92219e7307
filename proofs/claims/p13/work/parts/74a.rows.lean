theorem vc_X12_byteAt_f_1 {f_size p1 : Int} (h0 : p1 < f_size) (h1 : 0 ≤ f_size ∧ f_size ≤ 1000) (h2 : 0 ≤ p1 ∧ p1 ≤ 2147483647) : 0 ≤ p1 ∧ p1 ≤ 999 := by omega
theorem vc_X12_byteAt_f_2 {f_size p1 : Int} (h0 : p1 < f_size) (h1 : 0 ≤ f_size ∧ f_size ≤ 1000) (h2 : 0 ≤ p1 ∧ p1 ≤ 999) : 1 ≤ f_size ∧ f_size ≤ 1000 := by omega
theorem vc_X12_byteAt_f_3 {f_size p1 : Int} (h0 : f_size ≤ p1) (h1 : p1 < f_size) (h2 : 1 ≤ f_size ∧ f_size ≤ 1000) (h3 : 0 ≤ p1 ∧ p1 ≤ 999) : False := by omega
theorem vc_X12_byteAt_f_4 {f_size p1 : Int} (h0 : p1 < f_size) (h1 : 1 ≤ f_size ∧ f_size ≤ 1000) (h2 : 0 ≤ p1 ∧ p1 ≤ 999) : p1 < f_size := by omega
set_option maxRecDepth 4000 in
set_option maxHeartbeats 4000000 in
theorem c_X12_byteAt_f {l : Launch} {D : va_G} {c : Nat → ClassId} {H0 : Heap} {sa : Nat × Nat × (Nat → Int32)} {w : mW} {μ : mM} (hw : mWF w) (hT : mT w μ) {p1 : Int} (hp1 : 0 ≤ p1 ∧ p1 ≤ 2147483647) {f_size : Int} (q_f_size : μ 106 1 = f_size) (hq0 : p1 < f_size) : sC (gG l D c H0 sa) mX12_byteAt 1 0 0 [.ref 106, iv p1] (mk w μ) (qP w μ (fun z => (0 ≤ z ∧ z ≤ 255) ∧ z = byteF μ p1 ∧ True)) := by
  refine sC.of rfl (by decide) (le_t rfl) ?_
  have ht_f_size : (0 ≤ f_size ∧ f_size ≤ 1000) := by rw [← q_f_size]; exact hT 106 106 (A_106 hw) 1
  have h1 : 0 ≤ p1 ∧ p1 ≤ 999 := (vc_X12_byteAt_f_1 hq0 ht_f_size hp1)
  have h2 : 1 ≤ f_size ∧ f_size ≤ 1000 := (vc_X12_byteAt_f_2 hq0 ht_f_size h1)
  refine mr_lvE (lv' := [(0, .ref 106), (1, iv p1)]) rfl ?_
  refine mr_iload_n (pc := 0) (z := p1) dX12_byteAt_0 rfl rfl ?_
  refine sv_aload_n (pc := 1) dX12_byteAt_1 rfl rfl ?_
  refine gk_X12_1 (pc := 2) dX12_byteAt_2 wF_X12_1 (A_106 hw) q_f_size ?_
  refine mr_icmp_ge (pc := 5) (tgt := 21) dX12_byteAt_5 (by decide) (r32 h1 rfl) (r32 h2 rfl) (fun h => ((vc_X12_byteAt_f_3 h hq0 h2 h1)).elim) (fun h24 => ?_)
  refine sv_aload_n (pc := 8) dX12_byteAt_8 rfl rfl ?_
  refine gf_X12_0 (pc := 9) dX12_byteAt_9 wF_X12_7 (A_106 hw) hT ?_
  refine mr_iload_n (pc := 12) (z := p1) dX12_byteAt_12 rfl rfl ?_
  refine la_107 (pc := 13) dX12_byteAt_13 (A_107 hw) hT (rIx (n := 1000) h1 rfl) fun z25 q26 h27 => ?_
  refine mr_sipush (pc := 14) (z := 255) dX12_byteAt_14 (by decide) ?_
  refine mr_iand (pc := 17) (x := z25) (y := 255) dX12_byteAt_17 ?_
  refine mr_gen (P := fun z => 0 ≤ z ∧ z ≤ 255) (rAndR (rR (x := 255)) rfl) fun z28 q29 h30 => ?_
  refine sv_goto (pc := 18) (tgt := 22) dX12_byteAt_18 (by decide) ?_
  exact mr_iretP dX12_byteAt_22 rfl (le_t rfl) (le_t rfl) ⟨h30, (byteF.in q_f_size (vc_X12_byteAt_f_4 hq0 h2 h1) q26 q29), trivial⟩
theorem vc_X12_number_f_1 {f_size p1 p2 : Int} (h0 : p2 ≤ 0) (h1 : p1 + p2 ≤ f_size) (h2 : 0 ≤ f_size ∧ f_size ≤ 1000) (h3 : 0 ≤ p1 ∧ p1 ≤ 1000) (h4 : 0 ≤ p2 ∧ p2 ≤ 4) : 0 ≤ p2 ∧ p2 ≤ 0 := by omega
theorem vc_X12_number_f_2 {f_size p1 p2 : Int} (h0 : p1 + p2 ≤ f_size) (h1 : p2 ≤ 0) (h2 : 0 ≤ f_size ∧ f_size ≤ 1000) (h3 : 0 ≤ p1 ∧ p1 ≤ 1000) (h4 : 0 ≤ p2 ∧ p2 ≤ 0) : p2 = (0 : Int) := by omega
theorem vc_X12_number_f_3 {f_size p1 p2 : Int} (h0 : p1 + p2 ≤ f_size) (h1 : p2 ≤ 0) (h2 : 0 ≤ f_size ∧ f_size ≤ 1000) (h3 : 0 ≤ p1 ∧ p1 ≤ 1000) (h4 : 0 ≤ p2 ∧ p2 ≤ 0) : p2 ≤ 2 → 0 ≤ (0 : Int) ∧ (0 : Int) ≤ 65535 := by omega
theorem vc_X12_number_f_4 {f_size p1 p2 : Int} (h0 : 0 < p2) (h1 : p1 + p2 ≤ f_size) (h2 : 0 ≤ f_size ∧ f_size ≤ 1000) (h3 : 0 ≤ p1 ∧ p1 ≤ 1000) (h4 : 0 ≤ p2 ∧ p2 ≤ 4) : 1 ≤ p2 ∧ p2 ≤ 4 := by omega
theorem vc_X12_number_f_5 {f_size p1 p2 : Int} (h0 : p1 + p2 ≤ f_size) (h1 : 0 < p2) (h2 : 0 ≤ f_size ∧ f_size ≤ 1000) (h3 : 0 ≤ p1 ∧ p1 ≤ 1000) (h4 : 1 ≤ p2 ∧ p2 ≤ 4) : (p1 + 0) < f_size := by omega
theorem vc_X12_number_f_6  : (0 : Int) ≤ ((0 : Int) : Int) := by omega
theorem vc_X12_number_f_7 {f_size p1 p2 : Int} (h0 : p1 + p2 ≤ f_size) (h1 : 0 < p2) (h2 : 0 ≤ f_size ∧ f_size ≤ 1000) (h3 : 0 ≤ p1 ∧ p1 ≤ 1000) (h4 : 1 ≤ p2 ∧ p2 ≤ 4) : (p1 + 0) = p1 + (0 : Int) := by omega
theorem vc_X12_number_f_8 {f_size p1 p2 : Int} (h0 : p2 ≤ 1) (h1 : p1 + p2 ≤ f_size) (h2 : 0 < p2) (h3 : 0 ≤ f_size ∧ f_size ≤ 1000) (h4 : 0 ≤ p1 ∧ p1 ≤ 1000) (h5 : 1 ≤ p2 ∧ p2 ≤ 4) : 1 ≤ p2 ∧ p2 ≤ 1 := by omega
theorem vc_X12_number_f_9 {f_size p1 p2 : Int} (h0 : p1 + p2 ≤ f_size) (h1 : 0 < p2) (h2 : p2 ≤ 1) (h3 : 0 ≤ f_size ∧ f_size ≤ 1000) (h4 : 0 ≤ p1 ∧ p1 ≤ 1000) (h5 : 1 ≤ p2 ∧ p2 ≤ 1) : p2 = (1 : Int) := by omega
theorem vc_X12_number_f_10 {f_size p1 p2 z303 : Int} (h0 : p1 + p2 ≤ f_size) (h1 : 0 < p2) (h2 : p2 ≤ 1) (h3 : 0 ≤ f_size ∧ f_size ≤ 1000) (h4 : 0 ≤ p1 ∧ p1 ≤ 1000) (h5 : 1 ≤ p2 ∧ p2 ≤ 1) (h6 : 0 ≤ z303 ∧ z303 ≤ 255) : p2 ≤ 2 → 0 ≤ z303 ∧ z303 ≤ 65535 := by omega
theorem vc_X12_number_f_11 {f_size p1 p2 : Int} (h0 : 1 < p2) (h1 : p1 + p2 ≤ f_size) (h2 : 0 < p2) (h3 : 0 ≤ f_size ∧ f_size ≤ 1000) (h4 : 0 ≤ p1 ∧ p1 ≤ 1000) (h5 : 1 ≤ p2 ∧ p2 ≤ 4) : 2 ≤ p2 ∧ p2 ≤ 4 := by omega
theorem vc_X12_number_f_12 {f_size p1 p2 : Int} (h0 : p1 + p2 ≤ f_size) (h1 : 0 < p2) (h2 : 1 < p2) (h3 : 0 ≤ f_size ∧ f_size ≤ 1000) (h4 : 0 ≤ p1 ∧ p1 ≤ 1000) (h5 : 2 ≤ p2 ∧ p2 ≤ 4) : (p1 + 1) < f_size := by omega
theorem vc_X12_number_f_13  : (0 : Int) ≤ ((1 : Int) : Int) := by omega
theorem vc_X12_number_f_14 {f_size p1 p2 : Int} (h0 : p1 + p2 ≤ f_size) (h1 : 0 < p2) (h2 : 1 < p2) (h3 : 0 ≤ f_size ∧ f_size ≤ 1000) (h4 : 0 ≤ p1 ∧ p1 ≤ 1000) (h5 : 2 ≤ p2 ∧ p2 ≤ 4) : (p1 + 1) = p1 + (1 : Int) := by omega
theorem vc_X12_number_f_15 {f_size p1 p2 z452 z453 : Int} (h0 : (5 - z452) < ((0 : Nat) : Int)) (h1 : z452 = 2 → 0 ≤ z453 ∧ z453 ≤ 65535) (h2 : z452 ≤ p2) (h3 : p1 + p2 ≤ f_size) (h4 : 0 < p2) (h5 : 1 < p2) (h6 : 0 ≤ f_size ∧ f_size ≤ 1000) (h7 : 0 ≤ p1 ∧ p1 ≤ 1000) (h8 : 2 ≤ p2 ∧ p2 ≤ 4) (h9 : 2 ≤ z452 ∧ z452 ≤ 4) (h10 : (-2147483648) ≤ z453 ∧ z453 ≤ 2147483647) : False := by omega
theorem vc_X12_number_f_16 {f_size p1 p2 z452 z453 : Int} (h0 : p1 + p2 ≤ f_size) (h1 : 0 < p2) (h2 : 1 < p2) (h3 : z452 = 2 → 0 ≤ z453 ∧ z453 ≤ 65535) (h4 : z452 ≤ p2) (h5 : p2 ≤ z452) (h6 : 0 ≤ f_size ∧ f_size ≤ 1000) (h7 : 0 ≤ p1 ∧ p1 ≤ 1000) (h8 : 2 ≤ p2 ∧ p2 ≤ 4) (h9 : 2 ≤ z452 ∧ z452 ≤ 4) (h10 : (-2147483648) ≤ z453 ∧ z453 ≤ 2147483647) : p2 = z452 := by omega
theorem vc_X12_number_f_17 {f_size p1 p2 z452 z453 : Int} (h0 : p1 + p2 ≤ f_size) (h1 : 0 < p2) (h2 : 1 < p2) (h3 : z452 = 2 → 0 ≤ z453 ∧ z453 ≤ 65535) (h4 : z452 ≤ p2) (h5 : p2 ≤ z452) (h6 : 0 ≤ f_size ∧ f_size ≤ 1000) (h7 : 0 ≤ p1 ∧ p1 ≤ 1000) (h8 : 2 ≤ p2 ∧ p2 ≤ 4) (h9 : 2 ≤ z452 ∧ z452 ≤ 4) (h10 : (-2147483648) ≤ z453 ∧ z453 ≤ 2147483647) : p2 ≤ 2 → 0 ≤ z453 ∧ z453 ≤ 65535 := by omega
theorem vc_X12_number_f_18 {f_size p1 p2 z452 z453 : Int} (h0 : z452 < p2) (h1 : p1 + p2 ≤ f_size) (h2 : 0 < p2) (h3 : 1 < p2) (h4 : z452 = 2 → 0 ≤ z453 ∧ z453 ≤ 65535) (h5 : z452 ≤ p2) (h6 : 0 ≤ f_size ∧ f_size ≤ 1000) (h7 : 0 ≤ p1 ∧ p1 ≤ 1000) (h8 : 2 ≤ p2 ∧ p2 ≤ 4) (h9 : 2 ≤ z452 ∧ z452 ≤ 4) (h10 : (-2147483648) ≤ z453 ∧ z453 ≤ 2147483647) : 2 ≤ z452 ∧ z452 ≤ 3 := by omega
theorem vc_X12_number_f_19 {f_size p1 p2 z452 z453 : Int} (h0 : z452 < p2) (h1 : p1 + p2 ≤ f_size) (h2 : 0 < p2) (h3 : 1 < p2) (h4 : z452 = 2 → 0 ≤ z453 ∧ z453 ≤ 65535) (h5 : z452 ≤ p2) (h6 : 0 ≤ f_size ∧ f_size ≤ 1000) (h7 : 0 ≤ p1 ∧ p1 ≤ 1000) (h8 : 2 ≤ p2 ∧ p2 ≤ 4) (h9 : 2 ≤ z452 ∧ z452 ≤ 3) (h10 : (-2147483648) ≤ z453 ∧ z453 ≤ 2147483647) : 3 ≤ p2 ∧ p2 ≤ 4 := by omega
theorem vc_X12_number_f_20 {f_size p1 p2 z452 z453 : Int} (h0 : p1 + p2 ≤ f_size) (h1 : z452 = 2 → 0 ≤ z453 ∧ z453 ≤ 65535) (h2 : z452 ≤ p2) (h3 : z452 < p2) (h4 : 0 < p2) (h5 : 1 < p2) (h6 : 0 ≤ f_size ∧ f_size ≤ 1000) (h7 : 0 ≤ p1 ∧ p1 ≤ 1000) (h8 : 3 ≤ p2 ∧ p2 ≤ 4) (h9 : 2 ≤ z452 ∧ z452 ≤ 3) (h10 : (-2147483648) ≤ z453 ∧ z453 ≤ 2147483647) : (p1 + z452) < f_size := by omega
theorem vc_X12_number_f_21 {f_size p1 p2 z452 z453 : Int} (h0 : z452 = 2 → 0 ≤ z453 ∧ z453 ≤ 65535) (h1 : z452 ≤ p2) (h2 : z452 < p2) (h3 : p1 + p2 ≤ f_size) (h4 : 0 < p2) (h5 : 1 < p2) (h6 : 0 ≤ f_size ∧ f_size ≤ 1000) (h7 : 0 ≤ p1 ∧ p1 ≤ 1000) (h8 : 3 ≤ p2 ∧ p2 ≤ 4) (h9 : 2 ≤ z452 ∧ z452 ≤ 3) (h10 : (-2147483648) ≤ z453 ∧ z453 ≤ 2147483647) : 0 ≤ z452 := by omega
theorem vc_X12_number_f_22 {f_size p1 p2 z452 z453 : Int} (h0 : p1 + p2 ≤ f_size) (h1 : z452 = 2 → 0 ≤ z453 ∧ z453 ≤ 65535) (h2 : z452 ≤ p2) (h3 : z452 < p2) (h4 : 0 < p2) (h5 : 1 < p2) (h6 : 0 ≤ f_size ∧ f_size ≤ 1000) (h7 : 0 ≤ p1 ∧ p1 ≤ 1000) (h8 : 3 ≤ p2 ∧ p2 ≤ 4) (h9 : 2 ≤ z452 ∧ z452 ≤ 3) (h10 : (-2147483648) ≤ z453 ∧ z453 ≤ 2147483647) : (p1 + z452) = p1 + z452 := by omega
theorem vc_X12_number_f_23 {f_size p1 p2 z452 z453 z489 : Int} (h0 : z452 = 2 → 0 ≤ z453 ∧ z453 ≤ 65535) (h1 : z452 ≤ p2) (h2 : z452 < p2) (h3 : p1 + p2 ≤ f_size) (h4 : 0 < p2) (h5 : 1 < p2) (h6 : 0 ≤ f_size ∧ f_size ≤ 1000) (h7 : 0 ≤ p1 ∧ p1 ≤ 1000) (h8 : 3 ≤ p2 ∧ p2 ≤ 4) (h9 : 2 ≤ z452 ∧ z452 ≤ 3) (h10 : (-2147483648) ≤ z453 ∧ z453 ≤ 2147483647) (h11 : (-2147483648) ≤ z489 ∧ z489 ≤ 2147483647) : (z452 + 1) = 2 → 0 ≤ z489 ∧ z489 ≤ 65535 := by omega
theorem vc_X12_number_f_24 {f_size p1 p2 z452 z453 : Int} (h0 : p1 + p2 ≤ f_size) (h1 : 0 < p2) (h2 : 1 < p2) (h3 : z452 = 2 → 0 ≤ z453 ∧ z453 ≤ 65535) (h4 : z452 ≤ p2) (h5 : z452 < p2) (h6 : 0 ≤ f_size ∧ f_size ≤ 1000) (h7 : 0 ≤ p1 ∧ p1 ≤ 1000) (h8 : 3 ≤ p2 ∧ p2 ≤ 4) (h9 : 2 ≤ z452 ∧ z452 ≤ 3) (h10 : (-2147483648) ≤ z453 ∧ z453 ≤ 2147483647) : (z452 + 1) ≤ p2 := by omega
theorem vc_X12_number_f_25 {N f_size p1 p2 z452 z453 : Int} (h0 : (5 - z452) < N + 1) (h1 : z452 = 2 → 0 ≤ z453 ∧ z453 ≤ 65535) (h2 : z452 ≤ p2) (h3 : z452 < p2) (h4 : p1 + p2 ≤ f_size) (h5 : 0 < p2) (h6 : 1 < p2) (h7 : 0 ≤ f_size ∧ f_size ≤ 1000) (h8 : 0 ≤ p1 ∧ p1 ≤ 1000) (h9 : 3 ≤ p2 ∧ p2 ≤ 4) (h10 : 2 ≤ z452 ∧ z452 ≤ 3) (h11 : (-2147483648) ≤ z453 ∧ z453 ≤ 2147483647) : (5 - (z452 + 1)) < N := by omega
theorem vc_X12_number_f_26 {z364 : Int} (h0 : 0 ≤ z364 ∧ z364 ≤ 65535) : (2 : Int) = 2 → 0 ≤ z364 ∧ z364 ≤ 65535 := by omega
theorem vc_X12_number_f_27 {f_size p1 p2 : Int} (h0 : p1 + p2 ≤ f_size) (h1 : 0 < p2) (h2 : 1 < p2) (h3 : 0 ≤ f_size ∧ f_size ≤ 1000) (h4 : 0 ≤ p1 ∧ p1 ≤ 1000) (h5 : 2 ≤ p2 ∧ p2 ≤ 4) : (2 : Int) ≤ p2 := by omega
theorem vc_X12_number_f_28  : (5 - 2) < ((4 : Nat) : Int) := by omega
set_option maxRecDepth 4000 in
set_option maxHeartbeats 4000000 in
theorem c_X12_number_f {l : Launch} {D : va_G} {c : Nat → ClassId} {H0 : Heap} {sa : Nat × Nat × (Nat → Int32)} {w : mW} {μ : mM} (hw : mWF w) (hT : mT w μ) {p1 : Int} (hp1 : 0 ≤ p1 ∧ p1 ≤ 1000) {p2 : Int} (hp2 : 0 ≤ p2 ∧ p2 ≤ 4) {f_size : Int} (q_f_size : μ 106 1 = f_size) (hq0 : p1 + p2 ≤ f_size) : sC (gG l D c H0 sa) mX12_number 2 0 0 [.ref 106, iv p1, iv p2] (mk w μ) (qP w μ (fun z => ((-2147483648) ≤ z ∧ z ≤ 2147483647) ∧ z = numF μ p1 p2 ∧ (p2 ≤ 2 → 0 ≤ z ∧ z ≤ 65535) ∧ True)) := by
  refine sC.of rfl (by decide) (le_t rfl) ?_
  have ht_f_size : (0 ≤ f_size ∧ f_size ≤ 1000) := by rw [← q_f_size]; exact hT 106 106 (A_106 hw) 1
  refine mr_lvE (lv' := [(0, .ref 106), (1, iv p1), (2, iv p2)]) rfl ?_
  refine mr_iconst (pc := 0) (z := 0) dX12_number_0 ?_
  refine mr_istore_n (pc := 1) (lv' := [(3, iv 0), (0, .ref 106), (1, iv p1), (2, iv p2)]) dX12_number_1 rfl (by decide) rfl ?_
  refine mr_iconst (pc := 2) (z := 0) dX12_number_2 ?_
  refine mr_istore (pc := 3) (lv' := [(4, iv 0), (3, iv 0), (0, .ref 106), (1, iv p1), (2, iv p2)]) dX12_number_3 (by decide) rfl ?_
  refine mr_iload (pc := 5) (z := 0) dX12_number_5 rfl ?_
  refine mr_iload_n (pc := 7) (z := p2) dX12_number_7 rfl rfl ?_
  refine mr_icmp_ge (pc := 8) (tgt := 31) dX12_number_8 (by decide) (r32 (rR (x := 0)) rfl) (r32 hp2 rfl) (fun h292 => ?_) (fun h292 => ?_)
  · have h293 : 0 ≤ p2 ∧ p2 ≤ 0 := (vc_X12_number_f_1 h292 hq0 ht_f_size hp1 hp2)
    refine mr_iload_n (pc := 31) (z := 0) dX12_number_31 rfl rfl ?_
    exact mr_iretP dX12_number_32 rfl (le_t rfl) (le_t rfl) ⟨(rW (c := (-2147483648)) (d := 2147483647) (rR (x := 0)) rfl), (numF.fin (k := (0 : Int)) numF.zero (vc_X12_number_f_2 hq0 h292 ht_f_size hp1 h293)), (vc_X12_number_f_3 hq0 h292 ht_f_size hp1 h293), trivial⟩
  have h294 : 1 ≤ p2 ∧ p2 ≤ 4 := (vc_X12_number_f_4 h292 hq0 ht_f_size hp1 hp2)
  refine mr_iload_n (pc := 11) (z := 0) dX12_number_11 rfl rfl ?_
  refine mr_bipush (pc := 12) (z := 8) dX12_number_12 (by decide) ?_
  refine mr_ishl (pc := 14) (x := 0) (y := 8) dX12_number_14 ?_
  refine mr_gen (P := fun z => 0 ≤ z ∧ z ≤ 0) (rShl (k := 8) (rR (x := 0)) rfl) fun z295 q296 h297 => ?_
  refine sv_aload_n (pc := 15) dX12_number_15 rfl rfl ?_
  refine mr_iload_n (pc := 16) (z := p1) dX12_number_16 rfl rfl ?_
  refine mr_iload (pc := 17) (z := 0) dX12_number_17 rfl ?_
  refine mr_iadd (pc := 19) (x := p1) (y := 0) dX12_number_19 ?_
  refine mr_cVP (pc := 20) (c_X12_byteAt_f hw hT (rW (c := 0) (d := 2147483647) (rAdd (e := 0) (f := 1000) hp1 (rR (x := 0)) rfl) rfl) q_f_size (vc_X12_number_f_5 hq0 h292 ht_f_size hp1 h294)) (gOk _ _ _ _ _) dX12_number_20 (tX12_byteAt _ _ _ _ _) ⟨wV_X12_byteAt, wL_X12_byteAt⟩ wM_X12_227 (gCX12 _ _ _ _ _) rfl (A_106 hw) rfl ⟨le_t rfl, le_t rfl⟩ ⟨le_t rfl, le_t rfl⟩ rfl (le_t rfl) fun z302 h301 => ?_
  refine mr_ior (pc := 23) (x := z295) (y := z302) dX12_number_23 ?_
  refine mr_gen (P := fun z => 0 ≤ z ∧ z ≤ 255) (rOr 8 h297 h301.1 rfl) fun z303 q304 h305 => ?_
  refine mr_istore_n (pc := 24) (lv' := [(3, iv z303), (4, iv 0), (0, .ref 106), (1, iv p1), (2, iv p2)]) dX12_number_24 rfl (by decide) rfl ?_
  refine mr_iinc (pc := 25) (lv' := [(4, iv 1), (3, iv z303), (0, .ref 106), (1, iv p1), (2, iv p2)]) dX12_number_25 rfl (by decide) rfl ?_
  refine sv_goto (pc := 28) (tgt := 5) dX12_number_28 (by decide) ?_
  refine mr_iload (pc := 5) (z := 1) dX12_number_5 rfl ?_
  refine mr_iload_n (pc := 7) (z := p2) dX12_number_7 rfl rfl ?_
  refine mr_icmp_ge (pc := 8) (tgt := 31) dX12_number_8 (by decide) (r32 (rR (x := 1)) rfl) (r32 h294 rfl) (fun h353 => ?_) (fun h353 => ?_)
  · have h354 : 1 ≤ p2 ∧ p2 ≤ 1 := (vc_X12_number_f_8 h353 hq0 h292 ht_f_size hp1 h294)
    refine mr_iload_n (pc := 31) (z := z303) dX12_number_31 rfl rfl ?_
    exact mr_iretP dX12_number_32 rfl (le_t rfl) (le_t rfl) ⟨(rW (c := (-2147483648)) (d := 2147483647) h305 rfl), (numF.fin (k := (1 : Int)) (numF.succ (n := (0 : Int)) numF.zero vc_X12_number_f_6 q296 (vc_X12_number_f_7 hq0 h292 ht_f_size hp1 h294) h301.2.1.symm.symm q304) (vc_X12_number_f_9 hq0 h292 h353 ht_f_size hp1 h354)), (vc_X12_number_f_10 hq0 h292 h353 ht_f_size hp1 h354 h305), trivial⟩
  have h355 : 2 ≤ p2 ∧ p2 ≤ 4 := (vc_X12_number_f_11 h353 hq0 h292 ht_f_size hp1 h294)
  refine mr_iload_n (pc := 11) (z := z303) dX12_number_11 rfl rfl ?_
  refine mr_bipush (pc := 12) (z := 8) dX12_number_12 (by decide) ?_
  refine mr_ishl (pc := 14) (x := z303) (y := 8) dX12_number_14 ?_
  refine mr_gen (P := fun z => 0 ≤ z ∧ z ≤ 65280) (rShl (k := 8) h305 rfl) fun z356 q357 h358 => ?_
  refine sv_aload_n (pc := 15) dX12_number_15 rfl rfl ?_
  refine mr_iload_n (pc := 16) (z := p1) dX12_number_16 rfl rfl ?_
  refine mr_iload (pc := 17) (z := 1) dX12_number_17 rfl ?_
  refine mr_iadd (pc := 19) (x := p1) (y := 1) dX12_number_19 ?_
  refine mr_cVP (pc := 20) (c_X12_byteAt_f hw hT (rW (c := 0) (d := 2147483647) (rAdd (e := 1) (f := 1001) hp1 (rR (x := 1)) rfl) rfl) q_f_size (vc_X12_number_f_12 hq0 h292 h353 ht_f_size hp1 h355)) (gOk _ _ _ _ _) dX12_number_20 (tX12_byteAt _ _ _ _ _) ⟨wV_X12_byteAt, wL_X12_byteAt⟩ wM_X12_227 (gCX12 _ _ _ _ _) rfl (A_106 hw) rfl ⟨le_t rfl, le_t rfl⟩ ⟨le_t rfl, le_t rfl⟩ rfl (le_t rfl) fun z363 h362 => ?_
  refine mr_ior (pc := 23) (x := z356) (y := z363) dX12_number_23 ?_
  refine mr_gen (P := fun z => 0 ≤ z ∧ z ≤ 65535) (rOr 16 h358 h362.1 rfl) fun z364 q365 h366 => ?_
  refine mr_istore_n (pc := 24) (lv' := [(3, iv z364), (4, iv 1), (0, .ref 106), (1, iv p1), (2, iv p2)]) dX12_number_24 rfl (by decide) rfl ?_
  refine mr_iinc (pc := 25) (lv' := [(4, iv 2), (3, iv z364), (0, .ref 106), (1, iv p1), (2, iv p2)]) dX12_number_25 rfl (by decide) rfl ?_
  refine sv_goto (pc := 28) (tgt := 5) dX12_number_28 (by decide) ?_
  have L454 : ∀ (nL454 : Nat) (z453 z452 : Int), True → ((-2147483648) ≤ z453 ∧ z453 ≤ 2147483647) → (2 ≤ z452 ∧ z452 ≤ 4) → (z452 = 2 → 0 ≤ z453 ∧ z453 ≤ 65535) → (z452 ≤ p2) → numF μ p1 z452 = z453 → (5 - z452) < (nL454 : Int) → sV (gG l D c H0 sa) mX12_number (sRm 2 0 0) (sZ (gG l D c H0 sa) 0 0 (qP w μ (fun z => ((-2147483648) ≤ z ∧ z ≤ 2147483647) ∧ z = numF μ p1 p2 ∧ (p2 ≤ 2 → 0 ≤ z ∧ z ≤ 65535) ∧ True))) 5 [(0, .ref 106), (1, iv p1), (2, iv p2), (3, iv z453), (4, iv z452)] [] (mk w μ) 0 0 := by
    intro nL454
    induction nL454 with
    | zero => intro z453 z452 _ h455 h456 h460 h461 R462 h463; exact ((vc_X12_number_f_15 h463 h460 h461 hq0 h292 h353 ht_f_size hp1 h355 h456 h455)).elim
    | succ nL454 ih464 =>
      intro z453 z452 _ h455 h456 h460 h461 R462 h463
      refine mr_iload (pc := 5) (z := z452) dX12_number_5 rfl ?_
      refine mr_iload_n (pc := 7) (z := p2) dX12_number_7 rfl rfl ?_
      refine mr_icmp_ge (pc := 8) (tgt := 31) dX12_number_8 (by decide) (r32 h456 rfl) (r32 h355 rfl) (fun h478 => ?_) (fun h478 => ?_)
      · refine mr_iload_n (pc := 31) (z := z453) dX12_number_31 rfl rfl ?_
        exact mr_iretP dX12_number_32 rfl (le_t rfl) (le_t rfl) ⟨h455, (numF.fin (k := z452) R462 (vc_X12_number_f_16 hq0 h292 h353 h460 h461 h478 ht_f_size hp1 h355 h456 h455)), (vc_X12_number_f_17 hq0 h292 h353 h460 h461 h478 ht_f_size hp1 h355 h456 h455), trivial⟩
      have h479 : 2 ≤ z452 ∧ z452 ≤ 3 := (vc_X12_number_f_18 h478 hq0 h292 h353 h460 h461 ht_f_size hp1 h355 h456 h455)
      have h480 : 3 ≤ p2 ∧ p2 ≤ 4 := (vc_X12_number_f_19 h478 hq0 h292 h353 h460 h461 ht_f_size hp1 h355 h479 h455)
      refine mr_iload_n (pc := 11) (z := z453) dX12_number_11 rfl rfl ?_
      refine mr_bipush (pc := 12) (z := 8) dX12_number_12 (by decide) ?_
      refine mr_ishl (pc := 14) (x := z453) (y := 8) dX12_number_14 ?_
      refine mr_gen (P := fun z => (-2147483648) ≤ z ∧ z ≤ 2147483647) (r32i _) fun z481 q482 h483 => ?_
      refine sv_aload_n (pc := 15) dX12_number_15 rfl rfl ?_
      refine mr_iload_n (pc := 16) (z := p1) dX12_number_16 rfl rfl ?_
      refine mr_iload (pc := 17) (z := z452) dX12_number_17 rfl ?_
      refine mr_iadd (pc := 19) (x := p1) (y := z452) dX12_number_19 ?_
      refine mr_cVP (pc := 20) (c_X12_byteAt_f hw hT (rW (c := 0) (d := 2147483647) (rAdd (e := 2) (f := 1003) hp1 h479 rfl) rfl) q_f_size (vc_X12_number_f_20 hq0 h460 h461 h478 h292 h353 ht_f_size hp1 h480 h479 h455)) (gOk _ _ _ _ _) dX12_number_20 (tX12_byteAt _ _ _ _ _) ⟨wV_X12_byteAt, wL_X12_byteAt⟩ wM_X12_227 (gCX12 _ _ _ _ _) rfl (A_106 hw) rfl ⟨le_t rfl, le_t rfl⟩ ⟨le_t rfl, le_t rfl⟩ rfl (le_t rfl) fun z488 h487 => ?_
      refine mr_ior (pc := 23) (x := z481) (y := z488) dX12_number_23 ?_
      refine mr_gen (P := fun z => (-2147483648) ≤ z ∧ z ≤ 2147483647) (r32i _) fun z489 q490 h491 => ?_
      refine mr_istore_n (pc := 24) (lv' := [(3, iv z489), (0, .ref 106), (1, iv p1), (2, iv p2), (4, iv z452)]) dX12_number_24 rfl (by decide) rfl ?_
      refine mr_iinc (pc := 25) (lv' := [(4, iv (z452 + 1)), (3, iv z489), (0, .ref 106), (1, iv p1), (2, iv p2)]) dX12_number_25 rfl (by decide) rfl ?_
      refine sv_goto (pc := 28) (tgt := 5) dX12_number_28 (by decide) ?_
      refine mr_lvS (lv' := [(0, .ref 106), (1, iv p1), (2, iv p2), (3, iv z489), (4, iv (z452 + 1))]) (List.forall_mem_cons.mpr ⟨rfl, List.forall_mem_cons.mpr ⟨rfl, List.forall_mem_cons.mpr ⟨rfl, List.forall_mem_cons.mpr ⟨rfl, List.forall_mem_cons.mpr ⟨rfl, fun _ h => absurd h List.not_mem_nil⟩⟩⟩⟩⟩) ?_
      exact ih464 z489 (z452 + 1) trivial h491 (rW (c := 2) (d := 4) (rAdd (e := 3) (f := 4) h479 (rR (x := 1)) rfl) rfl) (vc_X12_number_f_23 h460 h461 h478 hq0 h292 h353 ht_f_size hp1 h480 h479 h455 h491) (vc_X12_number_f_24 hq0 h292 h353 h460 h461 h478 ht_f_size hp1 h480 h479 h455) (numF.succ (n := z452) R462 (vc_X12_number_f_21 h460 h461 h478 hq0 h292 h353 ht_f_size hp1 h480 h479 h455) q482 (vc_X12_number_f_22 hq0 h460 h461 h478 h292 h353 ht_f_size hp1 h480 h479 h455) h487.2.1.symm.symm q490) (vc_X12_number_f_25 (nS h463) h460 h461 h478 hq0 h292 h353 ht_f_size hp1 h480 h479 h455)
  refine mr_lvS (lv' := [(0, .ref 106), (1, iv p1), (2, iv p2), (3, iv z364), (4, iv 2)]) (List.forall_mem_cons.mpr ⟨rfl, List.forall_mem_cons.mpr ⟨rfl, List.forall_mem_cons.mpr ⟨rfl, List.forall_mem_cons.mpr ⟨rfl, List.forall_mem_cons.mpr ⟨rfl, fun _ h => absurd h List.not_mem_nil⟩⟩⟩⟩⟩) ?_
  exact L454 4 z364 2 trivial (rW (c := (-2147483648)) (d := 2147483647) h366 rfl) (rW (c := 2) (d := 4) (rR (x := 2)) rfl) (vc_X12_number_f_26 h366) (vc_X12_number_f_27 hq0 h292 h353 ht_f_size hp1 h355) (numF.succ (n := (1 : Int)) (numF.succ (n := (0 : Int)) numF.zero vc_X12_number_f_6 q296 (vc_X12_number_f_7 hq0 h292 ht_f_size hp1 h294) h301.2.1.symm.symm q304) vc_X12_number_f_13 q357 (vc_X12_number_f_14 hq0 h292 h353 ht_f_size hp1 h355) h362.2.1.symm.symm q365) vc_X12_number_f_28
theorem vc_X12_number_f2_1 {f_size p1 p2 : Int} (h0 : p2 ≤ 0) (h1 : p1 + p2 ≤ f_size) (h2 : 0 ≤ f_size ∧ f_size ≤ 1000) (h3 : 0 ≤ p1 ∧ p1 ≤ 1000) (h4 : 0 ≤ p2 ∧ p2 ≤ 2) : 0 ≤ p2 ∧ p2 ≤ 0 := by omega
theorem vc_X12_number_f2_2 {f_size p1 p2 : Int} (h0 : p1 + p2 ≤ f_size) (h1 : p2 ≤ 0) (h2 : 0 ≤ f_size ∧ f_size ≤ 1000) (h3 : 0 ≤ p1 ∧ p1 ≤ 1000) (h4 : 0 ≤ p2 ∧ p2 ≤ 0) : p2 = (0 : Int) := by omega
theorem vc_X12_number_f2_3 {f_size p1 p2 : Int} (h0 : 0 < p2) (h1 : p1 + p2 ≤ f_size) (h2 : 0 ≤ f_size ∧ f_size ≤ 1000) (h3 : 0 ≤ p1 ∧ p1 ≤ 1000) (h4 : 0 ≤ p2 ∧ p2 ≤ 2) : 1 ≤ p2 ∧ p2 ≤ 2 := by omega
theorem vc_X12_number_f2_4 {f_size p1 p2 : Int} (h0 : p1 + p2 ≤ f_size) (h1 : 0 < p2) (h2 : 0 ≤ f_size ∧ f_size ≤ 1000) (h3 : 0 ≤ p1 ∧ p1 ≤ 1000) (h4 : 1 ≤ p2 ∧ p2 ≤ 2) : (p1 + 0) < f_size := by omega
theorem vc_X12_number_f2_5  : (0 : Int) ≤ ((0 : Int) : Int) := by omega
theorem vc_X12_number_f2_6 {f_size p1 p2 : Int} (h0 : p1 + p2 ≤ f_size) (h1 : 0 < p2) (h2 : 0 ≤ f_size ∧ f_size ≤ 1000) (h3 : 0 ≤ p1 ∧ p1 ≤ 1000) (h4 : 1 ≤ p2 ∧ p2 ≤ 2) : (p1 + 0) = p1 + (0 : Int) := by omega
theorem vc_X12_number_f2_7 {f_size p1 p2 : Int} (h0 : p2 ≤ 1) (h1 : p1 + p2 ≤ f_size) (h2 : 0 < p2) (h3 : 0 ≤ f_size ∧ f_size ≤ 1000) (h4 : 0 ≤ p1 ∧ p1 ≤ 1000) (h5 : 1 ≤ p2 ∧ p2 ≤ 2) : 1 ≤ p2 ∧ p2 ≤ 1 := by omega
theorem vc_X12_number_f2_8 {f_size p1 p2 : Int} (h0 : p1 + p2 ≤ f_size) (h1 : 0 < p2) (h2 : p2 ≤ 1) (h3 : 0 ≤ f_size ∧ f_size ≤ 1000) (h4 : 0 ≤ p1 ∧ p1 ≤ 1000) (h5 : 1 ≤ p2 ∧ p2 ≤ 1) : p2 = (1 : Int) := by omega
theorem vc_X12_number_f2_9 {f_size p1 p2 : Int} (h0 : 1 < p2) (h1 : p1 + p2 ≤ f_size) (h2 : 0 < p2) (h3 : 0 ≤ f_size ∧ f_size ≤ 1000) (h4 : 0 ≤ p1 ∧ p1 ≤ 1000) (h5 : 1 ≤ p2 ∧ p2 ≤ 2) : 2 ≤ p2 ∧ p2 ≤ 2 := by omega
theorem vc_X12_number_f2_10 {f_size p1 p2 : Int} (h0 : p1 + p2 ≤ f_size) (h1 : 0 < p2) (h2 : 1 < p2) (h3 : 0 ≤ f_size ∧ f_size ≤ 1000) (h4 : 0 ≤ p1 ∧ p1 ≤ 1000) (h5 : 2 ≤ p2 ∧ p2 ≤ 2) : (p1 + 1) < f_size := by omega
theorem vc_X12_number_f2_11  : (0 : Int) ≤ ((1 : Int) : Int) := by omega
theorem vc_X12_number_f2_12 {f_size p1 p2 : Int} (h0 : p1 + p2 ≤ f_size) (h1 : 0 < p2) (h2 : 1 < p2) (h3 : 0 ≤ f_size ∧ f_size ≤ 1000) (h4 : 0 ≤ p1 ∧ p1 ≤ 1000) (h5 : 2 ≤ p2 ∧ p2 ≤ 2) : (p1 + 1) = p1 + (1 : Int) := by omega
theorem vc_X12_number_f2_13 {p2 : Int} (h0 : 2 < p2) (h1 : 2 ≤ p2 ∧ p2 ≤ 2) : False := by omega
theorem vc_X12_number_f2_14 {f_size p1 p2 : Int} (h0 : p1 + p2 ≤ f_size) (h1 : 0 < p2) (h2 : 1 < p2) (h3 : 0 ≤ f_size ∧ f_size ≤ 1000) (h4 : 0 ≤ p1 ∧ p1 ≤ 1000) (h5 : 2 ≤ p2 ∧ p2 ≤ 2) : p2 = (2 : Int) := by omega
set_option maxRecDepth 4000 in
set_option maxHeartbeats 4000000 in
theorem c_X12_number_f2 {l : Launch} {D : va_G} {c : Nat → ClassId} {H0 : Heap} {sa : Nat × Nat × (Nat → Int32)} {w : mW} {μ : mM} (hw : mWF w) (hT : mT w μ) {p1 : Int} (hp1 : 0 ≤ p1 ∧ p1 ≤ 1000) {p2 : Int} (hp2 : 0 ≤ p2 ∧ p2 ≤ 2) {f_size : Int} (q_f_size : μ 106 1 = f_size) (hq0 : p1 + p2 ≤ f_size) : sC (gG l D c H0 sa) mX12_number 2 0 0 [.ref 106, iv p1, iv p2] (mk w μ) (qP w μ (fun z => (0 ≤ z ∧ z ≤ 65535) ∧ z = numF μ p1 p2 ∧ True)) := by
  refine sC.of rfl (by decide) (le_t rfl) ?_
  have ht_f_size : (0 ≤ f_size ∧ f_size ≤ 1000) := by rw [← q_f_size]; exact hT 106 106 (A_106 hw) 1
  refine mr_lvE (lv' := [(0, .ref 106), (1, iv p1), (2, iv p2)]) rfl ?_
  refine mr_iconst (pc := 0) (z := 0) dX12_number_0 ?_
  refine mr_istore_n (pc := 1) (lv' := [(3, iv 0), (0, .ref 106), (1, iv p1), (2, iv p2)]) dX12_number_1 rfl (by decide) rfl ?_
  refine mr_iconst (pc := 2) (z := 0) dX12_number_2 ?_
  refine mr_istore (pc := 3) (lv' := [(4, iv 0), (3, iv 0), (0, .ref 106), (1, iv p1), (2, iv p2)]) dX12_number_3 (by decide) rfl ?_
  refine mr_iload (pc := 5) (z := 0) dX12_number_5 rfl ?_
  refine mr_iload_n (pc := 7) (z := p2) dX12_number_7 rfl rfl ?_
  refine mr_icmp_ge (pc := 8) (tgt := 31) dX12_number_8 (by decide) (r32 (rR (x := 0)) rfl) (r32 hp2 rfl) (fun h105 => ?_) (fun h105 => ?_)
  · have h106 : 0 ≤ p2 ∧ p2 ≤ 0 := (vc_X12_number_f2_1 h105 hq0 ht_f_size hp1 hp2)
    refine mr_iload_n (pc := 31) (z := 0) dX12_number_31 rfl rfl ?_
    exact mr_iretP dX12_number_32 rfl (le_t rfl) (le_t rfl) ⟨(rW (c := 0) (d := 65535) (rR (x := 0)) rfl), (numF.fin (k := (0 : Int)) numF.zero (vc_X12_number_f2_2 hq0 h105 ht_f_size hp1 h106)), trivial⟩
  have h107 : 1 ≤ p2 ∧ p2 ≤ 2 := (vc_X12_number_f2_3 h105 hq0 ht_f_size hp1 hp2)
  refine mr_iload_n (pc := 11) (z := 0) dX12_number_11 rfl rfl ?_
  refine mr_bipush (pc := 12) (z := 8) dX12_number_12 (by decide) ?_
  refine mr_ishl (pc := 14) (x := 0) (y := 8) dX12_number_14 ?_
  refine mr_gen (P := fun z => 0 ≤ z ∧ z ≤ 0) (rShl (k := 8) (rR (x := 0)) rfl) fun z108 q109 h110 => ?_
  refine sv_aload_n (pc := 15) dX12_number_15 rfl rfl ?_
  refine mr_iload_n (pc := 16) (z := p1) dX12_number_16 rfl rfl ?_
  refine mr_iload (pc := 17) (z := 0) dX12_number_17 rfl ?_
  refine mr_iadd (pc := 19) (x := p1) (y := 0) dX12_number_19 ?_
  refine mr_cVP (pc := 20) (c_X12_byteAt_f hw hT (rW (c := 0) (d := 2147483647) (rAdd (e := 0) (f := 1000) hp1 (rR (x := 0)) rfl) rfl) q_f_size (vc_X12_number_f2_4 hq0 h105 ht_f_size hp1 h107)) (gOk _ _ _ _ _) dX12_number_20 (tX12_byteAt _ _ _ _ _) ⟨wV_X12_byteAt, wL_X12_byteAt⟩ wM_X12_227 (gCX12 _ _ _ _ _) rfl (A_106 hw) rfl ⟨le_t rfl, le_t rfl⟩ ⟨le_t rfl, le_t rfl⟩ rfl (le_t rfl) fun z115 h114 => ?_
  refine mr_ior (pc := 23) (x := z108) (y := z115) dX12_number_23 ?_
  refine mr_gen (P := fun z => 0 ≤ z ∧ z ≤ 255) (rOr 8 h110 h114.1 rfl) fun z116 q117 h118 => ?_
  refine mr_istore_n (pc := 24) (lv' := [(3, iv z116), (4, iv 0), (0, .ref 106), (1, iv p1), (2, iv p2)]) dX12_number_24 rfl (by decide) rfl ?_
  refine mr_iinc (pc := 25) (lv' := [(4, iv 1), (3, iv z116), (0, .ref 106), (1, iv p1), (2, iv p2)]) dX12_number_25 rfl (by decide) rfl ?_
  refine sv_goto (pc := 28) (tgt := 5) dX12_number_28 (by decide) ?_
  refine mr_iload (pc := 5) (z := 1) dX12_number_5 rfl ?_
  refine mr_iload_n (pc := 7) (z := p2) dX12_number_7 rfl rfl ?_
  refine mr_icmp_ge (pc := 8) (tgt := 31) dX12_number_8 (by decide) (r32 (rR (x := 1)) rfl) (r32 h107 rfl) (fun h132 => ?_) (fun h132 => ?_)
  · have h133 : 1 ≤ p2 ∧ p2 ≤ 1 := (vc_X12_number_f2_7 h132 hq0 h105 ht_f_size hp1 h107)
    refine mr_iload_n (pc := 31) (z := z116) dX12_number_31 rfl rfl ?_
    exact mr_iretP dX12_number_32 rfl (le_t rfl) (le_t rfl) ⟨(rW (c := 0) (d := 65535) h118 rfl), (numF.fin (k := (1 : Int)) (numF.succ (n := (0 : Int)) numF.zero vc_X12_number_f2_5 q109 (vc_X12_number_f2_6 hq0 h105 ht_f_size hp1 h107) h114.2.1.symm.symm q117) (vc_X12_number_f2_8 hq0 h105 h132 ht_f_size hp1 h133)), trivial⟩
  have h134 : 2 ≤ p2 ∧ p2 ≤ 2 := (vc_X12_number_f2_9 h132 hq0 h105 ht_f_size hp1 h107)
  refine mr_iload_n (pc := 11) (z := z116) dX12_number_11 rfl rfl ?_
  refine mr_bipush (pc := 12) (z := 8) dX12_number_12 (by decide) ?_
  refine mr_ishl (pc := 14) (x := z116) (y := 8) dX12_number_14 ?_
  refine mr_gen (P := fun z => 0 ≤ z ∧ z ≤ 65280) (rShl (k := 8) h118 rfl) fun z135 q136 h137 => ?_
  refine sv_aload_n (pc := 15) dX12_number_15 rfl rfl ?_
  refine mr_iload_n (pc := 16) (z := p1) dX12_number_16 rfl rfl ?_
  refine mr_iload (pc := 17) (z := 1) dX12_number_17 rfl ?_
  refine mr_iadd (pc := 19) (x := p1) (y := 1) dX12_number_19 ?_
  refine mr_cVP (pc := 20) (c_X12_byteAt_f hw hT (rW (c := 0) (d := 2147483647) (rAdd (e := 1) (f := 1001) hp1 (rR (x := 1)) rfl) rfl) q_f_size (vc_X12_number_f2_10 hq0 h105 h132 ht_f_size hp1 h134)) (gOk _ _ _ _ _) dX12_number_20 (tX12_byteAt _ _ _ _ _) ⟨wV_X12_byteAt, wL_X12_byteAt⟩ wM_X12_227 (gCX12 _ _ _ _ _) rfl (A_106 hw) rfl ⟨le_t rfl, le_t rfl⟩ ⟨le_t rfl, le_t rfl⟩ rfl (le_t rfl) fun z142 h141 => ?_
  refine mr_ior (pc := 23) (x := z135) (y := z142) dX12_number_23 ?_
  refine mr_gen (P := fun z => 0 ≤ z ∧ z ≤ 65535) (rOr 16 h137 h141.1 rfl) fun z143 q144 h145 => ?_
  refine mr_istore_n (pc := 24) (lv' := [(3, iv z143), (4, iv 1), (0, .ref 106), (1, iv p1), (2, iv p2)]) dX12_number_24 rfl (by decide) rfl ?_
  refine mr_iinc (pc := 25) (lv' := [(4, iv 2), (3, iv z143), (0, .ref 106), (1, iv p1), (2, iv p2)]) dX12_number_25 rfl (by decide) rfl ?_
  refine sv_goto (pc := 28) (tgt := 5) dX12_number_28 (by decide) ?_
  refine mr_iload (pc := 5) (z := 2) dX12_number_5 rfl ?_
  refine mr_iload_n (pc := 7) (z := p2) dX12_number_7 rfl rfl ?_
  refine mr_icmp_ge (pc := 8) (tgt := 31) dX12_number_8 (by decide) (r32 (rR (x := 2)) rfl) (r32 h134 rfl) (fun _ => ?_) (fun h => ((vc_X12_number_f2_13 h h134)).elim)
  refine mr_iload_n (pc := 31) (z := z143) dX12_number_31 rfl rfl ?_
  exact mr_iretP dX12_number_32 rfl (le_t rfl) (le_t rfl) ⟨h145, (numF.fin (k := (2 : Int)) (numF.succ (n := (1 : Int)) (numF.succ (n := (0 : Int)) numF.zero vc_X12_number_f2_5 q109 (vc_X12_number_f2_6 hq0 h105 ht_f_size hp1 h107) h114.2.1.symm.symm q117) vc_X12_number_f2_11 q136 (vc_X12_number_f2_12 hq0 h105 h132 ht_f_size hp1 h134) h141.2.1.symm.symm q144) (vc_X12_number_f2_14 hq0 h105 h132 ht_f_size hp1 h134)), trivial⟩
theorem vc_X12_wayRight_1 {f_size p1 p2 z4574 z4575 : Int} (h0 : (1001 - z4575) < ((0 : Nat) : Int)) (h1 : 4 * z4574 ≤ z4575 - p1) (h2 : z4575 ≤ p1 + p2) (h3 : p1 + p2 ≤ f_size) (h4 : 0 ≤ f_size ∧ f_size ≤ 1000) (h5 : 0 ≤ p1 ∧ p1 ≤ 1000) (h6 : 0 ≤ p2 ∧ p2 ≤ 1000) (h7 : 0 ≤ z4574 ∧ z4574 ≤ 250) (h8 : 0 ≤ z4575 ∧ z4575 ≤ 1000) : False := by omega
theorem vc_X12_wayRight_2 {p1 z4574 z4575 : Int} (h0 : z4574 ≤ 20) (h1 : 4 * z4574 ≤ z4575 - p1) (h2 : 0 ≤ p1 ∧ p1 ≤ 1000) (h3 : 0 ≤ z4574 ∧ z4574 ≤ 250) (h4 : 0 ≤ z4575 ∧ z4575 ≤ 1000) : 0 ≤ z4574 ∧ z4574 ≤ 20 := by omega
theorem vc_X12_wayRight_3 {f_size p1 p2 z4574 z4575 z5068 : Int} (h0 : (1001 - z5068) < ((0 : Nat) : Int)) (h1 : p1 ≤ z5068) (h2 : p1 + p2 ≤ f_size) (h3 : 4 * z4574 ≤ z4575 - p1) (h4 : z4575 ≤ p1 + p2) (h5 : (p1 + p2) ≤ z4575) (h6 : 0 ≤ f_size ∧ f_size ≤ 1000) (h7 : 0 ≤ p1 ∧ p1 ≤ 1000) (h8 : 0 ≤ p2 ∧ p2 ≤ 1000) (h9 : 0 ≤ z4574 ∧ z4574 ≤ 20) (h10 : 0 ≤ z4575 ∧ z4575 ≤ 1000) (h11 : 0 ≤ z5068 ∧ z5068 ≤ 1000) : False := by omega
theorem vc_X12_wayRight_4 {f_size p1 p2 z4574 z4575 z5068 : Int} (h0 : 4 * z4574 ≤ z4575 - p1) (h1 : z4574 ≤ 20) (h2 : p1 + p2 ≤ f_size) (h3 : z4575 ≤ p1 + p2) (h4 : (p1 + p2) ≤ z4575) (h5 : p1 ≤ z5068) (h6 : (p1 + p2) ≤ z5068) (h7 : 0 ≤ f_size ∧ f_size ≤ 1000) (h8 : 0 ≤ p1 ∧ p1 ≤ 1000) (h9 : 0 ≤ p2 ∧ p2 ≤ 1000) (h10 : 0 ≤ z4574 ∧ z4574 ≤ 20) (h11 : 0 ≤ z4575 ∧ z4575 ≤ 1000) (h12 : 0 ≤ z5068 ∧ z5068 ≤ 1000) : (-2147483648 ≤ z4574 ∧ z4574 ≤ 2147483647) ∧ ((964 : Int) % 40 = 0 → -1 ≤ z4574 ∧ z4574 ≤ 9) ∧ ((964 : Int) % 40 = 4 → 0 ≤ z4574 ∧ z4574 ≤ 20) ∧ ((964 : Int) % 40 = 5 → 0 ≤ z4574 ∧ z4574 ≤ 8) := by omega
theorem vc_X12_wayRight_5  : (964 : Int) ≤ (964 : Int) ∧ (986 : Int) ≤ (986 : Int) := by omega
theorem vc_X12_wayRight_6  : (0 : Int) ≤ (964 : Int) ∧ (964 : Int) ≤ (964 : Int) ∧ (964 : Int) < (986 : Int) := by omega
theorem vc_X12_wayRight_7 {f_size p1 p2 z4574 z4575 z5068 : Int} (h0 : p1 + p2 ≤ f_size) (h1 : 4 * z4574 ≤ z4575 - p1) (h2 : z4575 ≤ p1 + p2) (h3 : (p1 + p2) ≤ z4575) (h4 : p1 ≤ z5068) (h5 : z5068 < (p1 + p2)) (h6 : z4574 ≤ 20) (h7 : 0 ≤ f_size ∧ f_size ≤ 1000) (h8 : 0 ≤ p1 ∧ p1 ≤ 1000) (h9 : 0 ≤ p2 ∧ p2 ≤ 1000) (h10 : 0 ≤ z4574 ∧ z4574 ≤ 20) (h11 : 0 ≤ z4575 ∧ z4575 ≤ 1000) (h12 : 0 ≤ z5068 ∧ z5068 ≤ 1000) : z5068 < p1 + p2 := by omega
theorem vc_X12_wayRight_8 {f_size p1 p2 z4574 z4575 z5068 : Int} (h0 : p1 + p2 ≤ f_size) (h1 : p1 ≤ z5068) (h2 : z5068 < (p1 + p2)) (h3 : z5068 + 2 ≤ p1 + p2) (h4 : 4 * z4574 ≤ z4575 - p1) (h5 : z4575 ≤ p1 + p2) (h6 : (p1 + p2) ≤ z4575) (h7 : 0 ≤ f_size ∧ f_size ≤ 1000) (h8 : 0 ≤ p1 ∧ p1 ≤ 1000) (h9 : 0 ≤ p2 ∧ p2 ≤ 1000) (h10 : 0 ≤ z4574 ∧ z4574 ≤ 20) (h11 : 0 ≤ z4575 ∧ z4575 ≤ 1000) (h12 : 0 ≤ z5068 ∧ z5068 ≤ 1000) : (z5068 + 1) < f_size := by omega
theorem vc_X12_wayRight_9 {f_size p1 p2 z4574 z4575 z5067 z5068 z5241 : Int} (h0 : 4 * z4574 ≤ z4575 - p1) (h1 : z4574 ≤ 20) (h2 : 1 ≤ z5241 ∧ z5068 + 2 + 4 * z5241 ≤ p1 + p2 ∧ z5241 ≤ z4574 - (z5067 - 966)) (h3 : p1 + p2 ≤ f_size) (h4 : z4575 ≤ p1 + p2) (h5 : (p1 + p2) ≤ z4575) (h6 : p1 ≤ z5068) (h7 : z5068 < (p1 + p2)) (h8 : z5068 + 2 ≤ p1 + p2) (h9 : 0 ≤ f_size ∧ f_size ≤ 1000) (h10 : 0 ≤ p1 ∧ p1 ≤ 1000) (h11 : 0 ≤ p2 ∧ p2 ≤ 1000) (h12 : 0 ≤ z4574 ∧ z4574 ≤ 20) (h13 : 0 ≤ z4575 ∧ z4575 ≤ 1000) (h14 : 966 ≤ z5067 ∧ z5067 ≤ 986) (h15 : 0 ≤ z5068 ∧ z5068 ≤ 1000) (h16 : 0 ≤ z5241 ∧ z5241 ≤ 255) : 1 ≤ z5241 ∧ z5241 ≤ 20 := by omega
theorem vc_X12_wayRight_10 {p1 p2 z4574 z5067 z5068 z5241 z6107 z6108 : Int} (h0 : (987 - z6108) < ((0 : Nat) : Int)) (h1 : z6108 = z5067 + z6107) (h2 : 1 ≤ z5241 ∧ z5068 + 2 + 4 * z5241 ≤ p1 + p2 ∧ z5241 ≤ z4574 - (z5067 - 966)) (h3 : z6107 ≤ z5241) (h4 : 0 ≤ p1 ∧ p1 ≤ 1000) (h5 : 0 ≤ p2 ∧ p2 ≤ 1000) (h6 : 0 ≤ z4574 ∧ z4574 ≤ 20) (h7 : 966 ≤ z5067 ∧ z5067 ≤ 986) (h8 : 0 ≤ z5068 ∧ z5068 ≤ 1000) (h9 : 1 ≤ z5241 ∧ z5241 ≤ 20) (h10 : 0 ≤ z6107 ∧ z6107 ≤ 20) (h11 : 966 ≤ z6108 ∧ z6108 ≤ 986) : False := by omega
theorem vc_X12_wayRight_11 {p1 p2 z4574 z5067 z5068 z5241 z6107 z6108 : Int} (h0 : z5241 ≤ z6107) (h1 : 1 ≤ z5241 ∧ z5068 + 2 + 4 * z5241 ≤ p1 + p2 ∧ z5241 ≤ z4574 - (z5067 - 966)) (h2 : z6108 = z5067 + z6107) (h3 : z6107 ≤ z5241) (h4 : 0 ≤ p1 ∧ p1 ≤ 1000) (h5 : 0 ≤ p2 ∧ p2 ≤ 1000) (h6 : 0 ≤ z4574 ∧ z4574 ≤ 20) (h7 : 966 ≤ z5067 ∧ z5067 ≤ 986) (h8 : 0 ≤ z5068 ∧ z5068 ≤ 1000) (h9 : 1 ≤ z5241 ∧ z5241 ≤ 20) (h10 : 0 ≤ z6107 ∧ z6107 ≤ 20) (h11 : 966 ≤ z6108 ∧ z6108 ≤ 986) : 1 ≤ z6107 ∧ z6107 ≤ 20 := by omega
theorem vc_X12_wayRight_12 {f_size p1 p2 z4574 z4575 z5067 z5068 z5241 z6107 z6108 : Int} (h0 : p1 ≤ z5068) (h1 : z5068 < (p1 + p2)) (h2 : z5068 + 2 ≤ p1 + p2) (h3 : 1 ≤ z5241 ∧ z5068 + 2 + 4 * z5241 ≤ p1 + p2 ∧ z5241 ≤ z4574 - (z5067 - 966)) (h4 : z6107 ≤ z5241) (h5 : z5241 ≤ z6107) (h6 : p1 + p2 ≤ f_size) (h7 : 4 * z4574 ≤ z4575 - p1) (h8 : z4575 ≤ p1 + p2) (h9 : (p1 + p2) ≤ z4575) (h10 : z4574 ≤ 20) (h11 : z6108 = z5067 + z6107) (h12 : 0 ≤ f_size ∧ f_size ≤ 1000) (h13 : 0 ≤ p1 ∧ p1 ≤ 1000) (h14 : 0 ≤ p2 ∧ p2 ≤ 1000) (h15 : 0 ≤ z4574 ∧ z4574 ≤ 20) (h16 : 0 ≤ z4575 ∧ z4575 ≤ 1000) (h17 : 966 ≤ z5067 ∧ z5067 ≤ 986) (h18 : 0 ≤ z5068 ∧ z5068 ≤ 1000) (h19 : 1 ≤ z5241 ∧ z5241 ≤ 20) (h20 : 1 ≤ z6107 ∧ z6107 ≤ 20) (h21 : 966 ≤ z6108 ∧ z6108 ≤ 986) : 0 ≤ (z5068 + (2 + (4 * z5241))) ∧ (z5068 + (2 + (4 * z5241))) ≤ 1000 := by omega
theorem vc_X12_wayRight_13 {f_size p1 p2 z4574 z4575 z5067 z5068 z5241 z6107 z6108 : Int} (h0 : p1 + p2 ≤ f_size) (h1 : 4 * z4574 ≤ z4575 - p1) (h2 : z4575 ≤ p1 + p2) (h3 : (p1 + p2) ≤ z4575) (h4 : p1 ≤ z5068) (h5 : z5068 < (p1 + p2)) (h6 : z5068 + 2 ≤ p1 + p2) (h7 : 1 ≤ z5241 ∧ z5068 + 2 + 4 * z5241 ≤ p1 + p2 ∧ z5241 ≤ z4574 - (z5067 - 966)) (h8 : z6107 ≤ z5241) (h9 : z5241 ≤ z6107) (h10 : z4574 ≤ 20) (h11 : z6108 = z5067 + z6107) (h12 : 0 ≤ f_size ∧ f_size ≤ 1000) (h13 : 0 ≤ p1 ∧ p1 ≤ 1000) (h14 : 0 ≤ p2 ∧ p2 ≤ 1000) (h15 : 0 ≤ z4574 ∧ z4574 ≤ 20) (h16 : 0 ≤ z4575 ∧ z4575 ≤ 1000) (h17 : 966 ≤ z5067 ∧ z5067 ≤ 986) (h18 : 0 ≤ z5068 ∧ z5068 ≤ 1000) (h19 : 1 ≤ z5241 ∧ z5241 ≤ 20) (h20 : 1 ≤ z6107 ∧ z6107 ≤ 20) (h21 : 966 ≤ z6108 ∧ z6108 ≤ 986) : p1 ≤ (z5068 + (2 + (4 * z5241))) := by omega
theorem vc_X12_wayRight_14 {N f_size p1 p2 z4574 z4575 z5067 z5068 z5241 z6107 z6108 : Int} (h0 : (1001 - z5068) < N + 1) (h1 : p1 ≤ z5068) (h2 : z5068 < (p1 + p2)) (h3 : z5068 + 2 ≤ p1 + p2) (h4 : 1 ≤ z5241 ∧ z5068 + 2 + 4 * z5241 ≤ p1 + p2 ∧ z5241 ≤ z4574 - (z5067 - 966)) (h5 : z6107 ≤ z5241) (h6 : z5241 ≤ z6107) (h7 : p1 + p2 ≤ f_size) (h8 : 4 * z4574 ≤ z4575 - p1) (h9 : z4575 ≤ p1 + p2) (h10 : (p1 + p2) ≤ z4575) (h11 : z4574 ≤ 20) (h12 : z6108 = z5067 + z6107) (h13 : 0 ≤ f_size ∧ f_size ≤ 1000) (h14 : 0 ≤ p1 ∧ p1 ≤ 1000) (h15 : 0 ≤ p2 ∧ p2 ≤ 1000) (h16 : 0 ≤ z4574 ∧ z4574 ≤ 20) (h17 : 0 ≤ z4575 ∧ z4575 ≤ 1000) (h18 : 966 ≤ z5067 ∧ z5067 ≤ 986) (h19 : 0 ≤ z5068 ∧ z5068 ≤ 1000) (h20 : 1 ≤ z5241 ∧ z5241 ≤ 20) (h21 : 1 ≤ z6107 ∧ z6107 ≤ 20) (h22 : 966 ≤ z6108 ∧ z6108 ≤ 986) : (1001 - (z5068 + (2 + (4 * z5241)))) < N := by omega
theorem vc_X12_wayRight_15 {f_size p1 p2 z4574 z4575 z5067 z5068 z5241 z6107 z6108 : Int} (h0 : p1 ≤ z5068) (h1 : z5068 < (p1 + p2)) (h2 : z5068 + 2 ≤ p1 + p2) (h3 : 1 ≤ z5241 ∧ z5068 + 2 + 4 * z5241 ≤ p1 + p2 ∧ z5241 ≤ z4574 - (z5067 - 966)) (h4 : z6107 ≤ z5241) (h5 : z5241 ≤ z6107) (h6 : p1 + p2 ≤ f_size) (h7 : 4 * z4574 ≤ z4575 - p1) (h8 : z4575 ≤ p1 + p2) (h9 : (p1 + p2) ≤ z4575) (h10 : z4574 ≤ 20) (h11 : z6108 = z5067 + z6107) (h12 : 0 ≤ f_size ∧ f_size ≤ 1000) (h13 : 0 ≤ p1 ∧ p1 ≤ 1000) (h14 : 0 ≤ p2 ∧ p2 ≤ 1000) (h15 : 0 ≤ z4574 ∧ z4574 ≤ 20) (h16 : 0 ≤ z4575 ∧ z4575 ≤ 1000) (h17 : 966 ≤ z5067 ∧ z5067 ≤ 986) (h18 : 0 ≤ z5068 ∧ z5068 ≤ 1000) (h19 : 1 ≤ z5241 ∧ z5241 ≤ 20) (h20 : 1 ≤ z6107 ∧ z6107 ≤ 20) (h21 : 966 ≤ z6108 ∧ z6108 ≤ 986) : (z5068 + (2 + (4 * z5241))) = z5068 + 2 + 4 * z5241 := by omega
theorem vc_X12_wayRight_16 {f_size p1 p2 z4574 z4575 z5067 z5068 z5241 z6107 z6108 : Int} (h0 : p1 + p2 ≤ f_size) (h1 : 4 * z4574 ≤ z4575 - p1) (h2 : z4575 ≤ p1 + p2) (h3 : (p1 + p2) ≤ z4575) (h4 : z4574 ≤ 20) (h5 : p1 ≤ z5068) (h6 : z5068 < (p1 + p2)) (h7 : z5068 + 2 ≤ p1 + p2) (h8 : 1 ≤ z5241 ∧ z5068 + 2 + 4 * z5241 ≤ p1 + p2 ∧ z5241 ≤ z4574 - (z5067 - 966)) (h9 : z6108 = z5067 + z6107) (h10 : z6107 ≤ z5241) (h11 : z5241 ≤ z6107) (h12 : 0 ≤ f_size ∧ f_size ≤ 1000) (h13 : 0 ≤ p1 ∧ p1 ≤ 1000) (h14 : 0 ≤ p2 ∧ p2 ≤ 1000) (h15 : 0 ≤ z4574 ∧ z4574 ≤ 20) (h16 : 0 ≤ z4575 ∧ z4575 ≤ 1000) (h17 : 966 ≤ z5067 ∧ z5067 ≤ 986) (h18 : 0 ≤ z5068 ∧ z5068 ≤ 1000) (h19 : 1 ≤ z5241 ∧ z5241 ≤ 20) (h20 : 1 ≤ z6107 ∧ z6107 ≤ 20) (h21 : 966 ≤ z6108 ∧ z6108 ≤ 986) : z4574 - (z6108 - 966) = z4574 - (z5067 - 966) - z5241 := by omega
theorem vc_X12_wayRight_17 {p1 p2 z4574 z5067 z5068 z5241 z6107 z6108 : Int} (h0 : z6107 < z5241) (h1 : 1 ≤ z5241 ∧ z5068 + 2 + 4 * z5241 ≤ p1 + p2 ∧ z5241 ≤ z4574 - (z5067 - 966)) (h2 : z6108 = z5067 + z6107) (h3 : z6107 ≤ z5241) (h4 : 0 ≤ p1 ∧ p1 ≤ 1000) (h5 : 0 ≤ p2 ∧ p2 ≤ 1000) (h6 : 0 ≤ z4574 ∧ z4574 ≤ 20) (h7 : 966 ≤ z5067 ∧ z5067 ≤ 986) (h8 : 0 ≤ z5068 ∧ z5068 ≤ 1000) (h9 : 1 ≤ z5241 ∧ z5241 ≤ 20) (h10 : 0 ≤ z6107 ∧ z6107 ≤ 20) (h11 : 966 ≤ z6108 ∧ z6108 ≤ 986) : 0 ≤ z6107 ∧ z6107 ≤ 19 := by omega
theorem vc_X12_wayRight_18 {f_size p1 p2 z4574 z4575 z5067 z5068 z5241 z6107 z6108 : Int} (h0 : p1 ≤ z5068) (h1 : z5068 < (p1 + p2)) (h2 : z5068 + 2 ≤ p1 + p2) (h3 : 1 ≤ z5241 ∧ z5068 + 2 + 4 * z5241 ≤ p1 + p2 ∧ z5241 ≤ z4574 - (z5067 - 966)) (h4 : z6108 = z5067 + z6107) (h5 : z6107 ≤ z5241) (h6 : z6107 < z5241) (h7 : p1 + p2 ≤ f_size) (h8 : 4 * z4574 ≤ z4575 - p1) (h9 : z4575 ≤ p1 + p2) (h10 : (p1 + p2) ≤ z4575) (h11 : z4574 ≤ 20) (h12 : 0 ≤ f_size ∧ f_size ≤ 1000) (h13 : 0 ≤ p1 ∧ p1 ≤ 1000) (h14 : 0 ≤ p2 ∧ p2 ≤ 1000) (h15 : 0 ≤ z4574 ∧ z4574 ≤ 20) (h16 : 0 ≤ z4575 ∧ z4575 ≤ 1000) (h17 : 966 ≤ z5067 ∧ z5067 ≤ 986) (h18 : 0 ≤ z5068 ∧ z5068 ≤ 1000) (h19 : 1 ≤ z5241 ∧ z5241 ≤ 20) (h20 : 0 ≤ z6107 ∧ z6107 ≤ 19) (h21 : 966 ≤ z6108 ∧ z6108 ≤ 986) : 0 ≤ ((z5068 + 2) + (4 * z6107)) ∧ ((z5068 + 2) + (4 * z6107)) ≤ 1000 := by omega
theorem vc_X12_wayRight_19 {f_size p1 p2 z4574 z4575 z5067 z5068 z5241 z6107 z6108 : Int} (h0 : p1 + p2 ≤ f_size) (h1 : p1 ≤ z5068) (h2 : z5068 < (p1 + p2)) (h3 : z5068 + 2 ≤ p1 + p2) (h4 : 1 ≤ z5241 ∧ z5068 + 2 + 4 * z5241 ≤ p1 + p2 ∧ z5241 ≤ z4574 - (z5067 - 966)) (h5 : z6108 = z5067 + z6107) (h6 : z6107 ≤ z5241) (h7 : z6107 < z5241) (h8 : 4 * z4574 ≤ z4575 - p1) (h9 : z4575 ≤ p1 + p2) (h10 : (p1 + p2) ≤ z4575) (h11 : z4574 ≤ 20) (h12 : 0 ≤ f_size ∧ f_size ≤ 1000) (h13 : 0 ≤ p1 ∧ p1 ≤ 1000) (h14 : 0 ≤ p2 ∧ p2 ≤ 1000) (h15 : 0 ≤ z4574 ∧ z4574 ≤ 20) (h16 : 0 ≤ z4575 ∧ z4575 ≤ 1000) (h17 : 966 ≤ z5067 ∧ z5067 ≤ 986) (h18 : 0 ≤ z5068 ∧ z5068 ≤ 1000) (h19 : 1 ≤ z5241 ∧ z5241 ≤ 20) (h20 : 0 ≤ z6107 ∧ z6107 ≤ 19) (h21 : 966 ≤ z6108 ∧ z6108 ≤ 986) : ((z5068 + 2) + (4 * z6107)) + (4 : Int) ≤ f_size := by omega
theorem vc_X12_wayRight_20 {p1 p2 z4574 z5067 z5068 z5241 z6107 z6108 z6285 : Int} (h0 : (z6285 - 965) < ((0 : Nat) : Int)) (h1 : z6285 ≤ z6108) (h2 : z5067 ≤ z6285) (h3 : 1 ≤ z5241 ∧ z5068 + 2 + 4 * z5241 ≤ p1 + p2 ∧ z5241 ≤ z4574 - (z5067 - 966)) (h4 : z6108 = z5067 + z6107) (h5 : 0 ≤ p1 ∧ p1 ≤ 1000) (h6 : 0 ≤ p2 ∧ p2 ≤ 1000) (h7 : 0 ≤ z4574 ∧ z4574 ≤ 20) (h8 : 966 ≤ z5067 ∧ z5067 ≤ 986) (h9 : 0 ≤ z5068 ∧ z5068 ≤ 1000) (h10 : 1 ≤ z5241 ∧ z5241 ≤ 20) (h11 : 0 ≤ z6107 ∧ z6107 ≤ 19) (h12 : 966 ≤ z6108 ∧ z6108 ≤ 986) (h13 : 966 ≤ z6285 ∧ z6285 ≤ 985) : False := by omega
theorem vc_X12_wayRight_21 {f_size p1 p2 z4574 z4575 z5067 z5068 z5241 z6107 z6108 z6285 : Int} (h0 : p1 + p2 ≤ f_size) (h1 : p1 ≤ z5068) (h2 : z5068 < (p1 + p2)) (h3 : z5068 + 2 ≤ p1 + p2) (h4 : 1 ≤ z5241 ∧ z5068 + 2 + 4 * z5241 ≤ p1 + p2 ∧ z5241 ≤ z4574 - (z5067 - 966)) (h5 : 4 * z4574 ≤ z4575 - p1) (h6 : z4575 ≤ p1 + p2) (h7 : (p1 + p2) ≤ z4575) (h8 : z4574 ≤ 20) (h9 : z6108 = z5067 + z6107) (h10 : z6107 ≤ z5241) (h11 : z6107 < z5241) (h12 : z5067 ≤ z6285) (h13 : 0 ≤ f_size ∧ f_size ≤ 1000) (h14 : 0 ≤ p1 ∧ p1 ≤ 1000) (h15 : 0 ≤ p2 ∧ p2 ≤ 1000) (h16 : 0 ≤ z4574 ∧ z4574 ≤ 20) (h17 : 0 ≤ z4575 ∧ z4575 ≤ 1000) (h18 : 966 ≤ z5067 ∧ z5067 ≤ 986) (h19 : 0 ≤ z5068 ∧ z5068 ≤ 1000) (h20 : 1 ≤ z5241 ∧ z5241 ≤ 20) (h21 : 0 ≤ z6107 ∧ z6107 ≤ 19) (h22 : 966 ≤ z6108 ∧ z6108 ≤ 986) (h23 : 966 ≤ z6285 ∧ z6285 ≤ 985) : z5068 < f_size := by omega
theorem vc_X12_wayRight_22 {p1 p2 z4574 z5067 z5068 z5241 z6107 z6108 z6194 z6285 : Int} (h0 : (4 : Int) ≤ 2 → 0 ≤ z6194 ∧ z6194 ≤ 65535) (h1 : z6285 ≤ z6108) (h2 : z5067 ≤ z6285) (h3 : 1 ≤ z5241 ∧ z5068 + 2 + 4 * z5241 ≤ p1 + p2 ∧ z5241 ≤ z4574 - (z5067 - 966)) (h4 : z6108 = z5067 + z6107) (h5 : 0 ≤ p1 ∧ p1 ≤ 1000) (h6 : 0 ≤ p2 ∧ p2 ≤ 1000) (h7 : 0 ≤ z4574 ∧ z4574 ≤ 20) (h8 : 966 ≤ z5067 ∧ z5067 ≤ 986) (h9 : 0 ≤ z5068 ∧ z5068 ≤ 1000) (h10 : 1 ≤ z5241 ∧ z5241 ≤ 20) (h11 : 0 ≤ z6107 ∧ z6107 ≤ 19) (h12 : 966 ≤ z6108 ∧ z6108 ≤ 986) (h13 : (-2147483648) ≤ z6194 ∧ z6194 ≤ 2147483647) (h14 : 966 ≤ z6285 ∧ z6285 ≤ 985) : (-2147483648 ≤ z6194 ∧ z6194 ≤ 2147483647) ∧ (z6285 % 40 = 0 → -1 ≤ z6194 ∧ z6194 ≤ 9) ∧ (z6285 % 40 = 4 → 0 ≤ z6194 ∧ z6194 ≤ 20) ∧ (z6285 % 40 = 5 → 0 ≤ z6194 ∧ z6194 ≤ 8) := by omega
theorem vc_X12_wayRight_23 {p1 p2 z4574 z5067 z5068 z5241 z6107 z6108 z6285 : Int} (h0 : z6108 = z5067 + z6107) (h1 : z6285 ≤ z6108) (h2 : 1 ≤ z5241 ∧ z5068 + 2 + 4 * z5241 ≤ p1 + p2 ∧ z5241 ≤ z4574 - (z5067 - 966)) (h3 : z6107 ≤ z5241) (h4 : z6107 < z5241) (h5 : z5067 ≤ z6285) (h6 : 0 ≤ p1 ∧ p1 ≤ 1000) (h7 : 0 ≤ p2 ∧ p2 ≤ 1000) (h8 : 0 ≤ z4574 ∧ z4574 ≤ 20) (h9 : 966 ≤ z5067 ∧ z5067 ≤ 986) (h10 : 0 ≤ z5068 ∧ z5068 ≤ 1000) (h11 : 1 ≤ z5241 ∧ z5241 ≤ 20) (h12 : 0 ≤ z6107 ∧ z6107 ≤ 19) (h13 : 966 ≤ z6108 ∧ z6108 ≤ 986) (h14 : 966 ≤ z6285 ∧ z6285 ≤ 985) : 966 ≤ (z6108 + 1) ∧ (z6108 + 1) ≤ 986 := by omega
theorem vc_X12_wayRight_24 {f_size p1 p2 z4574 z4575 z5067 z5068 z5241 z6107 z6108 z6285 : Int} (h0 : 1 ≤ z5241 ∧ z5068 + 2 + 4 * z5241 ≤ p1 + p2 ∧ z5241 ≤ z4574 - (z5067 - 966)) (h1 : z6108 = z5067 + z6107) (h2 : z6107 ≤ z5241) (h3 : z6107 < z5241) (h4 : z6285 ≤ z6108) (h5 : z5067 ≤ z6285) (h6 : p1 + p2 ≤ f_size) (h7 : 4 * z4574 ≤ z4575 - p1) (h8 : z4575 ≤ p1 + p2) (h9 : (p1 + p2) ≤ z4575) (h10 : z4574 ≤ 20) (h11 : p1 ≤ z5068) (h12 : z5068 < (p1 + p2)) (h13 : z5068 + 2 ≤ p1 + p2) (h14 : 0 ≤ f_size ∧ f_size ≤ 1000) (h15 : 0 ≤ p1 ∧ p1 ≤ 1000) (h16 : 0 ≤ p2 ∧ p2 ≤ 1000) (h17 : 0 ≤ z4574 ∧ z4574 ≤ 20) (h18 : 0 ≤ z4575 ∧ z4575 ≤ 1000) (h19 : 966 ≤ z5067 ∧ z5067 ≤ 986) (h20 : 0 ≤ z5068 ∧ z5068 ≤ 1000) (h21 : 1 ≤ z5241 ∧ z5241 ≤ 20) (h22 : 0 ≤ z6107 ∧ z6107 ≤ 19) (h23 : 966 ≤ z6108 ∧ z6108 ≤ 986) (h24 : 966 ≤ z6285 ∧ z6285 ≤ 985) : (z6108 + 1) = z5067 + (z6107 + 1) := by omega
theorem vc_X12_wayRight_25 {f_size p1 p2 z4574 z4575 z5067 z5068 z5241 z6107 z6108 z6285 : Int} (h0 : 1 ≤ z5241 ∧ z5068 + 2 + 4 * z5241 ≤ p1 + p2 ∧ z5241 ≤ z4574 - (z5067 - 966)) (h1 : z6108 = z5067 + z6107) (h2 : z6107 ≤ z5241) (h3 : z6107 < z5241) (h4 : p1 + p2 ≤ f_size) (h5 : 4 * z4574 ≤ z4575 - p1) (h6 : z4575 ≤ p1 + p2) (h7 : (p1 + p2) ≤ z4575) (h8 : z4574 ≤ 20) (h9 : p1 ≤ z5068) (h10 : z5068 < (p1 + p2)) (h11 : z5068 + 2 ≤ p1 + p2) (h12 : z6285 ≤ z6108) (h13 : z5067 ≤ z6285) (h14 : 0 ≤ f_size ∧ f_size ≤ 1000) (h15 : 0 ≤ p1 ∧ p1 ≤ 1000) (h16 : 0 ≤ p2 ∧ p2 ≤ 1000) (h17 : 0 ≤ z4574 ∧ z4574 ≤ 20) (h18 : 0 ≤ z4575 ∧ z4575 ≤ 1000) (h19 : 966 ≤ z5067 ∧ z5067 ≤ 986) (h20 : 0 ≤ z5068 ∧ z5068 ≤ 1000) (h21 : 1 ≤ z5241 ∧ z5241 ≤ 20) (h22 : 0 ≤ z6107 ∧ z6107 ≤ 19) (h23 : 966 ≤ z6108 ∧ z6108 ≤ 986) (h24 : 966 ≤ z6285 ∧ z6285 ≤ 985) : (z6107 + 1) ≤ z5241 := by omega
theorem vc_X12_wayRight_26 {N p1 p2 z4574 z5067 z5068 z5241 z6107 z6108 z6285 : Int} (h0 : (987 - z6108) < N + 1) (h1 : z6108 = z5067 + z6107) (h2 : z6285 ≤ z6108) (h3 : 1 ≤ z5241 ∧ z5068 + 2 + 4 * z5241 ≤ p1 + p2 ∧ z5241 ≤ z4574 - (z5067 - 966)) (h4 : z6107 ≤ z5241) (h5 : z6107 < z5241) (h6 : z5067 ≤ z6285) (h7 : 0 ≤ p1 ∧ p1 ≤ 1000) (h8 : 0 ≤ p2 ∧ p2 ≤ 1000) (h9 : 0 ≤ z4574 ∧ z4574 ≤ 20) (h10 : 966 ≤ z5067 ∧ z5067 ≤ 986) (h11 : 0 ≤ z5068 ∧ z5068 ≤ 1000) (h12 : 1 ≤ z5241 ∧ z5241 ≤ 20) (h13 : 0 ≤ z6107 ∧ z6107 ≤ 19) (h14 : 966 ≤ z6108 ∧ z6108 ≤ 986) (h15 : 966 ≤ z6285 ∧ z6285 ≤ 985) : (987 - (z6108 + 1)) < N := by omega
theorem vc_X12_wayRight_27 {p1 p2 z4574 z5067 z5068 z5241 z6107 z6108 z6285 : Int} (h0 : z6285 ≤ z6108) (h1 : z5067 ≤ z6285) (h2 : 1 ≤ z5241 ∧ z5068 + 2 + 4 * z5241 ≤ p1 + p2 ∧ z5241 ≤ z4574 - (z5067 - 966)) (h3 : z6108 = z5067 + z6107) (h4 : 0 ≤ p1 ∧ p1 ≤ 1000) (h5 : 0 ≤ p2 ∧ p2 ≤ 1000) (h6 : 0 ≤ z4574 ∧ z4574 ≤ 20) (h7 : 966 ≤ z5067 ∧ z5067 ≤ 986) (h8 : 0 ≤ z5068 ∧ z5068 ≤ 1000) (h9 : 1 ≤ z5241 ∧ z5241 ≤ 20) (h10 : 0 ≤ z6107 ∧ z6107 ≤ 19) (h11 : 966 ≤ z6108 ∧ z6108 ≤ 986) (h12 : 966 ≤ z6285 ∧ z6285 ≤ 985) : 0 ≤ z6285 ∧ 964 ≤ z6285 ∧ z6285 < 986 := by omega
theorem vc_X12_wayRight_28 {z6300 : Int} (h0 : z6300 = 1) (h1 : 0 ≤ z6300 ∧ z6300 ≤ 255) : 1 ≤ z6300 ∧ z6300 ≤ 1 := by omega
theorem vc_X12_wayRight_29 {p1 p2 z4574 z5067 z5068 z5241 z6107 z6108 z6285 : Int} (h0 : z5067 < z6285) (h1 : 1 ≤ z5241 ∧ z5068 + 2 + 4 * z5241 ≤ p1 + p2 ∧ z5241 ≤ z4574 - (z5067 - 966)) (h2 : z6108 = z5067 + z6107) (h3 : z6285 ≤ z6108) (h4 : z5067 ≤ z6285) (h5 : 0 ≤ p1 ∧ p1 ≤ 1000) (h6 : 0 ≤ p2 ∧ p2 ≤ 1000) (h7 : 0 ≤ z4574 ∧ z4574 ≤ 20) (h8 : 966 ≤ z5067 ∧ z5067 ≤ 986) (h9 : 0 ≤ z5068 ∧ z5068 ≤ 1000) (h10 : 1 ≤ z5241 ∧ z5241 ≤ 20) (h11 : 0 ≤ z6107 ∧ z6107 ≤ 19) (h12 : 966 ≤ z6108 ∧ z6108 ≤ 986) (h13 : 966 ≤ z6285 ∧ z6285 ≤ 985) : 967 ≤ z6285 ∧ z6285 ≤ 985 := by omega
theorem vc_X12_wayRight_30 {p1 p2 z4574 z5067 z5068 z5241 z6107 z6108 z6285 : Int} (h0 : z5067 < z6285) (h1 : 1 ≤ z5241 ∧ z5068 + 2 + 4 * z5241 ≤ p1 + p2 ∧ z5241 ≤ z4574 - (z5067 - 966)) (h2 : z6108 = z5067 + z6107) (h3 : z6285 ≤ z6108) (h4 : z5067 ≤ z6285) (h5 : 0 ≤ p1 ∧ p1 ≤ 1000) (h6 : 0 ≤ p2 ∧ p2 ≤ 1000) (h7 : 0 ≤ z4574 ∧ z4574 ≤ 20) (h8 : 966 ≤ z5067 ∧ z5067 ≤ 986) (h9 : 0 ≤ z5068 ∧ z5068 ≤ 1000) (h10 : 1 ≤ z5241 ∧ z5241 ≤ 20) (h11 : 0 ≤ z6107 ∧ z6107 ≤ 19) (h12 : 966 ≤ z6108 ∧ z6108 ≤ 986) (h13 : 967 ≤ z6285 ∧ z6285 ≤ 985) : 966 ≤ z5067 ∧ z5067 ≤ 984 := by omega
theorem vc_X12_wayRight_31 {z6194 z6328 z6335 : Int} (h0 : z6335 = 0) (h1 : (z6335 = 1 → z6194 % 4294967296 < z6328 % 4294967296)) (h2 : (z6335 = 0 → z6328 % 4294967296 ≤ z6194 % 4294967296)) (h3 : (-2147483648) ≤ z6194 ∧ z6194 ≤ 2147483647) (h4 : (-2147483648) ≤ z6328 ∧ z6328 ≤ 2147483647) (h5 : 0 ≤ z6335 ∧ z6335 ≤ 1) : 0 ≤ z6335 ∧ z6335 ≤ 0 := by omega
theorem vc_X12_wayRight_32 {z6194 z6285 z6328 z6335 : Int} (h0 : (z6335 = 1 → z6194 % 4294967296 < z6328 % 4294967296)) (h1 : (z6335 = 0 → z6328 % 4294967296 ≤ z6194 % 4294967296)) (h2 : z6335 = 0) (h3 : (4 : Int) ≤ 2 → 0 ≤ z6194 ∧ z6194 ≤ 65535) (h4 : ((z6285 - 1) % 40 = 0 → -1 ≤ z6328 ∧ z6328 ≤ 9)) (h5 : ((z6285 - 1) % 40 = 4 → 0 ≤ z6328 ∧ z6328 ≤ 20)) (h6 : ((z6285 - 1) % 40 = 5 → 0 ≤ z6328 ∧ z6328 ≤ 8)) (h7 : (-2147483648) ≤ z6194 ∧ z6194 ≤ 2147483647) (h8 : 967 ≤ z6285 ∧ z6285 ≤ 985) (h9 : (-2147483648) ≤ z6328 ∧ z6328 ≤ 2147483647) (h10 : 0 ≤ z6335 ∧ z6335 ≤ 0) : z6335 = 0 := by omega
theorem vc_X12_wayRight_33 {z6194 z6328 z6335 : Int} (h0 : ¬ z6335 = 0) (h1 : (z6335 = 1 → z6194 % 4294967296 < z6328 % 4294967296)) (h2 : (z6335 = 0 → z6328 % 4294967296 ≤ z6194 % 4294967296)) (h3 : (-2147483648) ≤ z6194 ∧ z6194 ≤ 2147483647) (h4 : (-2147483648) ≤ z6328 ∧ z6328 ≤ 2147483647) (h5 : 0 ≤ z6335 ∧ z6335 ≤ 1) : 1 ≤ z6335 ∧ z6335 ≤ 1 := by omega
theorem vc_X12_wayRight_34 {z6194 z6285 z6328 z6335 : Int} (h0 : (z6335 = 1 → z6194 % 4294967296 < z6328 % 4294967296)) (h1 : (z6335 = 0 → z6328 % 4294967296 ≤ z6194 % 4294967296)) (h2 : ¬ z6335 = 0) (h3 : (4 : Int) ≤ 2 → 0 ≤ z6194 ∧ z6194 ≤ 65535) (h4 : ((z6285 - 1) % 40 = 0 → -1 ≤ z6328 ∧ z6328 ≤ 9)) (h5 : ((z6285 - 1) % 40 = 4 → 0 ≤ z6328 ∧ z6328 ≤ 20)) (h6 : ((z6285 - 1) % 40 = 5 → 0 ≤ z6328 ∧ z6328 ≤ 8)) (h7 : (-2147483648) ≤ z6194 ∧ z6194 ≤ 2147483647) (h8 : 967 ≤ z6285 ∧ z6285 ≤ 985) (h9 : (-2147483648) ≤ z6328 ∧ z6328 ≤ 2147483647) (h10 : 1 ≤ z6335 ∧ z6335 ≤ 1) : z6335 = 1 := by omega
theorem vc_X12_wayRight_35 {p1 p2 z4574 z5067 z5068 z5241 z6107 z6108 z6194 z6285 z6328 z6335 : Int} (h0 : z6285 ≤ z6108) (h1 : z5067 ≤ z6285) (h2 : z5067 < z6285) (h3 : ((z6285 - 1) % 40 = 0 → -1 ≤ z6328 ∧ z6328 ≤ 9)) (h4 : ((z6285 - 1) % 40 = 4 → 0 ≤ z6328 ∧ z6328 ≤ 20)) (h5 : ((z6285 - 1) % 40 = 5 → 0 ≤ z6328 ∧ z6328 ≤ 8)) (h6 : (z6335 = 1 → z6194 % 4294967296 < z6328 % 4294967296)) (h7 : (z6335 = 0 → z6328 % 4294967296 ≤ z6194 % 4294967296)) (h8 : z6194 % 4294967296 < z6328 % 4294967296) (h9 : 1 ≤ z5241 ∧ z5068 + 2 + 4 * z5241 ≤ p1 + p2 ∧ z5241 ≤ z4574 - (z5067 - 966)) (h10 : z6108 = z5067 + z6107) (h11 : (4 : Int) ≤ 2 → 0 ≤ z6194 ∧ z6194 ≤ 65535) (h12 : ¬ z6335 = 0) (h13 : 0 ≤ p1 ∧ p1 ≤ 1000) (h14 : 0 ≤ p2 ∧ p2 ≤ 1000) (h15 : 0 ≤ z4574 ∧ z4574 ≤ 20) (h16 : 966 ≤ z5067 ∧ z5067 ≤ 984) (h17 : 0 ≤ z5068 ∧ z5068 ≤ 1000) (h18 : 1 ≤ z5241 ∧ z5241 ≤ 20) (h19 : 0 ≤ z6107 ∧ z6107 ≤ 19) (h20 : 966 ≤ z6108 ∧ z6108 ≤ 986) (h21 : (-2147483648) ≤ z6194 ∧ z6194 ≤ 2147483647) (h22 : 967 ≤ z6285 ∧ z6285 ≤ 985) (h23 : (-2147483648) ≤ z6328 ∧ z6328 ≤ 2147483647) (h24 : 1 ≤ z6335 ∧ z6335 ≤ 1) : (-2147483648 ≤ z6328 ∧ z6328 ≤ 2147483647) ∧ (z6285 % 40 = 0 → -1 ≤ z6328 ∧ z6328 ≤ 9) ∧ (z6285 % 40 = 4 → 0 ≤ z6328 ∧ z6328 ≤ 20) ∧ (z6285 % 40 = 5 → 0 ≤ z6328 ∧ z6328 ≤ 8) := by omega
theorem vc_X12_wayRight_36 {p1 p2 z4574 z5067 z5068 z5241 z6107 z6108 z6194 z6285 z6328 z6335 : Int} (h0 : z6108 = z5067 + z6107) (h1 : z6285 ≤ z6108) (h2 : z5067 ≤ z6285) (h3 : z5067 < z6285) (h4 : ((z6285 - 1) % 40 = 0 → -1 ≤ z6328 ∧ z6328 ≤ 9)) (h5 : ((z6285 - 1) % 40 = 4 → 0 ≤ z6328 ∧ z6328 ≤ 20)) (h6 : ((z6285 - 1) % 40 = 5 → 0 ≤ z6328 ∧ z6328 ≤ 8)) (h7 : 1 ≤ z5241 ∧ z5068 + 2 + 4 * z5241 ≤ p1 + p2 ∧ z5241 ≤ z4574 - (z5067 - 966)) (h8 : z6107 ≤ z5241) (h9 : z6107 < z5241) (h10 : (z6335 = 1 → z6194 % 4294967296 < z6328 % 4294967296)) (h11 : (z6335 = 0 → z6328 % 4294967296 ≤ z6194 % 4294967296)) (h12 : z6194 % 4294967296 < z6328 % 4294967296) (h13 : 0 ≤ p1 ∧ p1 ≤ 1000) (h14 : 0 ≤ p2 ∧ p2 ≤ 1000) (h15 : 0 ≤ z4574 ∧ z4574 ≤ 20) (h16 : 966 ≤ z5067 ∧ z5067 ≤ 984) (h17 : 0 ≤ z5068 ∧ z5068 ≤ 1000) (h18 : 1 ≤ z5241 ∧ z5241 ≤ 20) (h19 : 0 ≤ z6107 ∧ z6107 ≤ 19) (h20 : 966 ≤ z6108 ∧ z6108 ≤ 986) (h21 : (-2147483648) ≤ z6194 ∧ z6194 ≤ 2147483647) (h22 : 967 ≤ z6285 ∧ z6285 ≤ 985) (h23 : (-2147483648) ≤ z6328 ∧ z6328 ≤ 2147483647) (h24 : 1 ≤ z6335 ∧ z6335 ≤ 1) : (z6285 + (-1)) ≤ z6108 := by omega
theorem vc_X12_wayRight_37 {f_size p1 p2 z4574 z4575 z5067 z5068 z5241 z6107 z6108 z6194 z6285 z6328 z6335 : Int} (h0 : 1 ≤ z5241 ∧ z5068 + 2 + 4 * z5241 ≤ p1 + p2 ∧ z5241 ≤ z4574 - (z5067 - 966)) (h1 : z6108 = z5067 + z6107) (h2 : z6285 ≤ z6108) (h3 : z5067 ≤ z6285) (h4 : z5067 < z6285) (h5 : ((z6285 - 1) % 40 = 0 → -1 ≤ z6328 ∧ z6328 ≤ 9)) (h6 : ((z6285 - 1) % 40 = 4 → 0 ≤ z6328 ∧ z6328 ≤ 20)) (h7 : ((z6285 - 1) % 40 = 5 → 0 ≤ z6328 ∧ z6328 ≤ 8)) (h8 : p1 + p2 ≤ f_size) (h9 : 4 * z4574 ≤ z4575 - p1) (h10 : z4575 ≤ p1 + p2) (h11 : (p1 + p2) ≤ z4575) (h12 : z4574 ≤ 20) (h13 : p1 ≤ z5068) (h14 : z5068 < (p1 + p2)) (h15 : z5068 + 2 ≤ p1 + p2) (h16 : z6107 ≤ z5241) (h17 : z6107 < z5241) (h18 : (z6335 = 1 → z6194 % 4294967296 < z6328 % 4294967296)) (h19 : (z6335 = 0 → z6328 % 4294967296 ≤ z6194 % 4294967296)) (h20 : z6194 % 4294967296 < z6328 % 4294967296) (h21 : 0 ≤ f_size ∧ f_size ≤ 1000) (h22 : 0 ≤ p1 ∧ p1 ≤ 1000) (h23 : 0 ≤ p2 ∧ p2 ≤ 1000) (h24 : 0 ≤ z4574 ∧ z4574 ≤ 20) (h25 : 0 ≤ z4575 ∧ z4575 ≤ 1000) (h26 : 966 ≤ z5067 ∧ z5067 ≤ 984) (h27 : 0 ≤ z5068 ∧ z5068 ≤ 1000) (h28 : 1 ≤ z5241 ∧ z5241 ≤ 20) (h29 : 0 ≤ z6107 ∧ z6107 ≤ 19) (h30 : 966 ≤ z6108 ∧ z6108 ≤ 986) (h31 : (-2147483648) ≤ z6194 ∧ z6194 ≤ 2147483647) (h32 : 967 ≤ z6285 ∧ z6285 ≤ 985) (h33 : (-2147483648) ≤ z6328 ∧ z6328 ≤ 2147483647) (h34 : 1 ≤ z6335 ∧ z6335 ≤ 1) : z5067 ≤ (z6285 + (-1)) := by omega
theorem vc_X12_wayRight_38 {N p1 p2 z4574 z5067 z5068 z5241 z6107 z6108 z6194 z6285 z6328 z6335 : Int} (h0 : (z6285 - 965) < N + 1) (h1 : z6285 ≤ z6108) (h2 : z5067 ≤ z6285) (h3 : z5067 < z6285) (h4 : ((z6285 - 1) % 40 = 0 → -1 ≤ z6328 ∧ z6328 ≤ 9)) (h5 : ((z6285 - 1) % 40 = 4 → 0 ≤ z6328 ∧ z6328 ≤ 20)) (h6 : ((z6285 - 1) % 40 = 5 → 0 ≤ z6328 ∧ z6328 ≤ 8)) (h7 : 1 ≤ z5241 ∧ z5068 + 2 + 4 * z5241 ≤ p1 + p2 ∧ z5241 ≤ z4574 - (z5067 - 966)) (h8 : z6108 = z5067 + z6107) (h9 : (z6335 = 1 → z6194 % 4294967296 < z6328 % 4294967296)) (h10 : (z6335 = 0 → z6328 % 4294967296 ≤ z6194 % 4294967296)) (h11 : z6194 % 4294967296 < z6328 % 4294967296) (h12 : 0 ≤ p1 ∧ p1 ≤ 1000) (h13 : 0 ≤ p2 ∧ p2 ≤ 1000) (h14 : 0 ≤ z4574 ∧ z4574 ≤ 20) (h15 : 966 ≤ z5067 ∧ z5067 ≤ 984) (h16 : 0 ≤ z5068 ∧ z5068 ≤ 1000) (h17 : 1 ≤ z5241 ∧ z5241 ≤ 20) (h18 : 0 ≤ z6107 ∧ z6107 ≤ 19) (h19 : 966 ≤ z6108 ∧ z6108 ≤ 986) (h20 : (-2147483648) ≤ z6194 ∧ z6194 ≤ 2147483647) (h21 : 967 ≤ z6285 ∧ z6285 ≤ 985) (h22 : (-2147483648) ≤ z6328 ∧ z6328 ≤ 2147483647) (h23 : 1 ≤ z6335 ∧ z6335 ≤ 1) : ((z6285 + (-1)) - 965) < N := by omega
theorem vc_X12_wayRight_39 {p1 p2 z4574 z5067 z5068 z5241 z6107 z6108 z6194 z6285 z6328 z6335 : Int} (h0 : z6285 ≤ z6108) (h1 : z5067 ≤ z6285) (h2 : z5067 < z6285) (h3 : ((z6285 - 1) % 40 = 0 → -1 ≤ z6328 ∧ z6328 ≤ 9)) (h4 : ((z6285 - 1) % 40 = 4 → 0 ≤ z6328 ∧ z6328 ≤ 20)) (h5 : ((z6285 - 1) % 40 = 5 → 0 ≤ z6328 ∧ z6328 ≤ 8)) (h6 : 1 ≤ z5241 ∧ z5068 + 2 + 4 * z5241 ≤ p1 + p2 ∧ z5241 ≤ z4574 - (z5067 - 966)) (h7 : z6108 = z5067 + z6107) (h8 : (z6335 = 1 → z6194 % 4294967296 < z6328 % 4294967296)) (h9 : (z6335 = 0 → z6328 % 4294967296 ≤ z6194 % 4294967296)) (h10 : z6194 % 4294967296 < z6328 % 4294967296) (h11 : 0 ≤ p1 ∧ p1 ≤ 1000) (h12 : 0 ≤ p2 ∧ p2 ≤ 1000) (h13 : 0 ≤ z4574 ∧ z4574 ≤ 20) (h14 : 966 ≤ z5067 ∧ z5067 ≤ 984) (h15 : 0 ≤ z5068 ∧ z5068 ≤ 1000) (h16 : 1 ≤ z5241 ∧ z5241 ≤ 20) (h17 : 0 ≤ z6107 ∧ z6107 ≤ 19) (h18 : 966 ≤ z6108 ∧ z6108 ≤ 986) (h19 : (-2147483648) ≤ z6194 ∧ z6194 ≤ 2147483647) (h20 : 967 ≤ z6285 ∧ z6285 ≤ 985) (h21 : (-2147483648) ≤ z6328 ∧ z6328 ≤ 2147483647) (h22 : 1 ≤ z6335 ∧ z6335 ≤ 1) : 0 ≤ z6285 ∧ 964 ≤ z6285 ∧ z6285 < 986 := by omega
theorem vc_X12_wayRight_40 {p1 p2 z4574 z5067 z5068 z5241 z6107 z6108 : Int} (h0 : z6108 = z5067 + z6107) (h1 : 1 ≤ z5241 ∧ z5068 + 2 + 4 * z5241 ≤ p1 + p2 ∧ z5241 ≤ z4574 - (z5067 - 966)) (h2 : z6107 ≤ z5241) (h3 : z6107 < z5241) (h4 : 0 ≤ p1 ∧ p1 ≤ 1000) (h5 : 0 ≤ p2 ∧ p2 ≤ 1000) (h6 : 0 ≤ z4574 ∧ z4574 ≤ 20) (h7 : 966 ≤ z5067 ∧ z5067 ≤ 986) (h8 : 0 ≤ z5068 ∧ z5068 ≤ 1000) (h9 : 1 ≤ z5241 ∧ z5241 ≤ 20) (h10 : 0 ≤ z6107 ∧ z6107 ≤ 19) (h11 : 966 ≤ z6108 ∧ z6108 ≤ 986) : 966 ≤ z6108 ∧ z6108 ≤ 985 := by omega
theorem vc_X12_wayRight_41 {p1 p2 z4574 z5067 z5068 z5241 z6107 z6108 : Int} (h0 : z6108 = z5067 + z6107) (h1 : 1 ≤ z5241 ∧ z5068 + 2 + 4 * z5241 ≤ p1 + p2 ∧ z5241 ≤ z4574 - (z5067 - 966)) (h2 : z6107 ≤ z5241) (h3 : z6107 < z5241) (h4 : 0 ≤ p1 ∧ p1 ≤ 1000) (h5 : 0 ≤ p2 ∧ p2 ≤ 1000) (h6 : 0 ≤ z4574 ∧ z4574 ≤ 20) (h7 : 966 ≤ z5067 ∧ z5067 ≤ 986) (h8 : 0 ≤ z5068 ∧ z5068 ≤ 1000) (h9 : 1 ≤ z5241 ∧ z5241 ≤ 20) (h10 : 0 ≤ z6107 ∧ z6107 ≤ 19) (h11 : 966 ≤ z6108 ∧ z6108 ≤ 986) : z6108 ≤ z6108 := by omega
theorem vc_X12_wayRight_42 {f_size p1 p2 z4574 z4575 z5067 z5068 z5241 z6107 z6108 : Int} (h0 : 1 ≤ z5241 ∧ z5068 + 2 + 4 * z5241 ≤ p1 + p2 ∧ z5241 ≤ z4574 - (z5067 - 966)) (h1 : z6108 = z5067 + z6107) (h2 : p1 + p2 ≤ f_size) (h3 : 4 * z4574 ≤ z4575 - p1) (h4 : z4575 ≤ p1 + p2) (h5 : (p1 + p2) ≤ z4575) (h6 : z4574 ≤ 20) (h7 : p1 ≤ z5068) (h8 : z5068 < (p1 + p2)) (h9 : z5068 + 2 ≤ p1 + p2) (h10 : z6107 ≤ z5241) (h11 : z6107 < z5241) (h12 : 0 ≤ f_size ∧ f_size ≤ 1000) (h13 : 0 ≤ p1 ∧ p1 ≤ 1000) (h14 : 0 ≤ p2 ∧ p2 ≤ 1000) (h15 : 0 ≤ z4574 ∧ z4574 ≤ 20) (h16 : 0 ≤ z4575 ∧ z4575 ≤ 1000) (h17 : 966 ≤ z5067 ∧ z5067 ≤ 986) (h18 : 0 ≤ z5068 ∧ z5068 ≤ 1000) (h19 : 1 ≤ z5241 ∧ z5241 ≤ 20) (h20 : 0 ≤ z6107 ∧ z6107 ≤ 19) (h21 : 966 ≤ z6108 ∧ z6108 ≤ 986) : z5067 ≤ z6108 := by omega
theorem vc_X12_wayRight_43 {p1 p2 z4574 z5067 z5068 z5241 z6107 z6108 : Int} (h0 : z6108 = z5067 + z6107) (h1 : 1 ≤ z5241 ∧ z5068 + 2 + 4 * z5241 ≤ p1 + p2 ∧ z5241 ≤ z4574 - (z5067 - 966)) (h2 : z6107 ≤ z5241) (h3 : z6107 < z5241) (h4 : 0 ≤ p1 ∧ p1 ≤ 1000) (h5 : 0 ≤ p2 ∧ p2 ≤ 1000) (h6 : 0 ≤ z4574 ∧ z4574 ≤ 20) (h7 : 966 ≤ z5067 ∧ z5067 ≤ 986) (h8 : 0 ≤ z5068 ∧ z5068 ≤ 1000) (h9 : 1 ≤ z5241 ∧ z5241 ≤ 20) (h10 : 0 ≤ z6107 ∧ z6107 ≤ 19) (h11 : 966 ≤ z6108 ∧ z6108 ≤ 986) : (z6108 - 965) < ((22 : Nat) : Int) := by omega
theorem vc_X12_wayRight_44 {f_size p1 p2 z4574 z4575 z5067 z5068 z5241 : Int} (h0 : 1 ≤ z5241 ∧ z5068 + 2 + 4 * z5241 ≤ p1 + p2 ∧ z5241 ≤ z4574 - (z5067 - 966)) (h1 : p1 + p2 ≤ f_size) (h2 : 4 * z4574 ≤ z4575 - p1) (h3 : z4575 ≤ p1 + p2) (h4 : (p1 + p2) ≤ z4575) (h5 : z4574 ≤ 20) (h6 : p1 ≤ z5068) (h7 : z5068 < (p1 + p2)) (h8 : z5068 + 2 ≤ p1 + p2) (h9 : 0 ≤ f_size ∧ f_size ≤ 1000) (h10 : 0 ≤ p1 ∧ p1 ≤ 1000) (h11 : 0 ≤ p2 ∧ p2 ≤ 1000) (h12 : 0 ≤ z4574 ∧ z4574 ≤ 20) (h13 : 0 ≤ z4575 ∧ z4575 ≤ 1000) (h14 : 966 ≤ z5067 ∧ z5067 ≤ 986) (h15 : 0 ≤ z5068 ∧ z5068 ≤ 1000) (h16 : 1 ≤ z5241 ∧ z5241 ≤ 20) : z5067 = z5067 + (0 : Int) := by omega
theorem vc_X12_wayRight_45 {f_size p1 p2 z4574 z4575 z5067 z5068 z5241 : Int} (h0 : 1 ≤ z5241 ∧ z5068 + 2 + 4 * z5241 ≤ p1 + p2 ∧ z5241 ≤ z4574 - (z5067 - 966)) (h1 : p1 + p2 ≤ f_size) (h2 : 4 * z4574 ≤ z4575 - p1) (h3 : z4575 ≤ p1 + p2) (h4 : (p1 + p2) ≤ z4575) (h5 : z4574 ≤ 20) (h6 : p1 ≤ z5068) (h7 : z5068 < (p1 + p2)) (h8 : z5068 + 2 ≤ p1 + p2) (h9 : 0 ≤ f_size ∧ f_size ≤ 1000) (h10 : 0 ≤ p1 ∧ p1 ≤ 1000) (h11 : 0 ≤ p2 ∧ p2 ≤ 1000) (h12 : 0 ≤ z4574 ∧ z4574 ≤ 20) (h13 : 0 ≤ z4575 ∧ z4575 ≤ 1000) (h14 : 966 ≤ z5067 ∧ z5067 ≤ 986) (h15 : 0 ≤ z5068 ∧ z5068 ≤ 1000) (h16 : 1 ≤ z5241 ∧ z5241 ≤ 20) : (0 : Int) ≤ z5241 := by omega
theorem vc_X12_wayRight_46 {f_size p1 p2 z4574 z4575 z5067 z5068 z5241 : Int} (h0 : 1 ≤ z5241 ∧ z5068 + 2 + 4 * z5241 ≤ p1 + p2 ∧ z5241 ≤ z4574 - (z5067 - 966)) (h1 : p1 + p2 ≤ f_size) (h2 : 4 * z4574 ≤ z4575 - p1) (h3 : z4575 ≤ p1 + p2) (h4 : (p1 + p2) ≤ z4575) (h5 : z4574 ≤ 20) (h6 : p1 ≤ z5068) (h7 : z5068 < (p1 + p2)) (h8 : z5068 + 2 ≤ p1 + p2) (h9 : 0 ≤ f_size ∧ f_size ≤ 1000) (h10 : 0 ≤ p1 ∧ p1 ≤ 1000) (h11 : 0 ≤ p2 ∧ p2 ≤ 1000) (h12 : 0 ≤ z4574 ∧ z4574 ≤ 20) (h13 : 0 ≤ z4575 ∧ z4575 ≤ 1000) (h14 : 966 ≤ z5067 ∧ z5067 ≤ 986) (h15 : 0 ≤ z5068 ∧ z5068 ≤ 1000) (h16 : 1 ≤ z5241 ∧ z5241 ≤ 20) : (987 - z5067) < ((22 : Nat) : Int) := by omega
theorem vc_X12_wayRight_47 {f_size p1 p2 z4574 z4575 : Int} (h0 : p1 + p2 ≤ f_size) (h1 : 4 * z4574 ≤ z4575 - p1) (h2 : z4575 ≤ p1 + p2) (h3 : (p1 + p2) ≤ z4575) (h4 : z4574 ≤ 20) (h5 : 0 ≤ f_size ∧ f_size ≤ 1000) (h6 : 0 ≤ p1 ∧ p1 ≤ 1000) (h7 : 0 ≤ p2 ∧ p2 ≤ 1000) (h8 : 0 ≤ z4574 ∧ z4574 ≤ 20) (h9 : 0 ≤ z4575 ∧ z4575 ≤ 1000) : p1 ≤ p1 := by omega
theorem vc_X12_wayRight_48 {f_size p1 p2 z4574 z4575 : Int} (h0 : p1 + p2 ≤ f_size) (h1 : 4 * z4574 ≤ z4575 - p1) (h2 : z4575 ≤ p1 + p2) (h3 : (p1 + p2) ≤ z4575) (h4 : z4574 ≤ 20) (h5 : 0 ≤ f_size ∧ f_size ≤ 1000) (h6 : 0 ≤ p1 ∧ p1 ≤ 1000) (h7 : 0 ≤ p2 ∧ p2 ≤ 1000) (h8 : 0 ≤ z4574 ∧ z4574 ≤ 20) (h9 : 0 ≤ z4575 ∧ z4575 ≤ 1000) : (1001 - p1) < ((1002 : Nat) : Int) := by omega
theorem vc_X12_wayRight_49 {f_size p1 p2 z4574 z4575 : Int} (h0 : p1 + p2 ≤ f_size) (h1 : 4 * z4574 ≤ z4575 - p1) (h2 : z4575 ≤ p1 + p2) (h3 : (p1 + p2) ≤ z4575) (h4 : z4574 ≤ 20) (h5 : 0 ≤ f_size ∧ f_size ≤ 1000) (h6 : 0 ≤ p1 ∧ p1 ≤ 1000) (h7 : 0 ≤ p2 ∧ p2 ≤ 1000) (h8 : 0 ≤ z4574 ∧ z4574 ≤ 20) (h9 : 0 ≤ z4575 ∧ z4575 ≤ 1000) : p1 + p2 ≤ z4575 := by omega
theorem vc_X12_wayRight_50 {f_size p1 p2 z4574 z4575 : Int} (h0 : p1 + p2 ≤ f_size) (h1 : 4 * z4574 ≤ z4575 - p1) (h2 : z4575 ≤ p1 + p2) (h3 : (p1 + p2) ≤ z4575) (h4 : z4574 ≤ 20) (h5 : 0 ≤ f_size ∧ f_size ≤ 1000) (h6 : 0 ≤ p1 ∧ p1 ≤ 1000) (h7 : 0 ≤ p2 ∧ p2 ≤ 1000) (h8 : 0 ≤ z4574 ∧ z4574 ≤ 20) (h9 : 0 ≤ z4575 ∧ z4575 ≤ 1000) : z4574 - ((966 : Int) - 966) = z4574 := by omega
theorem vc_X12_wayRight_51 {p1 z4574 z4575 : Int} (h0 : 20 < z4574) (h1 : 4 * z4574 ≤ z4575 - p1) (h2 : 0 ≤ p1 ∧ p1 ≤ 1000) (h3 : 0 ≤ z4574 ∧ z4574 ≤ 250) (h4 : 0 ≤ z4575 ∧ z4575 ≤ 1000) : 21 ≤ z4574 ∧ z4574 ≤ 250 := by omega
theorem vc_X12_wayRight_52 {f_size p1 p2 z4574 z4575 : Int} (h0 : p1 + p2 ≤ f_size) (h1 : 4 * z4574 ≤ z4575 - p1) (h2 : z4575 ≤ p1 + p2) (h3 : z4575 < (p1 + p2)) (h4 : (z4575 + 2) ≤ (p1 + p2)) (h5 : 0 ≤ f_size ∧ f_size ≤ 1000) (h6 : 0 ≤ p1 ∧ p1 ≤ 1000) (h7 : 0 ≤ p2 ∧ p2 ≤ 1000) (h8 : 0 ≤ z4574 ∧ z4574 ≤ 250) (h9 : 0 ≤ z4575 ∧ z4575 ≤ 1000) : z4575 < f_size := by omega
theorem vc_X12_wayRight_53 {z6350 z6355 : Int} (h0 : z6355 = 0) (h1 : (z6355 = 1 → (1 : Int) ≤ z6350 ∧ z6350 ≤ (2 : Int))) (h2 : (z6355 = 0 → z6350 < (1 : Int) ∨ (2 : Int) < z6350)) (h3 : 0 ≤ z6350 ∧ z6350 ≤ 255) (h4 : 0 ≤ z6355 ∧ z6355 ≤ 1) : 0 ≤ z6355 ∧ z6355 ≤ 0 := by omega
theorem vc_X12_wayRight_54 {z6350 z6355 : Int} (h0 : (z6355 = 1 → (1 : Int) ≤ z6350 ∧ z6350 ≤ (2 : Int))) (h1 : (z6355 = 0 → z6350 < (1 : Int) ∨ (2 : Int) < z6350)) (h2 : z6355 = 0) (h3 : 0 ≤ z6350 ∧ z6350 ≤ 255) (h4 : 0 ≤ z6355 ∧ z6355 ≤ 0) : z6355 = 0 := by omega
theorem vc_X12_wayRight_55 {z6350 z6355 : Int} (h0 : ¬ z6355 = 0) (h1 : (z6355 = 1 → (1 : Int) ≤ z6350 ∧ z6350 ≤ (2 : Int))) (h2 : (z6355 = 0 → z6350 < (1 : Int) ∨ (2 : Int) < z6350)) (h3 : 0 ≤ z6350 ∧ z6350 ≤ 255) (h4 : 0 ≤ z6355 ∧ z6355 ≤ 1) : 1 ≤ z6355 ∧ z6355 ≤ 1 := by omega
theorem vc_X12_wayRight_56 {z6350 z6355 : Int} (h0 : (z6355 = 1 → (1 : Int) ≤ z6350 ∧ z6350 ≤ (2 : Int))) (h1 : (z6355 = 0 → z6350 < (1 : Int) ∨ (2 : Int) < z6350)) (h2 : ¬ z6355 = 0) (h3 : 0 ≤ z6350 ∧ z6350 ≤ 255) (h4 : 1 ≤ z6355 ∧ z6355 ≤ 1) : z6355 = 1 := by omega
theorem vc_X12_wayRight_57 {z6350 z6355 : Int} (h0 : (1 : Int) ≤ z6350 ∧ z6350 ≤ (2 : Int)) (h1 : (z6355 = 1 → (1 : Int) ≤ z6350 ∧ z6350 ≤ (2 : Int))) (h2 : (z6355 = 0 → z6350 < (1 : Int) ∨ (2 : Int) < z6350)) (h3 : 0 ≤ z6350 ∧ z6350 ≤ 255) (h4 : 1 ≤ z6355 ∧ z6355 ≤ 1) : 1 ≤ z6350 ∧ z6350 ≤ 2 := by omega
theorem vc_X12_wayRight_58 {f_size p1 p2 z4574 z4575 : Int} (h0 : p1 + p2 ≤ f_size) (h1 : 4 * z4574 ≤ z4575 - p1) (h2 : z4575 ≤ p1 + p2) (h3 : z4575 < (p1 + p2)) (h4 : (z4575 + 2) ≤ (p1 + p2)) (h5 : 0 ≤ f_size ∧ f_size ≤ 1000) (h6 : 0 ≤ p1 ∧ p1 ≤ 1000) (h7 : 0 ≤ p2 ∧ p2 ≤ 1000) (h8 : 0 ≤ z4574 ∧ z4574 ≤ 250) (h9 : 0 ≤ z4575 ∧ z4575 ≤ 1000) : (z4575 + 1) < f_size := by omega
theorem vc_X12_wayRight_59 {z6366 : Int} (h0 : z6366 = 0) (h1 : 0 ≤ z6366 ∧ z6366 ≤ 255) : 0 ≤ z6366 ∧ z6366 ≤ 0 := by omega
theorem vc_X12_wayRight_60 {z6366 : Int} (h0 : ¬ z6366 = 0) (h1 : 0 ≤ z6366 ∧ z6366 ≤ 255) : 1 ≤ z6366 ∧ z6366 ≤ 255 := by omega
theorem vc_X12_wayRight_61 {z6366 z6374 : Int} (h0 : z6374 = z6366) (h1 : ¬ z6366 = 0) (h2 : 1 ≤ z6366 ∧ z6366 ≤ 255) (h3 : 0 ≤ z6374 ∧ z6374 ≤ 255) : 1 ≤ z6374 ∧ z6374 ≤ 255 := by omega
theorem vc_X12_wayRight_62 {f_size p1 p2 z4574 z4575 z6366 z6374 : Int} (h0 : p1 + p2 ≤ f_size) (h1 : 4 * z4574 ≤ z4575 - p1) (h2 : z4575 ≤ p1 + p2) (h3 : z4575 < (p1 + p2)) (h4 : (z4575 + 2) ≤ (p1 + p2)) (h5 : ((z4575 + 2) + (4 * z6374)) ≤ (p1 + p2)) (h6 : z6374 = z6366) (h7 : 0 ≤ f_size ∧ f_size ≤ 1000) (h8 : 0 ≤ p1 ∧ p1 ≤ 1000) (h9 : 0 ≤ p2 ∧ p2 ≤ 1000) (h10 : 0 ≤ z4574 ∧ z4574 ≤ 250) (h11 : 0 ≤ z4575 ∧ z4575 ≤ 1000) (h12 : 1 ≤ z6366 ∧ z6366 ≤ 255) (h13 : 1 ≤ z6374 ∧ z6374 ≤ 255) : (z4575 + 1) < f_size := by omega
theorem vc_X12_wayRight_63 {z6366 z6374 z6381 : Int} (h0 : z6381 = z6366) (h1 : ¬ z6366 = 0) (h2 : z6374 = z6366) (h3 : 1 ≤ z6366 ∧ z6366 ≤ 255) (h4 : 1 ≤ z6374 ∧ z6374 ≤ 255) (h5 : 0 ≤ z6381 ∧ z6381 ≤ 255) : 1 ≤ z6381 ∧ z6381 ≤ 255 := by omega
theorem vc_X12_wayRight_64 {z6366 z6374 z6381 z6387 : Int} (h0 : z6387 = z6366) (h1 : ¬ z6366 = 0) (h2 : z6374 = z6366) (h3 : z6381 = z6366) (h4 : 1 ≤ z6366 ∧ z6366 ≤ 255) (h5 : 1 ≤ z6374 ∧ z6374 ≤ 255) (h6 : 1 ≤ z6381 ∧ z6381 ≤ 255) (h7 : 0 ≤ z6387 ∧ z6387 ≤ 255) : 1 ≤ z6387 ∧ z6387 ≤ 255 := by omega
theorem vc_X12_wayRight_65 {f_size p1 p2 z4574 z4575 z6366 z6374 z6381 z6387 : Int} (h0 : 4 * z4574 ≤ z4575 - p1) (h1 : z4575 ≤ p1 + p2) (h2 : z4575 < (p1 + p2)) (h3 : (z4575 + 2) ≤ (p1 + p2)) (h4 : ((z4575 + 2) + (4 * z6374)) ≤ (p1 + p2)) (h5 : z6387 = z6366) (h6 : p1 + p2 ≤ f_size) (h7 : ¬ z6366 = 0) (h8 : z6374 = z6366) (h9 : z6381 = z6366) (h10 : 0 ≤ f_size ∧ f_size ≤ 1000) (h11 : 0 ≤ p1 ∧ p1 ≤ 1000) (h12 : 0 ≤ p2 ∧ p2 ≤ 1000) (h13 : 0 ≤ z4574 ∧ z4574 ≤ 250) (h14 : 0 ≤ z4575 ∧ z4575 ≤ 1000) (h15 : 1 ≤ z6366 ∧ z6366 ≤ 255) (h16 : 1 ≤ z6374 ∧ z6374 ≤ 255) (h17 : 1 ≤ z6381 ∧ z6381 ≤ 255) (h18 : 1 ≤ z6387 ∧ z6387 ≤ 255) : 0 ≤ (z4575 + (2 + (4 * z6387))) ∧ (z4575 + (2 + (4 * z6387))) ≤ 1000 := by omega
theorem vc_X12_wayRight_66 {f_size p1 p2 z4574 z4575 z6366 z6374 z6381 z6387 : Int} (h0 : 4 * z4574 ≤ z4575 - p1) (h1 : z6381 = z6366) (h2 : p1 + p2 ≤ f_size) (h3 : z4575 ≤ p1 + p2) (h4 : z4575 < (p1 + p2)) (h5 : (z4575 + 2) ≤ (p1 + p2)) (h6 : ¬ z6366 = 0) (h7 : z6374 = z6366) (h8 : ((z4575 + 2) + (4 * z6374)) ≤ (p1 + p2)) (h9 : z6387 = z6366) (h10 : 0 ≤ f_size ∧ f_size ≤ 1000) (h11 : 0 ≤ p1 ∧ p1 ≤ 1000) (h12 : 0 ≤ p2 ∧ p2 ≤ 1000) (h13 : 0 ≤ z4574 ∧ z4574 ≤ 250) (h14 : 0 ≤ z4575 ∧ z4575 ≤ 1000) (h15 : 1 ≤ z6366 ∧ z6366 ≤ 255) (h16 : 1 ≤ z6374 ∧ z6374 ≤ 255) (h17 : 1 ≤ z6381 ∧ z6381 ≤ 255) (h18 : 1 ≤ z6387 ∧ z6387 ≤ 255) : 0 ≤ (z4574 + z6381) ∧ (z4574 + z6381) ≤ 250 := by omega
theorem vc_X12_wayRight_67 {f_size p1 p2 z4574 z4575 z6366 z6374 z6381 z6387 : Int} (h0 : p1 + p2 ≤ f_size) (h1 : 4 * z4574 ≤ z4575 - p1) (h2 : z4575 ≤ p1 + p2) (h3 : z4575 < (p1 + p2)) (h4 : (z4575 + 2) ≤ (p1 + p2)) (h5 : ((z4575 + 2) + (4 * z6374)) ≤ (p1 + p2)) (h6 : z6381 = z6366) (h7 : z6387 = z6366) (h8 : ¬ z6366 = 0) (h9 : z6374 = z6366) (h10 : 0 ≤ f_size ∧ f_size ≤ 1000) (h11 : 0 ≤ p1 ∧ p1 ≤ 1000) (h12 : 0 ≤ p2 ∧ p2 ≤ 1000) (h13 : 0 ≤ z4574 ∧ z4574 ≤ 250) (h14 : 0 ≤ z4575 ∧ z4575 ≤ 1000) (h15 : 1 ≤ z6366 ∧ z6366 ≤ 255) (h16 : 1 ≤ z6374 ∧ z6374 ≤ 255) (h17 : 1 ≤ z6381 ∧ z6381 ≤ 255) (h18 : 1 ≤ z6387 ∧ z6387 ≤ 255) : 4 * (z4574 + z6381) ≤ (z4575 + (2 + (4 * z6387))) - p1 := by omega
theorem vc_X12_wayRight_68 {f_size p1 p2 z4574 z4575 z6366 z6374 z6381 z6387 : Int} (h0 : p1 + p2 ≤ f_size) (h1 : 4 * z4574 ≤ z4575 - p1) (h2 : z4575 ≤ p1 + p2) (h3 : z4575 < (p1 + p2)) (h4 : (z4575 + 2) ≤ (p1 + p2)) (h5 : ((z4575 + 2) + (4 * z6374)) ≤ (p1 + p2)) (h6 : z6387 = z6366) (h7 : ¬ z6366 = 0) (h8 : z6374 = z6366) (h9 : z6381 = z6366) (h10 : 0 ≤ f_size ∧ f_size ≤ 1000) (h11 : 0 ≤ p1 ∧ p1 ≤ 1000) (h12 : 0 ≤ p2 ∧ p2 ≤ 1000) (h13 : 0 ≤ z4574 ∧ z4574 ≤ 250) (h14 : 0 ≤ z4575 ∧ z4575 ≤ 1000) (h15 : 1 ≤ z6366 ∧ z6366 ≤ 255) (h16 : 1 ≤ z6374 ∧ z6374 ≤ 255) (h17 : 1 ≤ z6381 ∧ z6381 ≤ 255) (h18 : 1 ≤ z6387 ∧ z6387 ≤ 255) : (z4575 + (2 + (4 * z6387))) ≤ p1 + p2 := by omega
theorem vc_X12_wayRight_69 {N f_size p1 p2 z4574 z4575 z6366 z6374 z6381 z6387 : Int} (h0 : (1001 - z4575) < N + 1) (h1 : 4 * z4574 ≤ z4575 - p1) (h2 : z4575 ≤ p1 + p2) (h3 : z4575 < (p1 + p2)) (h4 : (z4575 + 2) ≤ (p1 + p2)) (h5 : ((z4575 + 2) + (4 * z6374)) ≤ (p1 + p2)) (h6 : z6387 = z6366) (h7 : p1 + p2 ≤ f_size) (h8 : ¬ z6366 = 0) (h9 : z6374 = z6366) (h10 : z6381 = z6366) (h11 : 0 ≤ f_size ∧ f_size ≤ 1000) (h12 : 0 ≤ p1 ∧ p1 ≤ 1000) (h13 : 0 ≤ p2 ∧ p2 ≤ 1000) (h14 : 0 ≤ z4574 ∧ z4574 ≤ 250) (h15 : 0 ≤ z4575 ∧ z4575 ≤ 1000) (h16 : 1 ≤ z6366 ∧ z6366 ≤ 255) (h17 : 1 ≤ z6374 ∧ z6374 ≤ 255) (h18 : 1 ≤ z6381 ∧ z6381 ≤ 255) (h19 : 1 ≤ z6387 ∧ z6387 ≤ 255) : (1001 - (z4575 + (2 + (4 * z6387)))) < N := by omega
theorem vc_X12_wayRight_70 {f_size p1 p2 z4574 z4575 z6366 z6374 : Int} (h0 : p1 + p2 ≤ f_size) (h1 : 4 * z4574 ≤ z4575 - p1) (h2 : z4575 ≤ p1 + p2) (h3 : z4575 < (p1 + p2)) (h4 : (z4575 + 2) ≤ (p1 + p2)) (h5 : ((z4575 + 2) + (4 * z6374)) ≤ (p1 + p2)) (h6 : z6374 = z6366) (h7 : 0 ≤ f_size ∧ f_size ≤ 1000) (h8 : 0 ≤ p1 ∧ p1 ≤ 1000) (h9 : 0 ≤ p2 ∧ p2 ≤ 1000) (h10 : 0 ≤ z4574 ∧ z4574 ≤ 250) (h11 : 0 ≤ z4575 ∧ z4575 ≤ 1000) (h12 : 1 ≤ z6366 ∧ z6366 ≤ 255) (h13 : 1 ≤ z6374 ∧ z6374 ≤ 255) : z4575 < p1 + p2 := by omega
theorem vc_X12_wayRight_71 {f_size p1 p2 z4574 z4575 z6366 z6374 : Int} (h0 : p1 + p2 ≤ f_size) (h1 : 4 * z4574 ≤ z4575 - p1) (h2 : z4575 ≤ p1 + p2) (h3 : z4575 < (p1 + p2)) (h4 : (z4575 + 2) ≤ (p1 + p2)) (h5 : ((z4575 + 2) + (4 * z6374)) ≤ (p1 + p2)) (h6 : z6374 = z6366) (h7 : 0 ≤ f_size ∧ f_size ≤ 1000) (h8 : 0 ≤ p1 ∧ p1 ≤ 1000) (h9 : 0 ≤ p2 ∧ p2 ≤ 1000) (h10 : 0 ≤ z4574 ∧ z4574 ≤ 250) (h11 : 0 ≤ z4575 ∧ z4575 ≤ 1000) (h12 : 1 ≤ z6366 ∧ z6366 ≤ 255) (h13 : 1 ≤ z6374 ∧ z6374 ≤ 255) : z4575 + 2 ≤ p1 + p2 := by omega
theorem vc_X12_wayRight_72 {f_size p1 p2 z4574 z4575 z6366 z6374 z6381 z6387 : Int} (h0 : p1 + p2 ≤ f_size) (h1 : 4 * z4574 ≤ z4575 - p1) (h2 : z4575 ≤ p1 + p2) (h3 : z4575 < (p1 + p2)) (h4 : (z4575 + 2) ≤ (p1 + p2)) (h5 : ¬ z6366 = 0) (h6 : z6374 = z6366) (h7 : ((z4575 + 2) + (4 * z6374)) ≤ (p1 + p2)) (h8 : z6381 = z6366) (h9 : z6387 = z6366) (h10 : 0 ≤ f_size ∧ f_size ≤ 1000) (h11 : 0 ≤ p1 ∧ p1 ≤ 1000) (h12 : 0 ≤ p2 ∧ p2 ≤ 1000) (h13 : 0 ≤ z4574 ∧ z4574 ≤ 250) (h14 : 0 ≤ z4575 ∧ z4575 ≤ 1000) (h15 : 1 ≤ z6366 ∧ z6366 ≤ 255) (h16 : 1 ≤ z6374 ∧ z6374 ≤ 255) (h17 : 1 ≤ z6381 ∧ z6381 ≤ 255) (h18 : 1 ≤ z6387 ∧ z6387 ≤ 255) : 1 ≤ z6366 := by omega
theorem vc_X12_wayRight_73 {f_size p1 p2 z4574 z4575 z6366 z6374 z6381 z6387 : Int} (h0 : p1 + p2 ≤ f_size) (h1 : 4 * z4574 ≤ z4575 - p1) (h2 : z4575 ≤ p1 + p2) (h3 : z4575 < (p1 + p2)) (h4 : (z4575 + 2) ≤ (p1 + p2)) (h5 : ¬ z6366 = 0) (h6 : z6374 = z6366) (h7 : ((z4575 + 2) + (4 * z6374)) ≤ (p1 + p2)) (h8 : z6381 = z6366) (h9 : z6387 = z6366) (h10 : 0 ≤ f_size ∧ f_size ≤ 1000) (h11 : 0 ≤ p1 ∧ p1 ≤ 1000) (h12 : 0 ≤ p2 ∧ p2 ≤ 1000) (h13 : 0 ≤ z4574 ∧ z4574 ≤ 250) (h14 : 0 ≤ z4575 ∧ z4575 ≤ 1000) (h15 : 1 ≤ z6366 ∧ z6366 ≤ 255) (h16 : 1 ≤ z6374 ∧ z6374 ≤ 255) (h17 : 1 ≤ z6381 ∧ z6381 ≤ 255) (h18 : 1 ≤ z6387 ∧ z6387 ≤ 255) : z4575 + 2 + 4 * z6366 ≤ p1 + p2 := by omega
theorem vc_X12_wayRight_74 {f_size p1 p2 z4574 z4575 z6366 z6374 z6381 z6387 : Int} (h0 : p1 + p2 ≤ f_size) (h1 : 4 * z4574 ≤ z4575 - p1) (h2 : z4575 ≤ p1 + p2) (h3 : z4575 < (p1 + p2)) (h4 : (z4575 + 2) ≤ (p1 + p2)) (h5 : ¬ z6366 = 0) (h6 : z6374 = z6366) (h7 : ((z4575 + 2) + (4 * z6374)) ≤ (p1 + p2)) (h8 : z6381 = z6366) (h9 : z6387 = z6366) (h10 : 0 ≤ f_size ∧ f_size ≤ 1000) (h11 : 0 ≤ p1 ∧ p1 ≤ 1000) (h12 : 0 ≤ p2 ∧ p2 ≤ 1000) (h13 : 0 ≤ z4574 ∧ z4574 ≤ 250) (h14 : 0 ≤ z4575 ∧ z4575 ≤ 1000) (h15 : 1 ≤ z6366 ∧ z6366 ≤ 255) (h16 : 1 ≤ z6374 ∧ z6374 ≤ 255) (h17 : 1 ≤ z6381 ∧ z6381 ≤ 255) (h18 : 1 ≤ z6387 ∧ z6387 ≤ 255) : (z4575 + (2 + (4 * z6387))) = z4575 + 2 + 4 * z6366 := by omega
theorem vc_X12_wayRight_75 {f_size p1 p2 z4574 z4575 z6366 z6374 z6381 z6387 : Int} (h0 : p1 + p2 ≤ f_size) (h1 : 4 * z4574 ≤ z4575 - p1) (h2 : z4575 ≤ p1 + p2) (h3 : z4575 < (p1 + p2)) (h4 : (z4575 + 2) ≤ (p1 + p2)) (h5 : ¬ z6366 = 0) (h6 : z6374 = z6366) (h7 : ((z4575 + 2) + (4 * z6374)) ≤ (p1 + p2)) (h8 : z6381 = z6366) (h9 : z6387 = z6366) (h10 : 0 ≤ f_size ∧ f_size ≤ 1000) (h11 : 0 ≤ p1 ∧ p1 ≤ 1000) (h12 : 0 ≤ p2 ∧ p2 ≤ 1000) (h13 : 0 ≤ z4574 ∧ z4574 ≤ 250) (h14 : 0 ≤ z4575 ∧ z4575 ≤ 1000) (h15 : 1 ≤ z6366 ∧ z6366 ≤ 255) (h16 : 1 ≤ z6374 ∧ z6374 ≤ 255) (h17 : 1 ≤ z6381 ∧ z6381 ≤ 255) (h18 : 1 ≤ z6387 ∧ z6387 ≤ 255) : (z4574 + z6381) = z4574 + z6366 := by omega
theorem vc_X12_wayRight_76 {f_size p1 p2 : Int} (h0 : p1 + p2 ≤ f_size) (h1 : 0 ≤ f_size ∧ f_size ≤ 1000) (h2 : 0 ≤ p1 ∧ p1 ≤ 1000) (h3 : 0 ≤ p2 ∧ p2 ≤ 1000) : 4 * (0 : Int) ≤ p1 - p1 := by omega
theorem vc_X12_wayRight_77 {f_size p1 p2 : Int} (h0 : p1 + p2 ≤ f_size) (h1 : 0 ≤ f_size ∧ f_size ≤ 1000) (h2 : 0 ≤ p1 ∧ p1 ≤ 1000) (h3 : 0 ≤ p2 ∧ p2 ≤ 1000) : p1 ≤ p1 + p2 := by omega
theorem vc_X12_wayRight_78 {f_size p1 p2 : Int} (h0 : p1 + p2 ≤ f_size) (h1 : 0 ≤ f_size ∧ f_size ≤ 1000) (h2 : 0 ≤ p1 ∧ p1 ≤ 1000) (h3 : 0 ≤ p2 ∧ p2 ≤ 1000) : (1001 - p1) < ((1002 : Nat) : Int) := by omega
set_option maxRecDepth 4000 in
set_option maxHeartbeats 4000000 in
theorem c_X12_wayRight {l : Launch} {D : va_G} {c : Nat → ClassId} {H0 : Heap} {sa : Nat × Nat × (Nat → Int32)} {w : mW} {μ : mM} (hw : mWF w) (hT : mT w μ) {p1 : Int} (hp1 : 0 ≤ p1 ∧ p1 ≤ 1000) {p2 : Int} (hp2 : 0 ≤ p2 ∧ p2 ≤ 1000) {f_size : Int} (q_f_size : μ 106 1 = f_size) (hq0 : p1 + p2 ≤ f_size) : sC (gG l D c H0 sa) mX12_wayRight 3 0 0 [.ref 106, iv p1, iv p2] (mk w μ) (qI w [106099, 126999] μ (fun z μ1 => (0 ≤ z ∧ z ≤ 1) ∧ mG [(964, 986)] μ μ1 ∧ True)) := by
  refine sC.of rfl (by decide) (le_t rfl) ?_
  have ht_f_size : (0 ≤ f_size ∧ f_size ≤ 1000) := by rw [← q_f_size]; exact hT 106 106 (A_106 hw) 1
  refine mr_lvE (lv' := [(0, .ref 106), (1, iv p1), (2, iv p2)]) rfl ?_
  refine mr_iload_n (pc := 0) (z := p1) dX12_wayRight_0 rfl rfl ?_
  refine mr_istore_n (pc := 1) (lv' := [(3, iv p1), (0, .ref 106), (1, iv p1), (2, iv p2)]) dX12_wayRight_1 rfl (by decide) rfl ?_
  refine mr_iconst (pc := 2) (z := 0) dX12_wayRight_2 ?_
  refine mr_istore (pc := 3) (lv' := [(4, iv 0), (3, iv p1), (0, .ref 106), (1, iv p1), (2, iv p2)]) dX12_wayRight_3 (by decide) rfl ?_
  have L4576 : ∀ (nL4576 : Nat) (z4575 z4574 : Int), True → (0 ≤ z4575 ∧ z4575 ≤ 1000) → (0 ≤ z4574 ∧ z4574 ≤ 250) → (4 * z4574 ≤ z4575 - p1) → (z4575 ≤ p1 + p2) → (∀ s, Chn μ (p1 + p2) z4575 s → Chn μ (p1 + p2) p1 (z4574 + s)) → (1001 - z4575) < (nL4576 : Int) → sV (gG l D c H0 sa) mX12_wayRight (sRm 3 0 0) (sZ (gG l D c H0 sa) 0 0 (qI w [106099, 126999] μ (fun z μ1 => (0 ≤ z ∧ z ≤ 1) ∧ mG [(964, 986)] μ μ1 ∧ True))) 5 [(0, .ref 106), (1, iv p1), (2, iv p2), (3, iv z4575), (4, iv z4574)] [] (mk w μ) 0 0 := by
    intro nL4576
    induction nL4576 with
    | zero => intro z4575 z4574 _ h4577 h4578 h4582 h4583 R4584 h4585; exact ((vc_X12_wayRight_1 h4585 h4582 h4583 hq0 ht_f_size hp1 hp2 h4578 h4577)).elim
    | succ nL4576 ih4586 =>
      intro z4575 z4574 _ h4577 h4578 h4582 h4583 R4584 h4585
      refine mr_iload_n (pc := 5) (z := z4575) dX12_wayRight_5 rfl rfl ?_
      refine mr_iload_n (pc := 6) (z := p1) dX12_wayRight_6 rfl rfl ?_
      refine mr_iload_n (pc := 7) (z := p2) dX12_wayRight_7 rfl rfl ?_
      refine mr_iadd (pc := 8) (x := p1) (y := p2) dX12_wayRight_8 ?_
      refine mr_icmp_ge (pc := 9) (tgt := 94) dX12_wayRight_9 (by decide) (r32 h4577 rfl) (r32 (rAdd (e := 0) (f := 2000) hp1 hp2 rfl) rfl) (fun h4587 => ?_) (fun h4587 => ?_)
      · refine mr_iload (pc := 94) (z := z4574) dX12_wayRight_94 rfl ?_
        refine mr_bipush (pc := 96) (z := 20) dX12_wayRight_96 (by decide) ?_
        refine mr_icmp_le (pc := 98) (tgt := 103) dX12_wayRight_98 (by decide) (r32 h4578 rfl) (r32 (rR (x := 20)) rfl) (fun h4588 => ?_) (fun h4588 => ?_)
        · have h4589 : 0 ≤ z4574 ∧ z4574 ≤ 20 := (vc_X12_wayRight_2 h4588 h4582 hp1 h4578 h4577)
          refine mr_iload_n (pc := 103) (z := p1) dX12_wayRight_103 rfl rfl ?_
          refine mr_istore_n (pc := 104) (lv' := [(3, iv p1), (0, .ref 106), (1, iv p1), (2, iv p2), (4, iv z4574)]) dX12_wayRight_104 rfl (by decide) rfl ?_
          refine mr_sipush (pc := 105) (z := 966) dX12_wayRight_105 (by decide) ?_
          refine mr_istore (pc := 108) (lv' := [(5, iv 966), (3, iv p1), (0, .ref 106), (1, iv p1), (2, iv p2), (4, iv z4574)]) dX12_wayRight_108 (by decide) rfl ?_
          have L5070 : ∀ (nL5070 : Nat) (z5068 z5067 : Int) (μ5069 : mM), mT w μ5069 → mF [126999] w μ μ5069 → mG [(964, 986)] μ μ5069 → (0 ≤ z5068 ∧ z5068 ≤ 1000) → (966 ≤ z5067 ∧ z5067 ≤ 986) → (p1 ≤ z5068) → Chn μ5069 (p1 + p2) z5068 (z4574 - (z5067 - 966)) → (1001 - z5068) < (nL5070 : Int) → sV (gG l D c H0 sa) mX12_wayRight (sRm 3 0 0) (sZ (gG l D c H0 sa) 0 0 (qI w [106099, 126999] μ (fun z μ1 => (0 ≤ z ∧ z ≤ 1) ∧ mG [(964, 986)] μ μ1 ∧ True))) 110 [(0, .ref 106), (1, iv p1), (2, iv p2), (3, iv z5068), (4, iv z4574), (5, iv z5067)] [] (mk w μ5069) 0 0 := by
            intro nL5070
            induction nL5070 with
            | zero => intro z5068 z5067 μ5069 T5073 F5074 G5075 h5071 h5072 h5076 R5077 h5078; exact ((vc_X12_wayRight_3 h5078 h5076 hq0 h4582 h4583 h4587 ht_f_size hp1 hp2 h4589 h4577 h5071)).elim
            | succ nL5070 ih5079 =>
              intro z5068 z5067 μ5069 T5073 F5074 G5075 h5071 h5072 h5076 R5077 h5078
              refine mr_iload_n (pc := 110) (z := z5068) dX12_wayRight_110 rfl rfl ?_
              refine mr_iload_n (pc := 111) (z := p1) dX12_wayRight_111 rfl rfl ?_
              refine mr_iload_n (pc := 112) (z := p2) dX12_wayRight_112 rfl rfl ?_
              refine mr_iadd (pc := 113) (x := p1) (y := p2) dX12_wayRight_113 ?_
              refine mr_icmp_ge (pc := 114) (tgt := 244) dX12_wayRight_114 (by decide) (r32 h5071 rfl) (r32 (rAdd (e := 0) (f := 2000) hp1 hp2 rfl) rfl) (fun h5229 => ?_) (fun h5229 => ?_)
              · refine sv_aload_n (pc := 244) dX12_wayRight_244 rfl rfl ?_
                refine gf_X12_32 (pc := 245) dX12_wayRight_245 wF_X12_148 (A_106 hw) T5073 ?_
                refine mr_sipush (pc := 248) (z := 964) dX12_wayRight_248 (by decide) ?_
                refine mr_iload (pc := 251) (z := z4574) dX12_wayRight_251 rfl ?_
                refine ss_126 (pc := 253) dX12_wayRight_253 (A_126 hw) T5073 (rIx (n := 84000) (rR (x := 964)) rfl) (vc_X12_wayRight_4 h4582 h4588 hq0 h4583 h4587 h5076 h5229 ht_f_size hp1 hp2 h4589 h4577 h5071) fun μ5230 u5231 T5232 => ?_
                refine sv_aload_n (pc := 254) dX12_wayRight_254 rfl rfl ?_
                refine mr_iconst (pc := 255) (z := 1) dX12_wayRight_255 ?_
                refine pf_X12_99 (pc := 256) dX12_wayRight_256 wF_X12_634 (A_106 hw) T5232 (rW (c := 0) (d := 1) (rR (x := 1)) rfl) fun μ5233 u5234 T5235 => ?_
                refine mr_iconst (pc := 259) (z := 1) dX12_wayRight_259 ?_
                exact mr_zret dX12_wayRight_260 rfl (rW (c := 0) (d := 1) (rR (x := 1)) rfl) (le_t rfl) (le_t rfl) T5235 (mF.up (mF.up (mF.call mF.refl F5074 rfl) (A_126 hw) u5231 rfl) (A_106 hw) u5234 rfl) ⟨(rW (c := 0) (d := 1) (rR (x := 1)) rfl), (mG.upO (mG.up (mG.call mG.refl G5075 (List.forall_mem_cons.mpr ⟨⟨_, List.mem_cons_self, vc_X12_wayRight_5⟩, (fun _ h => absurd h List.not_mem_nil)⟩)) u5231 List.mem_cons_self vc_X12_wayRight_6) u5234 rfl), trivial⟩
              have B5236 := Chn.un R5077 (vc_X12_wayRight_7 hq0 h4582 h4583 h4587 h5076 h5229 h4588 ht_f_size hp1 hp2 h4589 h4577 h5071)
              refine sv_aload_n (pc := 117) dX12_wayRight_117 rfl rfl ?_
              refine mr_iload_n (pc := 118) (z := z5068) dX12_wayRight_118 rfl rfl ?_
              refine mr_iconst (pc := 119) (z := 1) dX12_wayRight_119 ?_
              refine mr_iadd (pc := 120) (x := z5068) (y := 1) dX12_wayRight_120 ?_
              refine mr_cVP (pc := 121) (c_X12_byteAt_f hw T5073 (rW (c := 0) (d := 2147483647) (rAdd (e := 1) (f := 1001) h5071 (rR (x := 1)) rfl) rfl) (F5074.f (A_106 hw) rfl q_f_size) (vc_X12_wayRight_8 hq0 h5076 h5229 B5236.1 h4582 h4583 h4587 ht_f_size hp1 hp2 h4589 h4577 h5071)) (gOk _ _ _ _ _) dX12_wayRight_121 (tX12_byteAt _ _ _ _ _) ⟨wV_X12_byteAt, wL_X12_byteAt⟩ wM_X12_227 (gCX12 _ _ _ _ _) rfl (A_106 hw) rfl ⟨le_t rfl, le_t rfl⟩ ⟨le_t rfl, le_t rfl⟩ rfl (le_t rfl) fun z5241 h5240 => ?_
              have B5242 := B5236; rw [h5240.2.1.symm] at B5242
              have h5243 : 1 ≤ z5241 ∧ z5068 + 2 + 4 * z5241 ≤ p1 + p2 ∧ z5241 ≤ z4574 - (z5067 - 966) := ⟨B5242.2.1, B5242.2.2.1, B5242.2.2.2.1⟩
              have h5244 : 1 ≤ z5241 ∧ z5241 ≤ 20 := (vc_X12_wayRight_9 h4582 h4588 h5243 hq0 h4583 h4587 h5076 h5229 B5236.1 ht_f_size hp1 hp2 h4589 h4577 h5072 h5071 h5240.1)
              refine mr_istore (pc := 124) (lv' := [(6, iv z5241), (0, .ref 106), (1, iv p1), (2, iv p2), (3, iv z5068), (4, iv z4574), (5, iv z5067)]) dX12_wayRight_124 (by decide) rfl ?_
              refine mr_iload (pc := 126) (z := z5067) dX12_wayRight_126 rfl ?_
              refine mr_istore (pc := 128) (lv' := [(7, iv z5067), (6, iv z5241), (0, .ref 106), (1, iv p1), (2, iv p2), (3, iv z5068), (4, iv z4574), (5, iv z5067)]) dX12_wayRight_128 (by decide) rfl ?_
              refine mr_iconst (pc := 130) (z := 0) dX12_wayRight_130 ?_
              refine mr_istore (pc := 131) (lv' := [(8, iv 0), (7, iv z5067), (6, iv z5241), (0, .ref 106), (1, iv p1), (2, iv p2), (3, iv z5068), (4, iv z4574), (5, iv z5067)]) dX12_wayRight_131 (by decide) rfl ?_
              have L6110 : ∀ (nL6110 : Nat) (z6108 z6107 : Int) (μ6109 : mM), mT w μ6109 → mF [126999] w μ5069 μ6109 → mG [(964, 986)] μ5069 μ6109 → (966 ≤ z6108 ∧ z6108 ≤ 986) → (0 ≤ z6107 ∧ z6107 ≤ 20) → (z6108 = z5067 + z6107) → (z6107 ≤ z5241) → (987 - z6108) < (nL6110 : Int) → sV (gG l D c H0 sa) mX12_wayRight (sRm 3 0 0) (sZ (gG l D c H0 sa) 0 0 (qI w [106099, 126999] μ (fun z μ1 => (0 ≤ z ∧ z ≤ 1) ∧ mG [(964, 986)] μ μ1 ∧ True))) 133 [(0, .ref 106), (1, iv p1), (2, iv p2), (3, iv z5068), (4, iv z4574), (5, iv z6108), (6, iv z5241), (7, iv z5067), (8, iv z6107)] [] (mk w μ6109) 0 0 := by
                intro nL6110
                induction nL6110 with
                | zero => intro z6108 z6107 μ6109 T6113 F6114 G6115 h6111 h6112 h6116 h6117 h6118; exact ((vc_X12_wayRight_10 h6118 h6116 h5243 h6117 hp1 hp2 h4589 h5072 h5071 h5244 h6112 h6111)).elim
                | succ nL6110 ih6119 =>
                  intro z6108 z6107 μ6109 T6113 F6114 G6115 h6111 h6112 h6116 h6117 h6118
                  refine mr_iload (pc := 133) (z := z6107) dX12_wayRight_133 rfl ?_
                  refine mr_iload (pc := 135) (z := z5241) dX12_wayRight_135 rfl ?_
                  refine mr_icmp_ge (pc := 137) (tgt := 232) dX12_wayRight_137 (by decide) (r32 h6112 rfl) (r32 h5244 rfl) (fun h6187 => ?_) (fun h6187 => ?_)
                  · have h6188 : 1 ≤ z6107 ∧ z6107 ≤ 20 := (vc_X12_wayRight_11 h6187 h5243 h6116 h6117 hp1 hp2 h4589 h5072 h5071 h5244 h6112 h6111)
                    refine mr_iload_n (pc := 232) (z := z5068) dX12_wayRight_232 rfl rfl ?_
                    refine mr_iconst (pc := 233) (z := 2) dX12_wayRight_233 ?_
                    refine mr_iconst (pc := 234) (z := 4) dX12_wayRight_234 ?_
                    refine mr_iload (pc := 235) (z := z5241) dX12_wayRight_235 rfl ?_
                    refine mr_imul (pc := 237) (x := 4) (y := z5241) dX12_wayRight_237 ?_
                    refine mr_iadd (pc := 238) (x := 2) (y := (4 * z5241)) dX12_wayRight_238 ?_
                    refine mr_iadd (pc := 239) (x := z5068) (y := (2 + (4 * z5241))) dX12_wayRight_239 ?_
                    refine mr_istore_n (pc := 240) (lv' := [(3, iv (z5068 + (2 + (4 * z5241)))), (0, .ref 106), (1, iv p1), (2, iv p2), (4, iv z4574), (5, iv z6108), (6, iv z5241), (7, iv z5067), (8, iv z6107)]) dX12_wayRight_240 rfl (by decide) rfl ?_
                    refine sv_goto (pc := 241) (tgt := 110) dX12_wayRight_241 (by decide) ?_
                    refine mr_lvS (lv' := [(0, .ref 106), (1, iv p1), (2, iv p2), (3, iv (z5068 + (2 + (4 * z5241)))), (4, iv z4574), (5, iv z6108)]) (List.forall_mem_cons.mpr ⟨rfl, List.forall_mem_cons.mpr ⟨rfl, List.forall_mem_cons.mpr ⟨rfl, List.forall_mem_cons.mpr ⟨rfl, List.forall_mem_cons.mpr ⟨rfl, List.forall_mem_cons.mpr ⟨rfl, fun _ h => absurd h List.not_mem_nil⟩⟩⟩⟩⟩⟩) ?_
                    exact ih5079 (z5068 + (2 + (4 * z5241))) z6108 μ6109 T6113 (mF.call (mF.call mF.refl F5074 rfl) F6114 rfl) (mG.call (mG.call mG.refl G5075 (List.forall_mem_cons.mpr ⟨⟨_, List.mem_cons_self, vc_X12_wayRight_5⟩, (fun _ h => absurd h List.not_mem_nil)⟩)) G6115 (List.forall_mem_cons.mpr ⟨⟨_, List.mem_cons_self, vc_X12_wayRight_5⟩, (fun _ h => absurd h List.not_mem_nil)⟩)) (vc_X12_wayRight_12 h5076 h5229 B5236.1 h5243 h6117 h6187 hq0 h4582 h4583 h4587 h4588 h6116 ht_f_size hp1 hp2 h4589 h4577 h5072 h5071 h5244 h6188 h6111) h6111 (vc_X12_wayRight_13 hq0 h4582 h4583 h4587 h5076 h5229 B5236.1 h5243 h6117 h6187 h4588 h6116 ht_f_size hp1 hp2 h4589 h4577 h5072 h5071 h5244 h6188 h6111) (Chn.cg (Chn.keep B5242.2.2.2.2 hw ((mF.call mF.refl F6114 rfl) : mF [126999] w μ5069 μ6109) rfl) (vc_X12_wayRight_15 h5076 h5229 B5236.1 h5243 h6117 h6187 hq0 h4582 h4583 h4587 h4588 h6116 ht_f_size hp1 hp2 h4589 h4577 h5072 h5071 h5244 h6188 h6111) (vc_X12_wayRight_16 hq0 h4582 h4583 h4587 h4588 h5076 h5229 B5236.1 h5243 h6116 h6117 h6187 ht_f_size hp1 hp2 h4589 h4577 h5072 h5071 h5244 h6188 h6111)) (vc_X12_wayRight_14 (nS h5078) h5076 h5229 B5236.1 h5243 h6117 h6187 hq0 h4582 h4583 h4587 h4588 h6116 ht_f_size hp1 hp2 h4589 h4577 h5072 h5071 h5244 h6188 h6111)
                  have h6189 : 0 ≤ z6107 ∧ z6107 ≤ 19 := (vc_X12_wayRight_17 h6187 h5243 h6116 h6117 hp1 hp2 h4589 h5072 h5071 h5244 h6112 h6111)
                  refine sv_aload_n (pc := 140) dX12_wayRight_140 rfl rfl ?_
                  refine mr_iload_n (pc := 141) (z := z5068) dX12_wayRight_141 rfl rfl ?_
                  refine mr_iconst (pc := 142) (z := 2) dX12_wayRight_142 ?_
                  refine mr_iadd (pc := 143) (x := z5068) (y := 2) dX12_wayRight_143 ?_
                  refine mr_iconst (pc := 144) (z := 4) dX12_wayRight_144 ?_
                  refine mr_iload (pc := 145) (z := z6107) dX12_wayRight_145 rfl ?_
                  refine mr_imul (pc := 147) (x := 4) (y := z6107) dX12_wayRight_147 ?_
                  refine mr_iadd (pc := 148) (x := (z5068 + 2)) (y := (4 * z6107)) dX12_wayRight_148 ?_
                  refine mr_iconst (pc := 149) (z := 4) dX12_wayRight_149 ?_
                  refine mr_cVP (pc := 150) (c_X12_number_f hw T6113 (vc_X12_wayRight_18 h5076 h5229 B5236.1 h5243 h6116 h6117 h6187 hq0 h4582 h4583 h4587 h4588 ht_f_size hp1 hp2 h4589 h4577 h5072 h5071 h5244 h6189 h6111) (rW (c := 0) (d := 4) (rR (x := 4)) rfl) (F6114.f (A_106 hw) rfl (F5074.f (A_106 hw) rfl q_f_size)) (vc_X12_wayRight_19 hq0 h5076 h5229 B5236.1 h5243 h6116 h6117 h6187 h4582 h4583 h4587 h4588 ht_f_size hp1 hp2 h4589 h4577 h5072 h5071 h5244 h6189 h6111)) (gOk _ _ _ _ _) dX12_wayRight_150 (tX12_number _ _ _ _ _) ⟨wV_X12_number, wL_X12_number⟩ wM_X12_623 (gCX12 _ _ _ _ _) rfl (A_106 hw) rfl ⟨le_t rfl, le_t rfl⟩ ⟨le_t rfl, le_t rfl⟩ rfl (le_t rfl) fun z6194 h6193 => ?_
                  refine mr_istore (pc := 153) (lv' := [(9, iv z6194), (0, .ref 106), (1, iv p1), (2, iv p2), (3, iv z5068), (4, iv z4574), (5, iv z6108), (6, iv z5241), (7, iv z5067), (8, iv z6107)]) dX12_wayRight_153 (by decide) rfl ?_
                  refine mr_iload (pc := 155) (z := z6108) dX12_wayRight_155 rfl ?_
                  refine mr_istore (pc := 157) (lv' := [(10, iv z6108), (9, iv z6194), (0, .ref 106), (1, iv p1), (2, iv p2), (3, iv z5068), (4, iv z4574), (5, iv z6108), (6, iv z5241), (7, iv z5067), (8, iv z6107)]) dX12_wayRight_157 (by decide) rfl ?_
                  have L6287 : ∀ (nL6287 : Nat) (z6285 : Int) (μ6286 : mM), mT w μ6286 → mF [126999] w μ6109 μ6286 → mG [(964, 986)] μ6109 μ6286 → (966 ≤ z6285 ∧ z6285 ≤ 985) → (z6285 ≤ z6108) → (z5067 ≤ z6285) → (z6285 - 965) < (nL6287 : Int) → sV (gG l D c H0 sa) mX12_wayRight (sRm 3 0 0) (sZ (gG l D c H0 sa) 0 0 (qI w [106099, 126999] μ (fun z μ1 => (0 ≤ z ∧ z ≤ 1) ∧ mG [(964, 986)] μ μ1 ∧ True))) 159 [(0, .ref 106), (1, iv p1), (2, iv p2), (3, iv z5068), (4, iv z4574), (5, iv z6108), (6, iv z5241), (7, iv z5067), (8, iv z6107), (9, iv z6194), (10, iv z6285)] [] (mk w μ6286) 0 0 := by
                    intro nL6287
                    induction nL6287 with
                    | zero => intro z6285 μ6286 T6289 F6290 G6291 h6288 h6292 h6293 h6294; exact ((vc_X12_wayRight_20 h6294 h6292 h6293 h5243 h6116 hp1 hp2 h4589 h5072 h5071 h5244 h6189 h6111 h6288)).elim
                    | succ nL6287 ih6295 =>
                      intro z6285 μ6286 T6289 F6290 G6291 h6288 h6292 h6293 h6294
                      refine sv_aload_n (pc := 159) dX12_wayRight_159 rfl rfl ?_
                      refine mr_iload_n (pc := 160) (z := z5068) dX12_wayRight_160 rfl rfl ?_
                      refine mr_cVP (pc := 161) (c_X12_byteAt_f hw T6289 (rW (c := 0) (d := 2147483647) h5071 rfl) (F6290.f (A_106 hw) rfl (F6114.f (A_106 hw) rfl (F5074.f (A_106 hw) rfl q_f_size))) (vc_X12_wayRight_21 hq0 h5076 h5229 B5236.1 h5243 h4582 h4583 h4587 h4588 h6116 h6117 h6187 h6293 ht_f_size hp1 hp2 h4589 h4577 h5072 h5071 h5244 h6189 h6111 h6288)) (gOk _ _ _ _ _) dX12_wayRight_161 (tX12_byteAt _ _ _ _ _) ⟨wV_X12_byteAt, wL_X12_byteAt⟩ wM_X12_227 (gCX12 _ _ _ _ _) rfl (A_106 hw) rfl ⟨le_t rfl, le_t rfl⟩ ⟨le_t rfl, le_t rfl⟩ rfl (le_t rfl) fun z6300 h6299 => ?_
                      refine mr_iconst (pc := 164) (z := 1) dX12_wayRight_164 ?_
                      have J6319 : sV (gG l D c H0 sa) mX12_wayRight (sRm 3 0 0) (sZ (gG l D c H0 sa) 0 0 (qI w [106099, 126999] μ (fun z μ1 => (0 ≤ z ∧ z ≤ 1) ∧ mG [(964, 986)] μ μ1 ∧ True))) 214 [(0, .ref 106), (1, iv p1), (2, iv p2), (3, iv z5068), (4, iv z4574), (5, iv z6108), (6, iv z5241), (7, iv z5067), (8, iv z6107), (9, iv z6194), (10, iv z6285)] [] (mk w μ6286) 0 0 := by
                        refine sv_aload_n (pc := 214) dX12_wayRight_214 rfl rfl ?_
                        refine gf_X12_32 (pc := 215) dX12_wayRight_215 wF_X12_148 (A_106 hw) T6289 ?_
                        refine mr_iload (pc := 218) (z := z6285) dX12_wayRight_218 rfl ?_
                        refine mr_iload (pc := 220) (z := z6194) dX12_wayRight_220 rfl ?_
                        refine ss_126 (pc := 222) dX12_wayRight_222 (A_126 hw) T6289 (rIx (n := 84000) h6288 rfl) (vc_X12_wayRight_22 h6193.2.2.1 h6292 h6293 h5243 h6116 hp1 hp2 h4589 h5072 h5071 h5244 h6189 h6111 h6193.1 h6288) fun μ6320 u6321 T6322 => ?_
                        refine mr_iinc (pc := 223) (lv' := [(5, iv (z6108 + 1)), (0, .ref 106), (1, iv p1), (2, iv p2), (3, iv z5068), (4, iv z4574), (6, iv z5241), (7, iv z5067), (8, iv z6107), (9, iv z6194), (10, iv z6285)]) dX12_wayRight_223 rfl (by decide) rfl ?_
                        refine mr_iinc (pc := 226) (lv' := [(8, iv (z6107 + 1)), (5, iv (z6108 + 1)), (0, .ref 106), (1, iv p1), (2, iv p2), (3, iv z5068), (4, iv z4574), (6, iv z5241), (7, iv z5067), (9, iv z6194), (10, iv z6285)]) dX12_wayRight_226 rfl (by decide) rfl ?_
                        refine sv_goto (pc := 229) (tgt := 133) dX12_wayRight_229 (by decide) ?_
                        refine mr_lvS (lv' := [(0, .ref 106), (1, iv p1), (2, iv p2), (3, iv z5068), (4, iv z4574), (5, iv (z6108 + 1)), (6, iv z5241), (7, iv z5067), (8, iv (z6107 + 1))]) (List.forall_mem_cons.mpr ⟨rfl, List.forall_mem_cons.mpr ⟨rfl, List.forall_mem_cons.mpr ⟨rfl, List.forall_mem_cons.mpr ⟨rfl, List.forall_mem_cons.mpr ⟨rfl, List.forall_mem_cons.mpr ⟨rfl, List.forall_mem_cons.mpr ⟨rfl, List.forall_mem_cons.mpr ⟨rfl, List.forall_mem_cons.mpr ⟨rfl, fun _ h => absurd h List.not_mem_nil⟩⟩⟩⟩⟩⟩⟩⟩⟩) ?_
                        exact ih6119 (z6108 + 1) (z6107 + 1) μ6320 T6322 (mF.up (mF.call (mF.call mF.refl F6114 rfl) F6290 rfl) (A_126 hw) u6321 rfl) (mG.up (mG.call (mG.call mG.refl G6115 (List.forall_mem_cons.mpr ⟨⟨_, List.mem_cons_self, vc_X12_wayRight_5⟩, (fun _ h => absurd h List.not_mem_nil)⟩)) G6291 (List.forall_mem_cons.mpr ⟨⟨_, List.mem_cons_self, vc_X12_wayRight_5⟩, (fun _ h => absurd h List.not_mem_nil)⟩)) u6321 List.mem_cons_self (vc_X12_wayRight_27 h6292 h6293 h5243 h6116 hp1 hp2 h4589 h5072 h5071 h5244 h6189 h6111 h6288)) (vc_X12_wayRight_23 h6116 h6292 h5243 h6117 h6187 h6293 hp1 hp2 h4589 h5072 h5071 h5244 h6189 h6111 h6288) (rW (c := 0) (d := 20) (rAdd (e := 1) (f := 20) h6189 (rR (x := 1)) rfl) rfl) (vc_X12_wayRight_24 h5243 h6116 h6117 h6187 h6292 h6293 hq0 h4582 h4583 h4587 h4588 h5076 h5229 B5236.1 ht_f_size hp1 hp2 h4589 h4577 h5072 h5071 h5244 h6189 h6111 h6288) (vc_X12_wayRight_25 h5243 h6116 h6117 h6187 hq0 h4582 h4583 h4587 h4588 h5076 h5229 B5236.1 h6292 h6293 ht_f_size hp1 hp2 h4589 h4577 h5072 h5071 h5244 h6189 h6111 h6288) (vc_X12_wayRight_26 (nS h6118) h6116 h6292 h5243 h6117 h6187 h6293 hp1 hp2 h4589 h5072 h5071 h5244 h6189 h6111 h6288)
                      refine mr_icmp_ne (pc := 165) (tgt := 214) dX12_wayRight_165 (by decide) (r32 h6299.1 rfl) (r32 (rR (x := 1)) rfl) (fun h6323 => ?_) (fun h6323 => ?_)
                      · exact J6319 
                      have h6324 : 1 ≤ z6300 ∧ z6300 ≤ 1 := (vc_X12_wayRight_28 h6323 h6299.1)
                      refine mr_iload (pc := 168) (z := z6285) dX12_wayRight_168 rfl ?_
                      refine mr_iload (pc := 170) (z := z5067) dX12_wayRight_170 rfl ?_
                      refine mr_icmp_le (pc := 172) (tgt := 214) dX12_wayRight_172 (by decide) (r32 h6288 rfl) (r32 h5072 rfl) (fun h6325 => ?_) (fun h6325 => ?_)
                      · exact J6319 
                      have h6326 : 967 ≤ z6285 ∧ z6285 ≤ 985 := (vc_X12_wayRight_29 h6325 h5243 h6116 h6292 h6293 hp1 hp2 h4589 h5072 h5071 h5244 h6189 h6111 h6288)
                      have h6327 : 966 ≤ z5067 ∧ z5067 ≤ 984 := (vc_X12_wayRight_30 h6325 h5243 h6116 h6292 h6293 hp1 hp2 h4589 h5072 h5071 h5244 h6189 h6111 h6326)
                      refine mr_iload (pc := 175) (z := z6194) dX12_wayRight_175 rfl ?_
                      refine sv_aload_n (pc := 177) dX12_wayRight_177 rfl rfl ?_
                      refine gf_X12_32 (pc := 178) dX12_wayRight_178 wF_X12_148 (A_106 hw) T6289 ?_
                      refine mr_iload (pc := 181) (z := z6285) dX12_wayRight_181 rfl ?_
                      refine mr_iconst (pc := 183) (z := 1) dX12_wayRight_183 ?_
                      refine mr_isub (pc := 184) (x := z6285) (y := 1) dX12_wayRight_184 ?_
                      refine la_126 (pc := 185) dX12_wayRight_185 (A_126 hw) T6289 (rIx (n := 84000) (rSub (e := 966) (f := 984) h6326 (rR (x := 1)) rfl) rfl) fun z6328 q6329 h6330 => ?_
                      refine mr_cSP (pc := 186) (c_X12_isBelow hw T6289 h6193.1 h6330.1) (gOk _ _ _ _ _) dX12_wayRight_186 (tX12_isBelow _ _ _ _ _) wS_X12_isBelow wM_X12_578 ⟨le_t rfl, le_t rfl⟩ ⟨le_t rfl, le_t rfl⟩ rfl (le_t rfl) fun z6335 h6334 => ?_
                      refine mr_if_eq (pc := 189) (tgt := 214) dX12_wayRight_189 (by decide) (r32 h6334.1 rfl) (fun h6336 => ?_) (fun h6336 => ?_)
                      · have h6337 : 0 ≤ z6335 ∧ z6335 ≤ 0 := (vc_X12_wayRight_31 h6336 h6334.2.1 h6334.2.2.1 h6193.1 h6330.1 h6334.1)
                        have h6338 : z6328 % 4294967296 ≤ z6194 % 4294967296 := (h6334.2.2.1 (vc_X12_wayRight_32 h6334.2.1 h6334.2.2.1 h6336 h6193.2.2.1 h6330.2.1 h6330.2.2.1 h6330.2.2.2 h6193.1 h6326 h6330.1 h6337))
                        exact J6319 
                      have h6339 : 1 ≤ z6335 ∧ z6335 ≤ 1 := (vc_X12_wayRight_33 h6336 h6334.2.1 h6334.2.2.1 h6193.1 h6330.1 h6334.1)
                      have h6340 : z6194 % 4294967296 < z6328 % 4294967296 := (h6334.2.1 (vc_X12_wayRight_34 h6334.2.1 h6334.2.2.1 h6336 h6193.2.2.1 h6330.2.1 h6330.2.2.1 h6330.2.2.2 h6193.1 h6326 h6330.1 h6339))
                      refine sv_aload_n (pc := 192) dX12_wayRight_192 rfl rfl ?_
                      refine gf_X12_32 (pc := 193) dX12_wayRight_193 wF_X12_148 (A_106 hw) T6289 ?_
                      refine mr_iload (pc := 196) (z := z6285) dX12_wayRight_196 rfl ?_
                      refine sv_aload_n (pc := 198) dX12_wayRight_198 rfl rfl ?_
                      refine gf_X12_32 (pc := 199) dX12_wayRight_199 wF_X12_148 (A_106 hw) T6289 ?_
                      refine mr_iload (pc := 202) (z := z6285) dX12_wayRight_202 rfl ?_
                      refine mr_iconst (pc := 204) (z := 1) dX12_wayRight_204 ?_
                      refine mr_isub (pc := 205) (x := z6285) (y := 1) dX12_wayRight_205 ?_
                      refine lk_126 (pc := 206) dX12_wayRight_206 (A_126 hw) (rIx (n := 84000) (rSub (e := 966) (f := 984) h6326 (rR (x := 1)) rfl) rfl) q6329 ?_
                      refine ss_126 (pc := 207) dX12_wayRight_207 (A_126 hw) T6289 (rIx (n := 84000) h6326 rfl) (vc_X12_wayRight_35 h6292 h6293 h6325 h6330.2.1 h6330.2.2.1 h6330.2.2.2 h6334.2.1 h6334.2.2.1 h6340 h5243 h6116 h6193.2.2.1 h6336 hp1 hp2 h4589 h6327 h5071 h5244 h6189 h6111 h6193.1 h6326 h6330.1 h6339) fun μ6341 u6342 T6343 => ?_
                      refine mr_iinc (pc := 208) (lv' := [(10, iv (z6285 + (-1))), (0, .ref 106), (1, iv p1), (2, iv p2), (3, iv z5068), (4, iv z4574), (5, iv z6108), (6, iv z5241), (7, iv z5067), (8, iv z6107), (9, iv z6194)]) dX12_wayRight_208 rfl (by decide) rfl ?_
                      refine sv_goto (pc := 211) (tgt := 159) dX12_wayRight_211 (by decide) ?_
                      refine mr_lvS (lv' := [(0, .ref 106), (1, iv p1), (2, iv p2), (3, iv z5068), (4, iv z4574), (5, iv z6108), (6, iv z5241), (7, iv z5067), (8, iv z6107), (9, iv z6194), (10, iv (z6285 + (-1)))]) (List.forall_mem_cons.mpr ⟨rfl, List.forall_mem_cons.mpr ⟨rfl, List.forall_mem_cons.mpr ⟨rfl, List.forall_mem_cons.mpr ⟨rfl, List.forall_mem_cons.mpr ⟨rfl, List.forall_mem_cons.mpr ⟨rfl, List.forall_mem_cons.mpr ⟨rfl, List.forall_mem_cons.mpr ⟨rfl, List.forall_mem_cons.mpr ⟨rfl, List.forall_mem_cons.mpr ⟨rfl, List.forall_mem_cons.mpr ⟨rfl, fun _ h => absurd h List.not_mem_nil⟩⟩⟩⟩⟩⟩⟩⟩⟩⟩⟩) ?_
                      exact ih6295 (z6285 + (-1)) μ6341 T6343 (mF.up (mF.call mF.refl F6290 rfl) (A_126 hw) u6342 rfl) (mG.up (mG.call mG.refl G6291 (List.forall_mem_cons.mpr ⟨⟨_, List.mem_cons_self, vc_X12_wayRight_5⟩, (fun _ h => absurd h List.not_mem_nil)⟩)) u6342 List.mem_cons_self (vc_X12_wayRight_39 h6292 h6293 h6325 h6330.2.1 h6330.2.2.1 h6330.2.2.2 h5243 h6116 h6334.2.1 h6334.2.2.1 h6340 hp1 hp2 h4589 h6327 h5071 h5244 h6189 h6111 h6193.1 h6326 h6330.1 h6339)) (rW (c := 966) (d := 985) (rAdd (e := 966) (f := 984) h6326 (rR (x := (-1))) rfl) rfl) (vc_X12_wayRight_36 h6116 h6292 h6293 h6325 h6330.2.1 h6330.2.2.1 h6330.2.2.2 h5243 h6117 h6187 h6334.2.1 h6334.2.2.1 h6340 hp1 hp2 h4589 h6327 h5071 h5244 h6189 h6111 h6193.1 h6326 h6330.1 h6339) (vc_X12_wayRight_37 h5243 h6116 h6292 h6293 h6325 h6330.2.1 h6330.2.2.1 h6330.2.2.2 hq0 h4582 h4583 h4587 h4588 h5076 h5229 B5236.1 h6117 h6187 h6334.2.1 h6334.2.2.1 h6340 ht_f_size hp1 hp2 h4589 h4577 h6327 h5071 h5244 h6189 h6111 h6193.1 h6326 h6330.1 h6339) (vc_X12_wayRight_38 (nS h6294) h6292 h6293 h6325 h6330.2.1 h6330.2.2.1 h6330.2.2.2 h5243 h6116 h6334.2.1 h6334.2.2.1 h6340 hp1 hp2 h4589 h6327 h5071 h5244 h6189 h6111 h6193.1 h6326 h6330.1 h6339)
                  refine mr_lvS (lv' := [(0, .ref 106), (1, iv p1), (2, iv p2), (3, iv z5068), (4, iv z4574), (5, iv z6108), (6, iv z5241), (7, iv z5067), (8, iv z6107), (9, iv z6194), (10, iv z6108)]) (List.forall_mem_cons.mpr ⟨rfl, List.forall_mem_cons.mpr ⟨rfl, List.forall_mem_cons.mpr ⟨rfl, List.forall_mem_cons.mpr ⟨rfl, List.forall_mem_cons.mpr ⟨rfl, List.forall_mem_cons.mpr ⟨rfl, List.forall_mem_cons.mpr ⟨rfl, List.forall_mem_cons.mpr ⟨rfl, List.forall_mem_cons.mpr ⟨rfl, List.forall_mem_cons.mpr ⟨rfl, List.forall_mem_cons.mpr ⟨rfl, fun _ h => absurd h List.not_mem_nil⟩⟩⟩⟩⟩⟩⟩⟩⟩⟩⟩) ?_
                  exact L6287 22 z6108 μ6109 T6113 mF.refl mG.refl (vc_X12_wayRight_40 h6116 h5243 h6117 h6187 hp1 hp2 h4589 h5072 h5071 h5244 h6189 h6111) (vc_X12_wayRight_41 h6116 h5243 h6117 h6187 hp1 hp2 h4589 h5072 h5071 h5244 h6189 h6111) (vc_X12_wayRight_42 h5243 h6116 hq0 h4582 h4583 h4587 h4588 h5076 h5229 B5236.1 h6117 h6187 ht_f_size hp1 hp2 h4589 h4577 h5072 h5071 h5244 h6189 h6111) (vc_X12_wayRight_43 h6116 h5243 h6117 h6187 hp1 hp2 h4589 h5072 h5071 h5244 h6189 h6111)
              refine mr_lvS (lv' := [(0, .ref 106), (1, iv p1), (2, iv p2), (3, iv z5068), (4, iv z4574), (5, iv z5067), (6, iv z5241), (7, iv z5067), (8, iv 0)]) (List.forall_mem_cons.mpr ⟨rfl, List.forall_mem_cons.mpr ⟨rfl, List.forall_mem_cons.mpr ⟨rfl, List.forall_mem_cons.mpr ⟨rfl, List.forall_mem_cons.mpr ⟨rfl, List.forall_mem_cons.mpr ⟨rfl, List.forall_mem_cons.mpr ⟨rfl, List.forall_mem_cons.mpr ⟨rfl, List.forall_mem_cons.mpr ⟨rfl, fun _ h => absurd h List.not_mem_nil⟩⟩⟩⟩⟩⟩⟩⟩⟩) ?_
              exact L6110 22 z5067 0 μ5069 T5073 mF.refl mG.refl h5072 (rW (c := 0) (d := 20) (rR (x := 0)) rfl) (vc_X12_wayRight_44 h5243 hq0 h4582 h4583 h4587 h4588 h5076 h5229 B5236.1 ht_f_size hp1 hp2 h4589 h4577 h5072 h5071 h5244) (vc_X12_wayRight_45 h5243 hq0 h4582 h4583 h4587 h4588 h5076 h5229 B5236.1 ht_f_size hp1 hp2 h4589 h4577 h5072 h5071 h5244) (vc_X12_wayRight_46 h5243 hq0 h4582 h4583 h4587 h4588 h5076 h5229 B5236.1 ht_f_size hp1 hp2 h4589 h4577 h5072 h5071 h5244)
          refine mr_lvS (lv' := [(0, .ref 106), (1, iv p1), (2, iv p2), (3, iv p1), (4, iv z4574), (5, iv 966)]) (List.forall_mem_cons.mpr ⟨rfl, List.forall_mem_cons.mpr ⟨rfl, List.forall_mem_cons.mpr ⟨rfl, List.forall_mem_cons.mpr ⟨rfl, List.forall_mem_cons.mpr ⟨rfl, List.forall_mem_cons.mpr ⟨rfl, fun _ h => absurd h List.not_mem_nil⟩⟩⟩⟩⟩⟩) ?_
          exact L5070 1002 p1 966 μ hT mF.refl mG.refl hp1 (rW (c := 966) (d := 986) (rR (x := 966)) rfl) (vc_X12_wayRight_47 hq0 h4582 h4583 h4587 h4588 ht_f_size hp1 hp2 h4589 h4577) (Chn.fin R4584 (vc_X12_wayRight_49 hq0 h4582 h4583 h4587 h4588 ht_f_size hp1 hp2 h4589 h4577) (vc_X12_wayRight_50 hq0 h4582 h4583 h4587 h4588 ht_f_size hp1 hp2 h4589 h4577)) (vc_X12_wayRight_48 hq0 h4582 h4583 h4587 h4588 ht_f_size hp1 hp2 h4589 h4577)
        have h6344 : 21 ≤ z4574 ∧ z4574 ≤ 250 := (vc_X12_wayRight_51 h4588 h4582 hp1 h4578 h4577)
        refine mr_iconst (pc := 101) (z := 0) dX12_wayRight_101 ?_
        exact mr_zret dX12_wayRight_102 rfl (rW (c := 0) (d := 1) (rR (x := 0)) rfl) (le_t rfl) (le_t rfl) hT mF.refl ⟨(rW (c := 0) (d := 1) (rR (x := 0)) rfl), mG.refl, trivial⟩
      refine mr_iload_n (pc := 12) (z := z4575) dX12_wayRight_12 rfl rfl ?_
      refine mr_iconst (pc := 13) (z := 2) dX12_wayRight_13 ?_
      refine mr_iadd (pc := 14) (x := z4575) (y := 2) dX12_wayRight_14 ?_
      refine mr_iload_n (pc := 15) (z := p1) dX12_wayRight_15 rfl rfl ?_
      refine mr_iload_n (pc := 16) (z := p2) dX12_wayRight_16 rfl rfl ?_
      refine mr_iadd (pc := 17) (x := p1) (y := p2) dX12_wayRight_17 ?_
      refine mr_icmp_gt (pc := 18) (tgt := 63) dX12_wayRight_18 (by decide) (r32 (rAdd (e := 2) (f := 1002) h4577 (rR (x := 2)) rfl) rfl) (r32 (rAdd (e := 0) (f := 2000) hp1 hp2 rfl) rfl) (fun h6345 => ?_) (fun h6345 => ?_)
      · refine mr_iconst (pc := 63) (z := 0) dX12_wayRight_63 ?_
        exact mr_zret dX12_wayRight_64 rfl (rW (c := 0) (d := 1) (rR (x := 0)) rfl) (le_t rfl) (le_t rfl) hT mF.refl ⟨(rW (c := 0) (d := 1) (rR (x := 0)) rfl), mG.refl, trivial⟩
      refine sv_aload_n (pc := 21) dX12_wayRight_21 rfl rfl ?_
      refine mr_iload_n (pc := 22) (z := z4575) dX12_wayRight_22 rfl rfl ?_
      refine mr_cVP (pc := 23) (c_X12_byteAt_f hw hT (rW (c := 0) (d := 2147483647) h4577 rfl) q_f_size (vc_X12_wayRight_52 hq0 h4582 h4583 h4587 h6345 ht_f_size hp1 hp2 h4578 h4577)) (gOk _ _ _ _ _) dX12_wayRight_23 (tX12_byteAt _ _ _ _ _) ⟨wV_X12_byteAt, wL_X12_byteAt⟩ wM_X12_227 (gCX12 _ _ _ _ _) rfl (A_106 hw) rfl ⟨le_t rfl, le_t rfl⟩ ⟨le_t rfl, le_t rfl⟩ rfl (le_t rfl) fun z6350 h6349 => ?_
      refine mr_iconst (pc := 26) (z := 1) dX12_wayRight_26 ?_
      refine mr_iconst (pc := 27) (z := 2) dX12_wayRight_27 ?_
      refine mr_cSP (pc := 28) (c_X12_in hw hT (rW (c := (-2147483648)) (d := 2147483647) h6349.1 rfl) (rW (c := (-2147483648)) (d := 2147483647) (rR (x := 1)) rfl) (rW (c := (-2147483648)) (d := 2147483647) (rR (x := 2)) rfl)) (gOk _ _ _ _ _) dX12_wayRight_28 (tX12_in _ _ _ _ _) wS_X12_in wM_X12_18 ⟨le_t rfl, le_t rfl⟩ ⟨le_t rfl, le_t rfl⟩ rfl (le_t rfl) fun z6355 h6354 => ?_
      refine mr_if_eq (pc := 31) (tgt := 63) dX12_wayRight_31 (by decide) (r32 h6354.1 rfl) (fun h6356 => ?_) (fun h6356 => ?_)
      · have h6357 : 0 ≤ z6355 ∧ z6355 ≤ 0 := (vc_X12_wayRight_53 h6356 h6354.2.1 h6354.2.2.1 h6349.1 h6354.1)
        have h6358 : z6350 < (1 : Int) ∨ (2 : Int) < z6350 := (h6354.2.2.1 (vc_X12_wayRight_54 h6354.2.1 h6354.2.2.1 h6356 h6349.1 h6357))
        refine mr_iconst (pc := 63) (z := 0) dX12_wayRight_63 ?_
        exact mr_zret dX12_wayRight_64 rfl (rW (c := 0) (d := 1) (rR (x := 0)) rfl) (le_t rfl) (le_t rfl) hT mF.refl ⟨(rW (c := 0) (d := 1) (rR (x := 0)) rfl), mG.refl, trivial⟩
      have h6359 : 1 ≤ z6355 ∧ z6355 ≤ 1 := (vc_X12_wayRight_55 h6356 h6354.2.1 h6354.2.2.1 h6349.1 h6354.1)
      have h6360 : (1 : Int) ≤ z6350 ∧ z6350 ≤ (2 : Int) := (h6354.2.1 (vc_X12_wayRight_56 h6354.2.1 h6354.2.2.1 h6356 h6349.1 h6359))
      have h6361 : 1 ≤ z6350 ∧ z6350 ≤ 2 := (vc_X12_wayRight_57 h6360 h6354.2.1 h6354.2.2.1 h6349.1 h6359)
      refine sv_aload_n (pc := 34) dX12_wayRight_34 rfl rfl ?_
      refine mr_iload_n (pc := 35) (z := z4575) dX12_wayRight_35 rfl rfl ?_
      refine mr_iconst (pc := 36) (z := 1) dX12_wayRight_36 ?_
      refine mr_iadd (pc := 37) (x := z4575) (y := 1) dX12_wayRight_37 ?_
      refine mr_cVP (pc := 38) (c_X12_byteAt_f hw hT (rW (c := 0) (d := 2147483647) (rAdd (e := 1) (f := 1001) h4577 (rR (x := 1)) rfl) rfl) q_f_size (vc_X12_wayRight_58 hq0 h4582 h4583 h4587 h6345 ht_f_size hp1 hp2 h4578 h4577)) (gOk _ _ _ _ _) dX12_wayRight_38 (tX12_byteAt _ _ _ _ _) ⟨wV_X12_byteAt, wL_X12_byteAt⟩ wM_X12_227 (gCX12 _ _ _ _ _) rfl (A_106 hw) rfl ⟨le_t rfl, le_t rfl⟩ ⟨le_t rfl, le_t rfl⟩ rfl (le_t rfl) fun z6366 h6365 => ?_
      refine mr_if_eq (pc := 41) (tgt := 63) dX12_wayRight_41 (by decide) (r32 h6365.1 rfl) (fun h6367 => ?_) (fun h6367 => ?_)
      · have h6368 : 0 ≤ z6366 ∧ z6366 ≤ 0 := (vc_X12_wayRight_59 h6367 h6365.1)
        refine mr_iconst (pc := 63) (z := 0) dX12_wayRight_63 ?_
        exact mr_zret dX12_wayRight_64 rfl (rW (c := 0) (d := 1) (rR (x := 0)) rfl) (le_t rfl) (le_t rfl) hT mF.refl ⟨(rW (c := 0) (d := 1) (rR (x := 0)) rfl), mG.refl, trivial⟩
      have h6369 : 1 ≤ z6366 ∧ z6366 ≤ 255 := (vc_X12_wayRight_60 h6367 h6365.1)
      refine mr_iload_n (pc := 44) (z := z4575) dX12_wayRight_44 rfl rfl ?_
      refine mr_iconst (pc := 45) (z := 2) dX12_wayRight_45 ?_
      refine mr_iadd (pc := 46) (x := z4575) (y := 2) dX12_wayRight_46 ?_
      refine mr_iconst (pc := 47) (z := 4) dX12_wayRight_47 ?_
      refine sv_aload_n (pc := 48) dX12_wayRight_48 rfl rfl ?_
      refine mr_iload_n (pc := 49) (z := z4575) dX12_wayRight_49 rfl rfl ?_
      refine mr_iconst (pc := 50) (z := 1) dX12_wayRight_50 ?_
      refine mr_iadd (pc := 51) (x := z4575) (y := 1) dX12_wayRight_51 ?_
      refine mr_cVP (pc := 52) (c_X12_byteAt_f hw hT (rW (c := 0) (d := 2147483647) (rAdd (e := 1) (f := 1001) h4577 (rR (x := 1)) rfl) rfl) q_f_size (vc_X12_wayRight_58 hq0 h4582 h4583 h4587 h6345 ht_f_size hp1 hp2 h4578 h4577)) (gOk _ _ _ _ _) dX12_wayRight_52 (tX12_byteAt _ _ _ _ _) ⟨wV_X12_byteAt, wL_X12_byteAt⟩ wM_X12_227 (gCX12 _ _ _ _ _) rfl (A_106 hw) rfl ⟨le_t rfl, le_t rfl⟩ ⟨le_t rfl, le_t rfl⟩ rfl (le_t rfl) fun z6374 h6373 => ?_
      have h6375 : 1 ≤ z6374 ∧ z6374 ≤ 255 := (vc_X12_wayRight_61 (h6373.2.1.trans h6365.2.1.symm) h6367 h6369 h6373.1)
      refine mr_imul (pc := 55) (x := 4) (y := z6374) dX12_wayRight_55 ?_
      refine mr_iadd (pc := 56) (x := (z4575 + 2)) (y := (4 * z6374)) dX12_wayRight_56 ?_
      refine mr_iload_n (pc := 57) (z := p1) dX12_wayRight_57 rfl rfl ?_
      refine mr_iload_n (pc := 58) (z := p2) dX12_wayRight_58 rfl rfl ?_
      refine mr_iadd (pc := 59) (x := p1) (y := p2) dX12_wayRight_59 ?_
      refine mr_icmp_le (pc := 60) (tgt := 65) dX12_wayRight_60 (by decide) (r32 (rAdd (e := 6) (f := 2022) (rAdd (e := 2) (f := 1002) h4577 (rR (x := 2)) rfl) (rMulL (n := 4) (e := 4) (f := 1020) h6375 rfl) rfl) rfl) (r32 (rAdd (e := 0) (f := 2000) hp1 hp2 rfl) rfl) (fun h6376 => ?_) (fun h6376 => ?_)
      · refine mr_iload (pc := 65) (z := z4574) dX12_wayRight_65 rfl ?_
        refine sv_aload_n (pc := 67) dX12_wayRight_67 rfl rfl ?_
        refine mr_iload_n (pc := 68) (z := z4575) dX12_wayRight_68 rfl rfl ?_
        refine mr_iconst (pc := 69) (z := 1) dX12_wayRight_69 ?_
        refine mr_iadd (pc := 70) (x := z4575) (y := 1) dX12_wayRight_70 ?_
        refine mr_cVP (pc := 71) (c_X12_byteAt_f hw hT (rW (c := 0) (d := 2147483647) (rAdd (e := 1) (f := 1001) h4577 (rR (x := 1)) rfl) rfl) q_f_size (vc_X12_wayRight_62 hq0 h4582 h4583 h4587 h6345 h6376 (h6373.2.1.trans h6365.2.1.symm) ht_f_size hp1 hp2 h4578 h4577 h6369 h6375)) (gOk _ _ _ _ _) dX12_wayRight_71 (tX12_byteAt _ _ _ _ _) ⟨wV_X12_byteAt, wL_X12_byteAt⟩ wM_X12_227 (gCX12 _ _ _ _ _) rfl (A_106 hw) rfl ⟨le_t rfl, le_t rfl⟩ ⟨le_t rfl, le_t rfl⟩ rfl (le_t rfl) fun z6381 h6380 => ?_
        have h6382 : 1 ≤ z6381 ∧ z6381 ≤ 255 := (vc_X12_wayRight_63 (h6380.2.1.trans h6365.2.1.symm) h6367 (h6373.2.1.trans h6365.2.1.symm) h6369 h6375 h6380.1)
        refine mr_iadd (pc := 74) (x := z4574) (y := z6381) dX12_wayRight_74 ?_
        refine mr_istore (pc := 75) (lv' := [(4, iv (z4574 + z6381)), (0, .ref 106), (1, iv p1), (2, iv p2), (3, iv z4575)]) dX12_wayRight_75 (by decide) rfl ?_
        refine mr_iload_n (pc := 77) (z := z4575) dX12_wayRight_77 rfl rfl ?_
        refine mr_iconst (pc := 78) (z := 2) dX12_wayRight_78 ?_
        refine mr_iconst (pc := 79) (z := 4) dX12_wayRight_79 ?_
        refine sv_aload_n (pc := 80) dX12_wayRight_80 rfl rfl ?_
        refine mr_iload_n (pc := 81) (z := z4575) dX12_wayRight_81 rfl rfl ?_
        refine mr_iconst (pc := 82) (z := 1) dX12_wayRight_82 ?_
        refine mr_iadd (pc := 83) (x := z4575) (y := 1) dX12_wayRight_83 ?_
        refine mr_cVP (pc := 84) (c_X12_byteAt_f hw hT (rW (c := 0) (d := 2147483647) (rAdd (e := 1) (f := 1001) h4577 (rR (x := 1)) rfl) rfl) q_f_size (vc_X12_wayRight_62 hq0 h4582 h4583 h4587 h6345 h6376 (h6373.2.1.trans h6365.2.1.symm) ht_f_size hp1 hp2 h4578 h4577 h6369 h6375)) (gOk _ _ _ _ _) dX12_wayRight_84 (tX12_byteAt _ _ _ _ _) ⟨wV_X12_byteAt, wL_X12_byteAt⟩ wM_X12_227 (gCX12 _ _ _ _ _) rfl (A_106 hw) rfl ⟨le_t rfl, le_t rfl⟩ ⟨le_t rfl, le_t rfl⟩ rfl (le_t rfl) fun z6387 h6386 => ?_
        have h6388 : 1 ≤ z6387 ∧ z6387 ≤ 255 := (vc_X12_wayRight_64 (h6386.2.1.trans h6365.2.1.symm) h6367 (h6373.2.1.trans h6365.2.1.symm) (h6380.2.1.trans h6365.2.1.symm) h6369 h6375 h6382 h6386.1)
        refine mr_imul (pc := 87) (x := 4) (y := z6387) dX12_wayRight_87 ?_
        refine mr_iadd (pc := 88) (x := 2) (y := (4 * z6387)) dX12_wayRight_88 ?_
        refine mr_iadd (pc := 89) (x := z4575) (y := (2 + (4 * z6387))) dX12_wayRight_89 ?_
        refine mr_istore_n (pc := 90) (lv' := [(3, iv (z4575 + (2 + (4 * z6387)))), (4, iv (z4574 + z6381)), (0, .ref 106), (1, iv p1), (2, iv p2)]) dX12_wayRight_90 rfl (by decide) rfl ?_
        refine sv_goto (pc := 91) (tgt := 5) dX12_wayRight_91 (by decide) ?_
        refine mr_lvS (lv' := [(0, .ref 106), (1, iv p1), (2, iv p2), (3, iv (z4575 + (2 + (4 * z6387)))), (4, iv (z4574 + z6381))]) (List.forall_mem_cons.mpr ⟨rfl, List.forall_mem_cons.mpr ⟨rfl, List.forall_mem_cons.mpr ⟨rfl, List.forall_mem_cons.mpr ⟨rfl, List.forall_mem_cons.mpr ⟨rfl, fun _ h => absurd h List.not_mem_nil⟩⟩⟩⟩⟩) ?_
        exact ih4586 (z4575 + (2 + (4 * z6387))) (z4574 + z6381) trivial (vc_X12_wayRight_65 h4582 h4583 h4587 h6345 h6376 (h6386.2.1.trans h6365.2.1.symm) hq0 h6367 (h6373.2.1.trans h6365.2.1.symm) (h6380.2.1.trans h6365.2.1.symm) ht_f_size hp1 hp2 h4578 h4577 h6369 h6375 h6382 h6388) (vc_X12_wayRight_66 h4582 (h6380.2.1.trans h6365.2.1.symm) hq0 h4583 h4587 h6345 h6367 (h6373.2.1.trans h6365.2.1.symm) h6376 (h6386.2.1.trans h6365.2.1.symm) ht_f_size hp1 hp2 h4578 h4577 h6369 h6375 h6382 h6388) (vc_X12_wayRight_67 hq0 h4582 h4583 h4587 h6345 h6376 (h6380.2.1.trans h6365.2.1.symm) (h6386.2.1.trans h6365.2.1.symm) h6367 (h6373.2.1.trans h6365.2.1.symm) ht_f_size hp1 hp2 h4578 h4577 h6369 h6375 h6382 h6388) (vc_X12_wayRight_68 hq0 h4582 h4583 h4587 h6345 h6376 (h6386.2.1.trans h6365.2.1.symm) h6367 (h6373.2.1.trans h6365.2.1.symm) (h6380.2.1.trans h6365.2.1.symm) ht_f_size hp1 hp2 h4578 h4577 h6369 h6375 h6382 h6388) (Chn.step R4584 (vc_X12_wayRight_70 hq0 h4582 h4583 h4587 h6345 h6376 (h6373.2.1.trans h6365.2.1.symm) ht_f_size hp1 hp2 h4578 h4577 h6369 h6375) (vc_X12_wayRight_71 hq0 h4582 h4583 h4587 h6345 h6376 (h6373.2.1.trans h6365.2.1.symm) ht_f_size hp1 hp2 h4578 h4577 h6369 h6375) h6365.2.1.symm (vc_X12_wayRight_72 hq0 h4582 h4583 h4587 h6345 h6367 (h6373.2.1.trans h6365.2.1.symm) h6376 (h6380.2.1.trans h6365.2.1.symm) (h6386.2.1.trans h6365.2.1.symm) ht_f_size hp1 hp2 h4578 h4577 h6369 h6375 h6382 h6388) (vc_X12_wayRight_73 hq0 h4582 h4583 h4587 h6345 h6367 (h6373.2.1.trans h6365.2.1.symm) h6376 (h6380.2.1.trans h6365.2.1.symm) (h6386.2.1.trans h6365.2.1.symm) ht_f_size hp1 hp2 h4578 h4577 h6369 h6375 h6382 h6388) (vc_X12_wayRight_74 hq0 h4582 h4583 h4587 h6345 h6367 (h6373.2.1.trans h6365.2.1.symm) h6376 (h6380.2.1.trans h6365.2.1.symm) (h6386.2.1.trans h6365.2.1.symm) ht_f_size hp1 hp2 h4578 h4577 h6369 h6375 h6382 h6388) (vc_X12_wayRight_75 hq0 h4582 h4583 h4587 h6345 h6367 (h6373.2.1.trans h6365.2.1.symm) h6376 (h6380.2.1.trans h6365.2.1.symm) (h6386.2.1.trans h6365.2.1.symm) ht_f_size hp1 hp2 h4578 h4577 h6369 h6375 h6382 h6388)) (vc_X12_wayRight_69 (nS h4585) h4582 h4583 h4587 h6345 h6376 (h6386.2.1.trans h6365.2.1.symm) hq0 h6367 (h6373.2.1.trans h6365.2.1.symm) (h6380.2.1.trans h6365.2.1.symm) ht_f_size hp1 hp2 h4578 h4577 h6369 h6375 h6382 h6388)
      refine mr_iconst (pc := 63) (z := 0) dX12_wayRight_63 ?_
      exact mr_zret dX12_wayRight_64 rfl (rW (c := 0) (d := 1) (rR (x := 0)) rfl) (le_t rfl) (le_t rfl) hT mF.refl ⟨(rW (c := 0) (d := 1) (rR (x := 0)) rfl), mG.refl, trivial⟩
  refine mr_lvS (lv' := [(0, .ref 106), (1, iv p1), (2, iv p2), (3, iv p1), (4, iv 0)]) (List.forall_mem_cons.mpr ⟨rfl, List.forall_mem_cons.mpr ⟨rfl, List.forall_mem_cons.mpr ⟨rfl, List.forall_mem_cons.mpr ⟨rfl, List.forall_mem_cons.mpr ⟨rfl, fun _ h => absurd h List.not_mem_nil⟩⟩⟩⟩⟩) ?_
  exact L4576 1002 p1 0 trivial hp1 (rW (c := 0) (d := 250) (rR (x := 0)) rfl) (vc_X12_wayRight_76 hq0 ht_f_size hp1 hp2) (vc_X12_wayRight_77 hq0 ht_f_size hp1 hp2) (Chn.id rfl) (vc_X12_wayRight_78 hq0 ht_f_size hp1 hp2)
theorem vc_X12_originRight_f_1 {f_size p1 p2 : Int} (h0 : p2 = 1) (h1 : p1 + p2 ≤ f_size) (h2 : 0 ≤ f_size ∧ f_size ≤ 1000) (h3 : 0 ≤ p1 ∧ p1 ≤ 1000) (h4 : 0 ≤ p2 ∧ p2 ≤ 1000) : 1 ≤ p2 ∧ p2 ≤ 1 := by omega
theorem vc_X12_originRight_f_2 {f_size p1 z64 : Int} (h0 : z64 ≤ 2) (h1 : 0 ≤ z64 → p1 < f_size) (h2 : p1 < f_size → 0 ≤ z64) (h3 : 0 ≤ f_size ∧ f_size ≤ 1000) (h4 : 0 ≤ p1 ∧ p1 ≤ 1000) (h5 : (-1) ≤ z64 ∧ z64 ≤ 255) : (-1) ≤ z64 ∧ z64 ≤ 2 := by omega
theorem vc_X12_originRight_f_3 {f_size p1 p2 z64 z71 : Int} (h0 : 0 ≤ z71 → p1 < f_size) (h1 : p1 < f_size → 0 ≤ z71) (h2 : p1 + p2 ≤ f_size) (h3 : 0 ≤ z64 → p1 < f_size) (h4 : p1 < f_size → 0 ≤ z64) (h5 : 0 ≤ f_size ∧ f_size ≤ 1000) (h6 : 0 ≤ p1 ∧ p1 ≤ 1000) (h7 : 1 ≤ p2 ∧ p2 ≤ 1) (h8 : (-1) ≤ z64 ∧ z64 ≤ 2) (h9 : (-1) ≤ z71 ∧ z71 ≤ 255) : (-2147483648 ≤ z71 ∧ z71 ≤ 2147483647) ∧ ((962 : Int) % 40 = 0 → -1 ≤ z71 ∧ z71 ≤ 9) ∧ ((962 : Int) % 40 = 4 → 0 ≤ z71 ∧ z71 ≤ 20) ∧ ((962 : Int) % 40 = 5 → 0 ≤ z71 ∧ z71 ≤ 8) := by omega
theorem vc_X12_originRight_f_4  : (0 : Int) ≤ (962 : Int) ∧ (962 : Int) ≤ (962 : Int) ∧ (962 : Int) < (963 : Int) := by omega
theorem vc_X12_originRight_f_5 {f_size p1 z64 : Int} (h0 : 2 < z64) (h1 : 0 ≤ z64 → p1 < f_size) (h2 : p1 < f_size → 0 ≤ z64) (h3 : 0 ≤ f_size ∧ f_size ≤ 1000) (h4 : 0 ≤ p1 ∧ p1 ≤ 1000) (h5 : (-1) ≤ z64 ∧ z64 ≤ 255) : 3 ≤ z64 ∧ z64 ≤ 255 := by omega
set_option maxRecDepth 4000 in
set_option maxHeartbeats 4000000 in
theorem c_X12_originRight_f {l : Launch} {D : va_G} {c : Nat → ClassId} {H0 : Heap} {sa : Nat × Nat × (Nat → Int32)} {w : mW} {μ : mM} (hw : mWF w) (hT : mT w μ) {p1 : Int} (hp1 : 0 ≤ p1 ∧ p1 ≤ 1000) {p2 : Int} (hp2 : 0 ≤ p2 ∧ p2 ≤ 1000) {f_size : Int} (q_f_size : μ 106 1 = f_size) (hq0 : p1 + p2 ≤ f_size) : sC (gG l D c H0 sa) mX12_originRight 2 0 0 [.ref 106, iv p1, iv p2] (mk w μ) (qI w [106098, 126999] μ (fun z μ1 => (0 ≤ z ∧ z ≤ 1) ∧ mG [(962, 963)] μ μ1 ∧ True)) := by
  refine sC.of rfl (by decide) (le_t rfl) ?_
  have ht_f_size : (0 ≤ f_size ∧ f_size ≤ 1000) := by rw [← q_f_size]; exact hT 106 106 (A_106 hw) 1
  refine mr_lvE (lv' := [(0, .ref 106), (1, iv p1), (2, iv p2)]) rfl ?_
  refine mr_iload_n (pc := 0) (z := p2) dX12_originRight_0 rfl rfl ?_
  refine mr_iconst (pc := 1) (z := 1) dX12_originRight_1 ?_
  refine mr_icmp_ne (pc := 2) (tgt := 14) dX12_originRight_2 (by decide) (r32 hp2 rfl) (r32 (rR (x := 1)) rfl) (fun h58 => ?_) (fun h58 => ?_)
  · refine mr_iconst (pc := 14) (z := 0) dX12_originRight_14 ?_
    exact mr_zret dX12_originRight_15 rfl (rW (c := 0) (d := 1) (rR (x := 0)) rfl) (le_t rfl) (le_t rfl) hT mF.refl ⟨(rW (c := 0) (d := 1) (rR (x := 0)) rfl), mG.refl, trivial⟩
  have h59 : 1 ≤ p2 ∧ p2 ≤ 1 := (vc_X12_originRight_f_1 h58 hq0 ht_f_size hp1 hp2)
  refine sv_aload_n (pc := 5) dX12_originRight_5 rfl rfl ?_
  refine mr_iload_n (pc := 6) (z := p1) dX12_originRight_6 rfl rfl ?_
  refine mr_cVP (pc := 7) (c_X12_byteAt hw hT (rW (c := 0) (d := 2147483647) hp1 rfl) q_f_size) (gOk _ _ _ _ _) dX12_originRight_7 (tX12_byteAt _ _ _ _ _) ⟨wV_X12_byteAt, wL_X12_byteAt⟩ wM_X12_227 (gCX12 _ _ _ _ _) rfl (A_106 hw) rfl ⟨le_t rfl, le_t rfl⟩ ⟨le_t rfl, le_t rfl⟩ rfl (le_t rfl) fun z64 h63 => ?_
  refine mr_iconst (pc := 10) (z := 2) dX12_originRight_10 ?_
  refine mr_icmp_le (pc := 11) (tgt := 16) dX12_originRight_11 (by decide) (r32 h63.1 rfl) (r32 (rR (x := 2)) rfl) (fun h65 => ?_) (fun h65 => ?_)
  · have h66 : (-1) ≤ z64 ∧ z64 ≤ 2 := (vc_X12_originRight_f_2 h65 h63.2.1 h63.2.2.1 ht_f_size hp1 h63.1)
    refine sv_aload_n (pc := 16) dX12_originRight_16 rfl rfl ?_
    refine gf_X12_32 (pc := 17) dX12_originRight_17 wF_X12_148 (A_106 hw) hT ?_
    refine mr_sipush (pc := 20) (z := 962) dX12_originRight_20 (by decide) ?_
    refine sv_aload_n (pc := 23) dX12_originRight_23 rfl rfl ?_
    refine mr_iload_n (pc := 24) (z := p1) dX12_originRight_24 rfl rfl ?_
    refine mr_cVP (pc := 25) (c_X12_byteAt hw hT (rW (c := 0) (d := 2147483647) hp1 rfl) q_f_size) (gOk _ _ _ _ _) dX12_originRight_25 (tX12_byteAt _ _ _ _ _) ⟨wV_X12_byteAt, wL_X12_byteAt⟩ wM_X12_227 (gCX12 _ _ _ _ _) rfl (A_106 hw) rfl ⟨le_t rfl, le_t rfl⟩ ⟨le_t rfl, le_t rfl⟩ rfl (le_t rfl) fun z71 h70 => ?_
    refine ss_126 (pc := 28) dX12_originRight_28 (A_126 hw) hT (rIx (n := 84000) (rR (x := 962)) rfl) (vc_X12_originRight_f_3 h70.2.1 h70.2.2.1 hq0 h63.2.1 h63.2.2.1 ht_f_size hp1 h59 h66 h70.1) fun μ72 u73 T74 => ?_
    refine sv_aload_n (pc := 29) dX12_originRight_29 rfl rfl ?_
    refine mr_iconst (pc := 30) (z := 1) dX12_originRight_30 ?_
    refine pf_X12_98 (pc := 31) dX12_originRight_31 wF_X12_631 (A_106 hw) T74 (rW (c := 0) (d := 1) (rR (x := 1)) rfl) fun μ75 u76 T77 => ?_
    refine mr_iconst (pc := 34) (z := 1) dX12_originRight_34 ?_
    exact mr_zret dX12_originRight_35 rfl (rW (c := 0) (d := 1) (rR (x := 1)) rfl) (le_t rfl) (le_t rfl) T77 (mF.up (mF.up mF.refl (A_126 hw) u73 rfl) (A_106 hw) u76 rfl) ⟨(rW (c := 0) (d := 1) (rR (x := 1)) rfl), (mG.upO (mG.up mG.refl u73 List.mem_cons_self vc_X12_originRight_f_4) u76 rfl), trivial⟩
  have h78 : 3 ≤ z64 ∧ z64 ≤ 255 := (vc_X12_originRight_f_5 h65 h63.2.1 h63.2.2.1 ht_f_size hp1 h63.1)
  refine mr_iconst (pc := 14) (z := 0) dX12_originRight_14 ?_
  exact mr_zret dX12_originRight_15 rfl (rW (c := 0) (d := 1) (rR (x := 0)) rfl) (le_t rfl) (le_t rfl) hT mF.refl ⟨(rW (c := 0) (d := 1) (rR (x := 0)) rfl), mG.refl, trivial⟩
theorem vc_X12_costRight_f_1 {f_size p1 p2 : Int} (h0 : p2 = 4) (h1 : p1 + p2 ≤ f_size) (h2 : 0 ≤ f_size ∧ f_size ≤ 1000) (h3 : 0 ≤ p1 ∧ p1 ≤ 1000) (h4 : 0 ≤ p2 ∧ p2 ≤ 1000) : 4 ≤ p2 ∧ p2 ≤ 4 := by omega
theorem vc_X12_costRight_f_2 {f_size p1 p2 : Int} (h0 : p1 + p2 ≤ f_size) (h1 : p2 = 4) (h2 : 0 ≤ f_size ∧ f_size ≤ 1000) (h3 : 0 ≤ p1 ∧ p1 ≤ 1000) (h4 : 4 ≤ p2 ∧ p2 ≤ 4) : p1 + (4 : Int) ≤ f_size := by omega
theorem vc_X12_costRight_f_3 {z64 : Int} (h0 : z64 < 0) (h1 : (4 : Int) ≤ 2 → 0 ≤ z64 ∧ z64 ≤ 65535) (h2 : (-2147483648) ≤ z64 ∧ z64 ≤ 2147483647) : (-2147483648) ≤ z64 ∧ z64 ≤ (-1) := by omega
theorem vc_X12_costRight_f_4  : (-(2147483648 : Int) ≤ ((1000000 : Int) : Int) ∧ ((1000000 : Int) : Int) ≤ (2147483647 : Int)) ∧ (((963 : Int) : Int) % (40 : Int) = (0 : Int) → -(1 : Int) ≤ ((1000000 : Int) : Int) ∧ ((1000000 : Int) : Int) ≤ (9 : Int)) ∧ (((963 : Int) : Int) % (40 : Int) = (4 : Int) → (0 : Int) ≤ ((1000000 : Int) : Int) ∧ ((1000000 : Int) : Int) ≤ (20 : Int)) ∧ (((963 : Int) : Int) % (40 : Int) = (5 : Int) → (0 : Int) ≤ ((1000000 : Int) : Int) ∧ ((1000000 : Int) : Int) ≤ (8 : Int)) := by omega
theorem vc_X12_costRight_f_5  : (0 : Int) ≤ (963 : Int) ∧ (963 : Int) ≤ (963 : Int) ∧ (963 : Int) < (964 : Int) := by omega
theorem vc_X12_costRight_f_6 {z64 : Int} (h0 : 0 ≤ z64) (h1 : (4 : Int) ≤ 2 → 0 ≤ z64 ∧ z64 ≤ 65535) (h2 : (-2147483648) ≤ z64 ∧ z64 ≤ 2147483647) : 0 ≤ z64 ∧ z64 ≤ 2147483647 := by omega
theorem vc_X12_costRight_f_7 {z64 : Int} (h0 : z64 ≤ 1000000) (h1 : (4 : Int) ≤ 2 → 0 ≤ z64 ∧ z64 ≤ 65535) (h2 : 0 ≤ z64) (h3 : 0 ≤ z64 ∧ z64 ≤ 2147483647) : 0 ≤ z64 ∧ z64 ≤ 1000000 := by omega
theorem vc_X12_costRight_f_8 {z64 : Int} (h0 : (4 : Int) ≤ 2 → 0 ≤ z64 ∧ z64 ≤ 65535) (h1 : 0 ≤ z64) (h2 : z64 ≤ 1000000) (h3 : 0 ≤ z64 ∧ z64 ≤ 1000000) : (-2147483648 ≤ z64 ∧ z64 ≤ 2147483647) ∧ ((963 : Int) % 40 = 0 → -1 ≤ z64 ∧ z64 ≤ 9) ∧ ((963 : Int) % 40 = 4 → 0 ≤ z64 ∧ z64 ≤ 20) ∧ ((963 : Int) % 40 = 5 → 0 ≤ z64 ∧ z64 ≤ 8) := by omega
theorem vc_X12_costRight_f_9 {z64 : Int} (h0 : 1000000 < z64) (h1 : (4 : Int) ≤ 2 → 0 ≤ z64 ∧ z64 ≤ 65535) (h2 : 0 ≤ z64) (h3 : 0 ≤ z64 ∧ z64 ≤ 2147483647) : 1000001 ≤ z64 ∧ z64 ≤ 2147483647 := by omega
set_option maxRecDepth 4000 in
set_option maxHeartbeats 4000000 in
theorem c_X12_costRight_f {l : Launch} {D : va_G} {c : Nat → ClassId} {H0 : Heap} {sa : Nat × Nat × (Nat → Int32)} {w : mW} {μ : mM} (hw : mWF w) (hT : mT w μ) {p1 : Int} (hp1 : 0 ≤ p1 ∧ p1 ≤ 1000) {p2 : Int} (hp2 : 0 ≤ p2 ∧ p2 ≤ 1000) {f_size : Int} (q_f_size : μ 106 1 = f_size) (hq0 : p1 + p2 ≤ f_size) : sC (gG l D c H0 sa) mX12_costRight 3 0 0 [.ref 106, iv p1, iv p2] (mk w μ) (qI w [126999] μ (fun z μ1 => (0 ≤ z ∧ z ≤ 1) ∧ mG [(963, 964)] μ μ1 ∧ True)) := by
  refine sC.of rfl (by decide) (le_t rfl) ?_
  have ht_f_size : (0 ≤ f_size ∧ f_size ≤ 1000) := by rw [← q_f_size]; exact hT 106 106 (A_106 hw) 1
  refine mr_lvE (lv' := [(0, .ref 106), (1, iv p1), (2, iv p2)]) rfl ?_
  refine mr_iload_n (pc := 0) (z := p2) dX12_costRight_0 rfl rfl ?_
  refine mr_iconst (pc := 1) (z := 4) dX12_costRight_1 ?_
  refine mr_icmp_eq (pc := 2) (tgt := 7) dX12_costRight_2 (by decide) (r32 hp2 rfl) (r32 (rR (x := 4)) rfl) (fun h58 => ?_) (fun h58 => ?_)
  · have h59 : 4 ≤ p2 ∧ p2 ≤ 4 := (vc_X12_costRight_f_1 h58 hq0 ht_f_size hp1 hp2)
    refine sv_aload_n (pc := 7) dX12_costRight_7 rfl rfl ?_
    refine mr_iload_n (pc := 8) (z := p1) dX12_costRight_8 rfl rfl ?_
    refine mr_iconst (pc := 9) (z := 4) dX12_costRight_9 ?_
    refine mr_cVP (pc := 10) (c_X12_number hw hT hp1 (rW (c := 0) (d := 4) (rR (x := 4)) rfl) q_f_size (vc_X12_costRight_f_2 hq0 h58 ht_f_size hp1 h59)) (gOk _ _ _ _ _) dX12_costRight_10 (tX12_number _ _ _ _ _) ⟨wV_X12_number, wL_X12_number⟩ wM_X12_623 (gCX12 _ _ _ _ _) rfl (A_106 hw) rfl ⟨le_t rfl, le_t rfl⟩ ⟨le_t rfl, le_t rfl⟩ rfl (le_t rfl) fun z64 h63 => ?_
    refine mr_istore_n (pc := 13) (lv' := [(3, iv z64), (0, .ref 106), (1, iv p1), (2, iv p2)]) dX12_costRight_13 rfl (by decide) rfl ?_
    refine sv_aload_n (pc := 14) dX12_costRight_14 rfl rfl ?_
    refine gf_X12_32 (pc := 15) dX12_costRight_15 wF_X12_148 (A_106 hw) hT ?_
    refine mr_sipush (pc := 18) (z := 963) dX12_costRight_18 (by decide) ?_
    refine mr_iload_n (pc := 21) (z := z64) dX12_costRight_21 rfl rfl ?_
    refine mr_if_lt (pc := 22) (tgt := 32) dX12_costRight_22 (by decide) h63.1 (fun h69 => ?_) (fun h69 => ?_)
    · have h70 : (-2147483648) ≤ z64 ∧ z64 ≤ (-1) := (vc_X12_costRight_f_3 h69 h63.2.1 h63.1)
      refine mr_ldcw (pc := 32) (z := 1000000) dX12_costRight_32 wG_X12_291 (by decide) ?_
      refine sv_goto (pc := 35) (tgt := 39) dX12_costRight_35 (by decide) ?_
      refine ss_126 (pc := 39) dX12_costRight_39 (A_126 hw) hT (rIx (n := 84000) (rR (x := 963)) rfl) vc_X12_costRight_f_4 fun μ71 u72 T73 => ?_
      refine mr_iconst (pc := 40) (z := 1) dX12_costRight_40 ?_
      exact mr_zret dX12_costRight_41 rfl (rW (c := 0) (d := 1) (rR (x := 1)) rfl) (le_t rfl) (le_t rfl) T73 (mF.up mF.refl (A_126 hw) u72 rfl) ⟨(rW (c := 0) (d := 1) (rR (x := 1)) rfl), (mG.up mG.refl u72 List.mem_cons_self vc_X12_costRight_f_5), trivial⟩
    have h74 : 0 ≤ z64 ∧ z64 ≤ 2147483647 := (vc_X12_costRight_f_6 h69 h63.2.1 h63.1)
    refine mr_iload_n (pc := 25) (z := z64) dX12_costRight_25 rfl rfl ?_
    refine mr_ldcw (pc := 26) (z := 1000000) dX12_costRight_26 wG_X12_291 (by decide) ?_
    refine mr_icmp_le (pc := 29) (tgt := 38) dX12_costRight_29 (by decide) (r32 h74 rfl) (r32 (rR (x := 1000000)) rfl) (fun h77 => ?_) (fun h77 => ?_)
    · have h78 : 0 ≤ z64 ∧ z64 ≤ 1000000 := (vc_X12_costRight_f_7 h77 h63.2.1 h69 h74)
      refine mr_iload_n (pc := 38) (z := z64) dX12_costRight_38 rfl rfl ?_
      refine ss_126 (pc := 39) dX12_costRight_39 (A_126 hw) hT (rIx (n := 84000) (rR (x := 963)) rfl) (vc_X12_costRight_f_8 h63.2.1 h69 h77 h78) fun μ79 u80 T81 => ?_
      refine mr_iconst (pc := 40) (z := 1) dX12_costRight_40 ?_
      exact mr_zret dX12_costRight_41 rfl (rW (c := 0) (d := 1) (rR (x := 1)) rfl) (le_t rfl) (le_t rfl) T81 (mF.up mF.refl (A_126 hw) u80 rfl) ⟨(rW (c := 0) (d := 1) (rR (x := 1)) rfl), (mG.up mG.refl u80 List.mem_cons_self vc_X12_costRight_f_5), trivial⟩
    have h82 : 1000001 ≤ z64 ∧ z64 ≤ 2147483647 := (vc_X12_costRight_f_9 h77 h63.2.1 h69 h74)
    refine mr_ldcw (pc := 32) (z := 1000000) dX12_costRight_32 wG_X12_291 (by decide) ?_
    refine sv_goto (pc := 35) (tgt := 39) dX12_costRight_35 (by decide) ?_
    refine ss_126 (pc := 39) dX12_costRight_39 (A_126 hw) hT (rIx (n := 84000) (rR (x := 963)) rfl) vc_X12_costRight_f_4 fun μ83 u84 T85 => ?_
    refine mr_iconst (pc := 40) (z := 1) dX12_costRight_40 ?_
    exact mr_zret dX12_costRight_41 rfl (rW (c := 0) (d := 1) (rR (x := 1)) rfl) (le_t rfl) (le_t rfl) T85 (mF.up mF.refl (A_126 hw) u84 rfl) ⟨(rW (c := 0) (d := 1) (rR (x := 1)) rfl), (mG.up mG.refl u84 List.mem_cons_self vc_X12_costRight_f_5), trivial⟩
  refine mr_iconst (pc := 5) (z := 0) dX12_costRight_5 ?_
  exact mr_zret dX12_costRight_6 rfl (rW (c := 0) (d := 1) (rR (x := 0)) rfl) (le_t rfl) (le_t rfl) hT mF.refl ⟨(rW (c := 0) (d := 1) (rR (x := 0)) rfl), mG.refl, trivial⟩
theorem vc_X12_marksRight_f_1  : (0 : Int) < (4 : Int) ∧ (4 : Int) ≤ (2147483647 : Int) := by omega
theorem vc_X12_marksRight_f_2 {p2 z432 : Int} (h0 : z432 = 0) (h1 : p2 % 4 = z432) (h2 : 0 ≤ p2 ∧ p2 ≤ 1000) (h3 : 0 ≤ z432 ∧ z432 ≤ 3) : 0 ≤ z432 ∧ z432 ≤ 0 := by omega
theorem vc_X12_marksRight_f_3 {z725 : Int} (h0 : (1004 - z725) < ((0 : Nat) : Int)) (h1 : z725 % 4 = 0) (h2 : 0 ≤ z725 ∧ z725 ≤ 1003) : False := by omega
theorem vc_X12_marksRight_f_4  : (961 : Int) ≤ (961 : Int) ∧ (1000 : Int) ≤ (1000 : Int) := by omega
theorem vc_X12_marksRight_f_5 {f_size p1 p2 z432 z725 : Int} (h0 : z725 < p2) (h1 : p1 + p2 ≤ f_size) (h2 : p2 % 4 = z432) (h3 : z725 % 4 = 0) (h4 : 0 ≤ f_size ∧ f_size ≤ 1000) (h5 : 0 ≤ p1 ∧ p1 ≤ 1000) (h6 : 0 ≤ p2 ∧ p2 ≤ 1000) (h7 : 0 ≤ z432 ∧ z432 ≤ 0) (h8 : 0 ≤ z725 ∧ z725 ≤ 1003) : 0 ≤ z725 ∧ z725 ≤ 999 := by omega
theorem vc_X12_marksRight_f_6 {f_size p1 p2 z432 z725 : Int} (h0 : z725 < p2) (h1 : p1 + p2 ≤ f_size) (h2 : p2 % 4 = z432) (h3 : z725 % 4 = 0) (h4 : 0 ≤ f_size ∧ f_size ≤ 1000) (h5 : 0 ≤ p1 ∧ p1 ≤ 1000) (h6 : 0 ≤ p2 ∧ p2 ≤ 1000) (h7 : 0 ≤ z432 ∧ z432 ≤ 0) (h8 : 0 ≤ z725 ∧ z725 ≤ 999) : 1 ≤ p2 ∧ p2 ≤ 1000 := by omega
theorem vc_X12_marksRight_f_7 {f_size p1 p2 z432 z725 : Int} (h0 : p1 + p2 ≤ f_size) (h1 : z725 % 4 = 0) (h2 : z725 < p2) (h3 : p2 % 4 = z432) (h4 : 0 ≤ f_size ∧ f_size ≤ 1000) (h5 : 0 ≤ p1 ∧ p1 ≤ 1000) (h6 : 1 ≤ p2 ∧ p2 ≤ 1000) (h7 : 0 ≤ z432 ∧ z432 ≤ 0) (h8 : 0 ≤ z725 ∧ z725 ≤ 999) : 0 ≤ ((p1 + z725) + 2) ∧ ((p1 + z725) + 2) ≤ 1000 := by omega
theorem vc_X12_marksRight_f_8 {f_size p1 p2 z432 z725 : Int} (h0 : p1 + p2 ≤ f_size) (h1 : z725 % 4 = 0) (h2 : z725 < p2) (h3 : p2 % 4 = z432) (h4 : 0 ≤ f_size ∧ f_size ≤ 1000) (h5 : 0 ≤ p1 ∧ p1 ≤ 1000) (h6 : 1 ≤ p2 ∧ p2 ≤ 1000) (h7 : 0 ≤ z432 ∧ z432 ≤ 0) (h8 : 0 ≤ z725 ∧ z725 ≤ 999) : ((p1 + z725) + 2) + (2 : Int) ≤ f_size := by omega
theorem vc_X12_marksRight_f_9 {z772 : Int} (h0 : 8 ≤ z772) (h1 : 0 ≤ z772 ∧ z772 ≤ 8) : 8 ≤ z772 ∧ z772 ≤ 8 := by omega
theorem vc_X12_marksRight_f_10 {f_size p1 p2 z432 z725 : Int} (h0 : z725 % 4 = 0) (h1 : z725 < p2) (h2 : p1 + p2 ≤ f_size) (h3 : p2 % 4 = z432) (h4 : 0 ≤ f_size ∧ f_size ≤ 1000) (h5 : 0 ≤ p1 ∧ p1 ≤ 1000) (h6 : 1 ≤ p2 ∧ p2 ≤ 1000) (h7 : 0 ≤ z432 ∧ z432 ≤ 0) (h8 : 0 ≤ z725 ∧ z725 ≤ 999) : (z725 + 4) % 4 = 0 := by omega
theorem vc_X12_marksRight_f_11 {N f_size p1 p2 z432 z725 : Int} (h0 : (1004 - z725) < N + 1) (h1 : z725 % 4 = 0) (h2 : z725 < p2) (h3 : p1 + p2 ≤ f_size) (h4 : p2 % 4 = z432) (h5 : 0 ≤ f_size ∧ f_size ≤ 1000) (h6 : 0 ≤ p1 ∧ p1 ≤ 1000) (h7 : 1 ≤ p2 ∧ p2 ≤ 1000) (h8 : 0 ≤ z432 ∧ z432 ≤ 0) (h9 : 0 ≤ z725 ∧ z725 ≤ 999) : (1004 - (z725 + 4)) < N := by omega
theorem vc_X12_marksRight_f_12 {z772 : Int} (h0 : z772 < 8) (h1 : 0 ≤ z772 ∧ z772 ≤ 8) : 0 ≤ z772 ∧ z772 ≤ 7 := by omega
theorem vc_X12_marksRight_f_13 {z801 : Int} (h0 : ¬ z801 = 0) (h1 : 0 ≤ z801 ∧ z801 ≤ 1) : 1 ≤ z801 ∧ z801 ≤ 1 := by omega
theorem vc_X12_marksRight_f_14 {z801 : Int} (h0 : z801 = 0) (h1 : 0 ≤ z801 ∧ z801 ≤ 1) : 0 ≤ z801 ∧ z801 ≤ 0 := by omega
theorem vc_X12_marksRight_f_15  : (961 : Int) ≤ (((40 : Int) * (24 : Int)) + (1 : Int)) ∧ (((40 : Int) * (24 : Int)) + (40 : Int)) ≤ (1000 : Int) := by omega
theorem vc_X12_marksRight_f_16  : ((0 : Int) : Int) % (4 : Int) = (0 : Int) := by omega
theorem vc_X12_marksRight_f_17  : (1004 - 0) < ((1005 : Nat) : Int) := by omega
theorem vc_X12_marksRight_f_18 {p2 z432 : Int} (h0 : ¬ z432 = 0) (h1 : p2 % 4 = z432) (h2 : 0 ≤ p2 ∧ p2 ≤ 1000) (h3 : 0 ≤ z432 ∧ z432 ≤ 3) : 1 ≤ z432 ∧ z432 ≤ 3 := by omega
set_option maxRecDepth 4000 in
set_option maxHeartbeats 4000000 in
theorem c_X12_marksRight_f {l : Launch} {D : va_G} {c : Nat → ClassId} {H0 : Heap} {sa : Nat × Nat × (Nat → Int32)} {w : mW} {μ : mM} (hw : mWF w) (hT : mT w μ) {p1 : Int} (hp1 : 0 ≤ p1 ∧ p1 ≤ 1000) {p2 : Int} (hp2 : 0 ≤ p2 ∧ p2 ≤ 1000) {f_size : Int} (q_f_size : μ 106 1 = f_size) (hq0 : p1 + p2 ≤ f_size) : sC (gG l D c H0 sa) mX12_marksRight 3 0 0 [.ref 106, iv p1, iv p2] (mk w μ) (qI w [106101, 126999, 173999] μ (fun z μ1 => (0 ≤ z ∧ z ≤ 1) ∧ mG [(961, 1000)] μ μ1 ∧ True)) := by
  refine sC.of rfl (by decide) (le_t rfl) ?_
  have ht_f_size : (0 ≤ f_size ∧ f_size ≤ 1000) := by rw [← q_f_size]; exact hT 106 106 (A_106 hw) 1
  refine mr_lvE (lv' := [(0, .ref 106), (1, iv p1), (2, iv p2)]) rfl ?_
  refine mr_iload_n (pc := 0) (z := p2) dX12_marksRight_0 rfl rfl ?_
  refine mr_iconst (pc := 1) (z := 4) dX12_marksRight_1 ?_
  refine mr_irem (pc := 2) (x := p2) (y := 4) dX12_marksRight_2 (rW (c := 0) (d := 2147483647) hp2 rfl) vc_X12_marksRight_f_1 ?_
  refine mr_gen (P := fun z => 0 ≤ z ∧ z ≤ 3) (rMod hp2 rfl) fun z432 q433 h434 => ?_
  refine mr_if_eq (pc := 3) (tgt := 8) dX12_marksRight_3 (by decide) (r32 h434 rfl) (fun h435 => ?_) (fun h435 => ?_)
  · have h436 : 0 ≤ z432 ∧ z432 ≤ 0 := (vc_X12_marksRight_f_2 h435 q433 hp2 h434)
    refine mr_iconst (pc := 8) (z := 0) dX12_marksRight_8 ?_
    refine mr_istore_n (pc := 9) (lv' := [(3, iv 0), (0, .ref 106), (1, iv p1), (2, iv p2)]) dX12_marksRight_9 rfl (by decide) rfl ?_
    have L727 : ∀ (nL727 : Nat) (z725 : Int) (μ726 : mM), mT w μ726 → mF [106101, 126999, 173999] w μ μ726 → mG [(961, 1000)] μ μ726 → (0 ≤ z725 ∧ z725 ≤ 1003) → (z725 % 4 = 0) → (1004 - z725) < (nL727 : Int) → sV (gG l D c H0 sa) mX12_marksRight (sRm 3 0 0) (sZ (gG l D c H0 sa) 0 0 (qI w [106101, 126999, 173999] μ (fun z μ1 => (0 ≤ z ∧ z ≤ 1) ∧ mG [(961, 1000)] μ μ1 ∧ True))) 10 [(0, .ref 106), (1, iv p1), (2, iv p2), (3, iv z725)] [] (mk w μ726) 0 0 := by
      intro nL727
      induction nL727 with
      | zero => intro z725 μ726 T729 F730 G731 h728 h732 h733; exact ((vc_X12_marksRight_f_3 h733 h732 h728)).elim
      | succ nL727 ih734 =>
        intro z725 μ726 T729 F730 G731 h728 h732 h733
        refine mr_iload_n (pc := 10) (z := z725) dX12_marksRight_10 rfl rfl ?_
        refine mr_iload_n (pc := 11) (z := p2) dX12_marksRight_11 rfl rfl ?_
        refine mr_icmp_ge (pc := 12) (tgt := 82) dX12_marksRight_12 (by decide) (r32 h728 rfl) (r32 hp2 rfl) (fun h764 => ?_) (fun h764 => ?_)
        · refine mr_iconst (pc := 82) (z := 1) dX12_marksRight_82 ?_
          exact mr_zret dX12_marksRight_83 rfl (rW (c := 0) (d := 1) (rR (x := 1)) rfl) (le_t rfl) (le_t rfl) T729 (mF.call mF.refl F730 rfl) ⟨(rW (c := 0) (d := 1) (rR (x := 1)) rfl), (mG.call mG.refl G731 (List.forall_mem_cons.mpr ⟨⟨_, List.mem_cons_self, vc_X12_marksRight_f_4⟩, (fun _ h => absurd h List.not_mem_nil)⟩)), trivial⟩
        have h765 : 0 ≤ z725 ∧ z725 ≤ 999 := (vc_X12_marksRight_f_5 h764 hq0 q433 h732 ht_f_size hp1 hp2 h436 h728)
        have h766 : 1 ≤ p2 ∧ p2 ≤ 1000 := (vc_X12_marksRight_f_6 h764 hq0 q433 h732 ht_f_size hp1 hp2 h436 h765)
        refine sv_aload_n (pc := 15) dX12_marksRight_15 rfl rfl ?_
        refine mr_iload_n (pc := 16) (z := p1) dX12_marksRight_16 rfl rfl ?_
        refine mr_iload_n (pc := 17) (z := z725) dX12_marksRight_17 rfl rfl ?_
        refine mr_iadd (pc := 18) (x := p1) (y := z725) dX12_marksRight_18 ?_
        refine mr_iconst (pc := 19) (z := 2) dX12_marksRight_19 ?_
        refine mr_iadd (pc := 20) (x := (p1 + z725)) (y := 2) dX12_marksRight_20 ?_
        refine mr_iconst (pc := 21) (z := 2) dX12_marksRight_21 ?_
        refine mr_cVP (pc := 22) (c_X12_number hw T729 (vc_X12_marksRight_f_7 hq0 h732 h764 q433 ht_f_size hp1 h766 h436 h765) (rW (c := 0) (d := 4) (rR (x := 2)) rfl) (F730.f (A_106 hw) rfl q_f_size) (vc_X12_marksRight_f_8 hq0 h732 h764 q433 ht_f_size hp1 h766 h436 h765)) (gOk _ _ _ _ _) dX12_marksRight_22 (tX12_number _ _ _ _ _) ⟨wV_X12_number, wL_X12_number⟩ wM_X12_623 (gCX12 _ _ _ _ _) rfl (A_106 hw) rfl ⟨le_t rfl, le_t rfl⟩ ⟨le_t rfl, le_t rfl⟩ rfl (le_t rfl) fun z771 h770 => ?_
        refine mr_istore (pc := 25) (lv' := [(4, iv z771), (0, .ref 106), (1, iv p1), (2, iv p2), (3, iv z725)]) dX12_marksRight_25 (by decide) rfl ?_
        refine sv_aload_n (pc := 27) dX12_marksRight_27 rfl rfl ?_
        refine gf_X12_101 (pc := 28) dX12_marksRight_28 wF_X12_637 (A_106 hw) T729 fun z772 q773 h774 => ?_
        refine mr_bipush (pc := 31) (z := 8) dX12_marksRight_31 (by decide) ?_
        refine mr_icmp_ge (pc := 33) (tgt := 76) dX12_marksRight_33 (by decide) (r32 h774 rfl) (r32 (rR (x := 8)) rfl) (fun h794 => ?_) (fun h794 => ?_)
        · have h795 : 8 ≤ z772 ∧ z772 ≤ 8 := (vc_X12_marksRight_f_9 h794 h774)
          refine mr_iinc (pc := 76) (lv' := [(3, iv (z725 + 4)), (4, iv z771), (0, .ref 106), (1, iv p1), (2, iv p2)]) dX12_marksRight_76 rfl (by decide) rfl ?_
          refine sv_goto (pc := 79) (tgt := 10) dX12_marksRight_79 (by decide) ?_
          refine mr_lvS (lv' := [(0, .ref 106), (1, iv p1), (2, iv p2), (3, iv (z725 + 4))]) (List.forall_mem_cons.mpr ⟨rfl, List.forall_mem_cons.mpr ⟨rfl, List.forall_mem_cons.mpr ⟨rfl, List.forall_mem_cons.mpr ⟨rfl, fun _ h => absurd h List.not_mem_nil⟩⟩⟩⟩) ?_
          exact ih734 (z725 + 4) μ726 T729 (mF.call mF.refl F730 rfl) (mG.call mG.refl G731 (List.forall_mem_cons.mpr ⟨⟨_, List.mem_cons_self, vc_X12_marksRight_f_4⟩, (fun _ h => absurd h List.not_mem_nil)⟩)) (rW (c := 0) (d := 1003) (rAdd (e := 4) (f := 1003) h765 (rR (x := 4)) rfl) rfl) (vc_X12_marksRight_f_10 h732 h764 hq0 q433 ht_f_size hp1 h766 h436 h765) (vc_X12_marksRight_f_11 (nS h733) h732 h764 hq0 q433 ht_f_size hp1 h766 h436 h765)
        have h796 : 0 ≤ z772 ∧ z772 ≤ 7 := (vc_X12_marksRight_f_12 h794 h774)
        refine sv_aload_n (pc := 36) dX12_marksRight_36 rfl rfl ?_
        refine mr_bipush (pc := 37) (z := 24) dX12_marksRight_37 (by decide) ?_
        refine mr_iload (pc := 39) (z := z771) dX12_marksRight_39 rfl ?_
        refine mr_cVP (pc := 41) (c_X12_marked hw T729 (rW (c := 0) (d := 2099) (rR (x := 24)) rfl) h770.1) (gOk _ _ _ _ _) dX12_marksRight_41 (tX12_marked _ _ _ _ _) ⟨wV_X12_marked, wL_X12_marked⟩ wM_X12_154 (gCX12 _ _ _ _ _) rfl (A_106 hw) rfl ⟨le_t rfl, le_t rfl⟩ ⟨le_t rfl, le_t rfl⟩ rfl (le_t rfl) fun z801 h800 => ?_
        refine mr_if_ne (pc := 44) (tgt := 76) dX12_marksRight_44 (by decide) (r32 h800.1 rfl) (fun h814 => ?_) (fun h814 => ?_)
        · have h815 : 1 ≤ z801 ∧ z801 ≤ 1 := (vc_X12_marksRight_f_13 h814 h800.1)
          refine mr_iinc (pc := 76) (lv' := [(3, iv (z725 + 4)), (4, iv z771), (0, .ref 106), (1, iv p1), (2, iv p2)]) dX12_marksRight_76 rfl (by decide) rfl ?_
          refine sv_goto (pc := 79) (tgt := 10) dX12_marksRight_79 (by decide) ?_
          refine mr_lvS (lv' := [(0, .ref 106), (1, iv p1), (2, iv p2), (3, iv (z725 + 4))]) (List.forall_mem_cons.mpr ⟨rfl, List.forall_mem_cons.mpr ⟨rfl, List.forall_mem_cons.mpr ⟨rfl, List.forall_mem_cons.mpr ⟨rfl, fun _ h => absurd h List.not_mem_nil⟩⟩⟩⟩) ?_
          exact ih734 (z725 + 4) μ726 T729 (mF.call mF.refl F730 rfl) (mG.call mG.refl G731 (List.forall_mem_cons.mpr ⟨⟨_, List.mem_cons_self, vc_X12_marksRight_f_4⟩, (fun _ h => absurd h List.not_mem_nil)⟩)) (rW (c := 0) (d := 1003) (rAdd (e := 4) (f := 1003) h765 (rR (x := 4)) rfl) rfl) (vc_X12_marksRight_f_10 h732 h764 hq0 q433 ht_f_size hp1 h766 h436 h765) (vc_X12_marksRight_f_11 (nS h733) h732 h764 hq0 q433 ht_f_size hp1 h766 h436 h765)
        have h816 : 0 ≤ z801 ∧ z801 ≤ 0 := (vc_X12_marksRight_f_14 h814 h800.1)
        refine sv_aload_n (pc := 47) dX12_marksRight_47 rfl rfl ?_
        refine mr_bipush (pc := 48) (z := 24) dX12_marksRight_48 (by decide) ?_
        refine mr_iload (pc := 50) (z := z771) dX12_marksRight_50 rfl ?_
        refine mr_cVV (pc := 52) (c_X12_addMark hw T729 (rW (c := 0) (d := 2099) (rR (x := 24)) rfl) h770.1) (gOk _ _ _ _ _) dX12_marksRight_52 (tX12_addMark _ _ _ _ _) ⟨wV_X12_addMark, wL_X12_addMark⟩ wM_X12_401 (gCX12 _ _ _ _ _) rfl (A_106 hw) rfl ⟨le_t rfl, le_t rfl⟩ ⟨le_t rfl, le_t rfl⟩ rfl (le_t rfl) fun μ817 T818 F819 h820 => ?_
        refine sv_aload_n (pc := 55) dX12_marksRight_55 rfl rfl ?_
        refine gf_X12_100 (pc := 56) dX12_marksRight_56 wF_X12_481 (A_106 hw) T818 ?_
        refine sv_aload_n (pc := 59) dX12_marksRight_59 rfl rfl ?_
        refine gk_X12_101 (pc := 60) dX12_marksRight_60 wF_X12_637 (A_106 hw) (F819.f (A_106 hw) rfl q773) ?_
        refine mr_iload (pc := 63) (z := z771) dX12_marksRight_63 rfl ?_
        refine ss_173 (pc := 65) dX12_marksRight_65 (A_173 hw) T818 (rIx (n := 8) h796 rfl) h770.1 fun μ821 u822 T823 => ?_
        refine sv_aload_n (pc := 66) dX12_marksRight_66 rfl rfl ?_
        refine sv_dup (pc := 67) dX12_marksRight_67 rfl ?_
        refine gk_X12_101 (pc := 68) dX12_marksRight_68 wF_X12_637 (A_106 hw) (u822.f (Or.inl (mAt.ne (A_173 hw) (A_106 hw) rfl)) (F819.f (A_106 hw) rfl q773)) ?_
        refine mr_iconst (pc := 71) (z := 1) dX12_marksRight_71 ?_
        refine mr_iadd (pc := 72) (x := z772) (y := 1) dX12_marksRight_72 ?_
        refine pf_X12_101 (pc := 73) dX12_marksRight_73 wF_X12_637 (A_106 hw) T823 (rW (c := 0) (d := 8) (rAdd (e := 1) (f := 8) h796 (rR (x := 1)) rfl) rfl) fun μ824 u825 T826 => ?_
        refine mr_iinc (pc := 76) (lv' := [(3, iv (z725 + 4)), (4, iv z771), (0, .ref 106), (1, iv p1), (2, iv p2)]) dX12_marksRight_76 rfl (by decide) rfl ?_
        refine sv_goto (pc := 79) (tgt := 10) dX12_marksRight_79 (by decide) ?_
        refine mr_lvS (lv' := [(0, .ref 106), (1, iv p1), (2, iv p2), (3, iv (z725 + 4))]) (List.forall_mem_cons.mpr ⟨rfl, List.forall_mem_cons.mpr ⟨rfl, List.forall_mem_cons.mpr ⟨rfl, List.forall_mem_cons.mpr ⟨rfl, fun _ h => absurd h List.not_mem_nil⟩⟩⟩⟩) ?_
        exact ih734 (z725 + 4) μ824 T826 (mF.up (mF.up (mF.call (mF.call mF.refl F730 rfl) F819 rfl) (A_173 hw) u822 rfl) (A_106 hw) u825 rfl) (mG.upO (mG.upO (mG.call (mG.call mG.refl G731 (List.forall_mem_cons.mpr ⟨⟨_, List.mem_cons_self, vc_X12_marksRight_f_4⟩, (fun _ h => absurd h List.not_mem_nil)⟩)) h820.1 (List.forall_mem_cons.mpr ⟨⟨_, List.mem_cons_self, vc_X12_marksRight_f_15⟩, (fun _ h => absurd h List.not_mem_nil)⟩)) u822 rfl) u825 rfl) (rW (c := 0) (d := 1003) (rAdd (e := 4) (f := 1003) h765 (rR (x := 4)) rfl) rfl) (vc_X12_marksRight_f_10 h732 h764 hq0 q433 ht_f_size hp1 h766 h436 h765) (vc_X12_marksRight_f_11 (nS h733) h732 h764 hq0 q433 ht_f_size hp1 h766 h436 h765)
    refine mr_lvS (lv' := [(0, .ref 106), (1, iv p1), (2, iv p2), (3, iv 0)]) (List.forall_mem_cons.mpr ⟨rfl, List.forall_mem_cons.mpr ⟨rfl, List.forall_mem_cons.mpr ⟨rfl, List.forall_mem_cons.mpr ⟨rfl, fun _ h => absurd h List.not_mem_nil⟩⟩⟩⟩) ?_
    exact L727 1005 0 μ hT mF.refl mG.refl (rW (c := 0) (d := 1003) (rR (x := 0)) rfl) vc_X12_marksRight_f_16 vc_X12_marksRight_f_17
  have h827 : 1 ≤ z432 ∧ z432 ≤ 3 := (vc_X12_marksRight_f_18 h435 q433 hp2 h434)
  refine mr_iconst (pc := 6) (z := 0) dX12_marksRight_6 ?_
  exact mr_zret dX12_marksRight_7 rfl (rW (c := 0) (d := 1) (rR (x := 0)) rfl) (le_t rfl) (le_t rfl) hT mF.refl ⟨(rW (c := 0) (d := 1) (rR (x := 0)) rfl), mG.refl, trivial⟩
