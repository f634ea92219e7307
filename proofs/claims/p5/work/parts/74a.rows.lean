theorem vc_X12_byteAt_f_1 {f_size p1 : Int} (h0 : p1 < f_size) (h1 : 0 ≤ f_size ∧ f_size ≤ 1000) (h2 : 0 ≤ p1 ∧ p1 ≤ 2147483647) : 0 ≤ p1 ∧ p1 ≤ 999 := by omega
theorem vc_X12_byteAt_f_2 {f_size p1 : Int} (h0 : p1 < f_size) (h1 : 0 ≤ f_size ∧ f_size ≤ 1000) (h2 : 0 ≤ p1 ∧ p1 ≤ 999) : 1 ≤ f_size ∧ f_size ≤ 1000 := by omega
theorem vc_X12_byteAt_f_3 {f_size p1 : Int} (h0 : f_size ≤ p1) (h1 : p1 < f_size) (h2 : 1 ≤ f_size ∧ f_size ≤ 1000) (h3 : 0 ≤ p1 ∧ p1 ≤ 999) : False := by omega
theorem vc_X12_byteAt_f_4 {f_size p1 : Int} (h0 : p1 < f_size) (h1 : 1 ≤ f_size ∧ f_size ≤ 1000) (h2 : 0 ≤ p1 ∧ p1 ≤ 999) : p1 < f_size := by omega
set_option maxRecDepth 4000 in
set_option maxHeartbeats 4000000 in
theorem c_X12_byteAt_f {l : Launch} {D : va_G} {c : Nat → ClassId} {H0 : Heap} {sa : Nat × Nat × (Nat → Int32)} {w : mW} {μ : mM} (hw : mWF w) (hT : mT w μ) {p1 : Int} (hp1 : 0 ≤ p1 ∧ p1 ≤ 2147483647) {f_size : Int} (q_f_size : μ 106 1 = f_size) (hq0 : p1 < f_size) : sC (gG l D c H0 sa) mX12_byteAt 1 0 0 [.ref 106, iv p1] (mk w μ) (qP w μ (fun z => (0 ≤ z ∧ z ≤ 255) ∧ z = byteF μ p1 ∧ True)) := by
  refine sC.of rfl (by decide) (le_t rfl) ?_
  have ht_f_size : (0 ≤ f_size ∧ f_size ≤ 1000) := by rw [← q_f_size]; exact hT 106 106 (A_106 hw) 1
  have h1 : 0 ≤ p1 ∧ p1 ≤ 999 := (vc_X12_byteAt_f_1 hq0 ht_f_size hp1)
  have h2 : 1 ≤ f_size ∧ f_size ≤ 1000 := (vc_X12_byteAt_f_2 hq0 ht_f_size h1)
  refine mr_lvE (lv' := [(0, .ref 106), (1, iv p1)]) rfl ?_
  refine mr_iload_n (pc := 0) (z := p1) dX12_byteAt_0 rfl rfl ?_
  refine sv_aload_n (pc := 1) dX12_byteAt_1 rfl rfl ?_
  refine gk_X12_1 (pc := 2) dX12_byteAt_2 wF_X12_1 (A_106 hw) q_f_size ?_
  refine mr_icmp_ge (pc := 5) (tgt := 21) dX12_byteAt_5 (by decide) (r32 h1 rfl) (r32 h2 rfl) (fun h => ((vc_X12_byteAt_f_3 h hq0 h2 h1)).elim) (fun h24 => ?_)
  refine sv_aload_n (pc := 8) dX12_byteAt_8 rfl rfl ?_
  refine gf_X12_0 (pc := 9) dX12_byteAt_9 wF_X12_7 (A_106 hw) hT ?_
  refine mr_iload_n (pc := 12) (z := p1) dX12_byteAt_12 rfl rfl ?_
  refine la_107 (pc := 13) dX12_byteAt_13 (A_107 hw) hT (rIx (n := 1000) h1 rfl) fun z25 q26 h27 => ?_
  refine mr_sipush (pc := 14) (z := 255) dX12_byteAt_14 (by decide) ?_
  refine mr_iand (pc := 17) (x := z25) (y := 255) dX12_byteAt_17 ?_
  refine mr_gen (P := fun z => 0 ≤ z ∧ z ≤ 255) (rAndR (rR (x := 255)) rfl) fun z28 q29 h30 => ?_
  refine sv_goto (pc := 18) (tgt := 22) dX12_byteAt_18 (by decide) ?_
  exact mr_iretP dX12_byteAt_22 rfl (le_t rfl) (le_t rfl) ⟨h30, (byteF.in q_f_size (vc_X12_byteAt_f_4 hq0 h2 h1) q26 q29), trivial⟩
theorem vc_X12_number_f_1 {f_size p1 p2 : Int} (h0 : p2 ≤ 0) (h1 : p1 + p2 ≤ f_size) (h2 : 0 ≤ f_size ∧ f_size ≤ 1000) (h3 : 0 ≤ p1 ∧ p1 ≤ 1000) (h4 : 0 ≤ p2 ∧ p2 ≤ 4) : 0 ≤ p2 ∧ p2 ≤ 0 := by omega
theorem vc_X12_number_f_2 {f_size p1 p2 : Int} (h0 : p1 + p2 ≤ f_size) (h1 : p2 ≤ 0) (h2 : 0 ≤ f_size ∧ f_size ≤ 1000) (h3 : 0 ≤ p1 ∧ p1 ≤ 1000) (h4 : 0 ≤ p2 ∧ p2 ≤ 0) : p2 = (0 : Int) := by omega
theorem vc_X12_number_f_3 {f_size p1 p2 : Int} (h0 : p1 + p2 ≤ f_size) (h1 : p2 ≤ 0) (h2 : 0 ≤ f_size ∧ f_size ≤ 1000) (h3 : 0 ≤ p1 ∧ p1 ≤ 1000) (h4 : 0 ≤ p2 ∧ p2 ≤ 0) : p2 ≤ 2 → 0 ≤ (0 : Int) ∧ (0 : Int) ≤ 65535 := by omega
theorem vc_X12_number_f_4 {f_size p1 p2 : Int} (h0 : 0 < p2) (h1 : p1 + p2 ≤ f_size) (h2 : 0 ≤ f_size ∧ f_size ≤ 1000) (h3 : 0 ≤ p1 ∧ p1 ≤ 1000) (h4 : 0 ≤ p2 ∧ p2 ≤ 4) : 1 ≤ p2 ∧ p2 ≤ 4 := by omega
theorem vc_X12_number_f_5 {f_size p1 p2 : Int} (h0 : p1 + p2 ≤ f_size) (h1 : 0 < p2) (h2 : 0 ≤ f_size ∧ f_size ≤ 1000) (h3 : 0 ≤ p1 ∧ p1 ≤ 1000) (h4 : 1 ≤ p2 ∧ p2 ≤ 4) : (p1 + 0) < f_size := by omega
theorem vc_X12_number_f_6  : (0 : Int) ≤ ((0 : Int) : Int) := by omega
theorem vc_X12_number_f_7 {f_size p1 p2 : Int} (h0 : p1 + p2 ≤ f_size) (h1 : 0 < p2) (h2 : 0 ≤ f_size ∧ f_size ≤ 1000) (h3 : 0 ≤ p1 ∧ p1 ≤ 1000) (h4 : 1 ≤ p2 ∧ p2 ≤ 4) : (p1 + 0) = p1 + (0 : Int) := by omega
theorem vc_X12_number_f_8 {f_size p1 p2 : Int} (h0 : p2 ≤ 1) (h1 : p1 + p2 ≤ f_size) (h2 : 0 < p2) (h3 : 0 ≤ f_size ∧ f_size ≤ 1000) (h4 : 0 ≤ p1 ∧ p1 ≤ 1000) (h5 : 1 ≤ p2 ∧ p2 ≤ 4) : 1 ≤ p2 ∧ p2 ≤ 1 := by omega
theorem vc_X12_number_f_9 {f_size p1 p2 : Int} (h0 : p1 + p2 ≤ f_size) (h1 : 0 < p2) (h2 : p2 ≤ 1) (h3 : 0 ≤ f_size ∧ f_size ≤ 1000) (h4 : 0 ≤ p1 ∧ p1 ≤ 1000) (h5 : 1 ≤ p2 ∧ p2 ≤ 1) : p2 = (1 : Int) := by omega
theorem vc_X12_number_f_10 {f_size p1 p2 z303 : Int} (h0 : p1 + p2 ≤ f_size) (h1 : 0 < p2) (h2 : p2 ≤ 1) (h3 : 0 ≤ f_size ∧ f_size ≤ 1000) (h4 : 0 ≤ p1 ∧ p1 ≤ 1000) (h5 : 1 ≤ p2 ∧ p2 ≤ 1) (h6 : 0 ≤ z303 ∧ z303 ≤ 255) : p2 ≤ 2 → 0 ≤ z303 ∧ z303 ≤ 65535 := by omega
theorem vc_X12_number_f_11 {f_size p1 p2 : Int} (h0 : 1 < p2) (h1 : p1 + p2 ≤ f_size) (h2 : 0 < p2) (h3 : 0 ≤ f_size ∧ f_size ≤ 1000) (h4 : 0 ≤ p1 ∧ p1 ≤ 1000) (h5 : 1 ≤ p2 ∧ p2 ≤ 4) : 2 ≤ p2 ∧ p2 ≤ 4 := by omega
theorem vc_X12_number_f_12 {f_size p1 p2 : Int} (h0 : p1 + p2 ≤ f_size) (h1 : 0 < p2) (h2 : 1 < p2) (h3 : 0 ≤ f_size ∧ f_size ≤ 1000) (h4 : 0 ≤ p1 ∧ p1 ≤ 1000) (h5 : 2 ≤ p2 ∧ p2 ≤ 4) : (p1 + 1) < f_size := by omega
theorem vc_X12_number_f_13  : (0 : Int) ≤ ((1 : Int) : Int) := by omega
theorem vc_X12_number_f_14 {f_size p1 p2 : Int} (h0 : p1 + p2 ≤ f_size) (h1 : 0 < p2) (h2 : 1 < p2) (h3 : 0 ≤ f_size ∧ f_size ≤ 1000) (h4 : 0 ≤ p1 ∧ p1 ≤ 1000) (h5 : 2 ≤ p2 ∧ p2 ≤ 4) : (p1 + 1) = p1 + (1 : Int) := by omega
theorem vc_X12_number_f_15 {f_size p1 p2 z452 z453 : Int} (h0 : (5 - z452) < ((0 : Nat) : Int)) (h1 : z452 = 2 → 0 ≤ z453 ∧ z453 ≤ 65535) (h2 : z452 ≤ p2) (h3 : p1 + p2 ≤ f_size) (h4 : 0 < p2) (h5 : 1 < p2) (h6 : 0 ≤ f_size ∧ f_size ≤ 1000) (h7 : 0 ≤ p1 ∧ p1 ≤ 1000) (h8 : 2 ≤ p2 ∧ p2 ≤ 4) (h9 : 2 ≤ z452 ∧ z452 ≤ 4) (h10 : (-2147483648) ≤ z453 ∧ z453 ≤ 2147483647) : False := by omega
theorem vc_X12_number_f_16 {f_size p1 p2 z452 z453 : Int} (h0 : p1 + p2 ≤ f_size) (h1 : 0 < p2) (h2 : 1 < p2) (h3 : z452 = 2 → 0 ≤ z453 ∧ z453 ≤ 65535) (h4 : z452 ≤ p2) (h5 : p2 ≤ z452) (h6 : 0 ≤ f_size ∧ f_size ≤ 1000) (h7 : 0 ≤ p1 ∧ p1 ≤ 1000) (h8 : 2 ≤ p2 ∧ p2 ≤ 4) (h9 : 2 ≤ z452 ∧ z452 ≤ 4) (h10 : (-2147483648) ≤ z453 ∧ z453 ≤ 2147483647) : p2 = z452 := by omega
theorem vc_X12_number_f_17 {f_size p1 p2 z452 z453 : Int} (h0 : p1 + p2 ≤ f_size) (h1 : 0 < p2) (h2 : 1 < p2) (h3 : z452 = 2 → 0 ≤ z453 ∧ z453 ≤ 65535) (h4 : z452 ≤ p2) (h5 : p2 ≤ z452) (h6 : 0 ≤ f_size ∧ f_size ≤ 1000) (h7 : 0 ≤ p1 ∧ p1 ≤ 1000) (h8 : 2 ≤ p2 ∧ p2 ≤ 4) (h9 : 2 ≤ z452 ∧ z452 ≤ 4) (h10 : (-2147483648) ≤ z453 ∧ z453 ≤ 2147483647) : p2 ≤ 2 → 0 ≤ z453 ∧ z453 ≤ 65535 := by omega
theorem vc_X12_number_f_18 {f_size p1 p2 z452 z453 : Int} (h0 : z452 < p2) (h1 : p1 + p2 ≤ f_size) (h2 : 0 < p2) (h3 : 1 < p2) (h4 : z452 = 2 → 0 ≤ z453 ∧ z453 ≤ 65535) (h5 : z452 ≤ p2) (h6 : 0 ≤ f_size ∧ f_size ≤ 1000) (h7 : 0 ≤ p1 ∧ p1 ≤ 1000) (h8 : 2 ≤ p2 ∧ p2 ≤ 4) (h9 : 2 ≤ z452 ∧ z452 ≤ 4) (h10 : (-2147483648) ≤ z453 ∧ z453 ≤ 2147483647) : 2 ≤ z452 ∧ z452 ≤ 3 := by omega
theorem vc_X12_number_f_19 {f_size p1 p2 z452 z453 : Int} (h0 : z452 < p2) (h1 : p1 + p2 ≤ f_size) (h2 : 0 < p2) (h3 : 1 < p2) (h4 : z452 = 2 → 0 ≤ z453 ∧ z453 ≤ 65535) (h5 : z452 ≤ p2) (h6 : 0 ≤ f_size ∧ f_size ≤ 1000) (h7 : 0 ≤ p1 ∧ p1 ≤ 1000) (h8 : 2 ≤ p2 ∧ p2 ≤ 4) (h9 : 2 ≤ z452 ∧ z452 ≤ 3) (h10 : (-2147483648) ≤ z453 ∧ z453 ≤ 2147483647) : 3 ≤ p2 ∧ p2 ≤ 4 := by omega
theorem vc_X12_number_f_20 {f_size p1 p2 z452 z453 : Int} (h0 : p1 + p2 ≤ f_size) (h1 : z452 = 2 → 0 ≤ z453 ∧ z453 ≤ 65535) (h2 : z452 ≤ p2) (h3 : z452 < p2) (h4 : 0 < p2) (h5 : 1 < p2) (h6 : 0 ≤ f_size ∧ f_size ≤ 1000) (h7 : 0 ≤ p1 ∧ p1 ≤ 1000) (h8 : 3 ≤ p2 ∧ p2 ≤ 4) (h9 : 2 ≤ z452 ∧ z452 ≤ 3) (h10 : (-2147483648) ≤ z453 ∧ z453 ≤ 2147483647) : (p1 + z452) < f_size := by omega
theorem vc_X12_number_f_21 {f_size p1 p2 z452 z453 : Int} (h0 : z452 = 2 → 0 ≤ z453 ∧ z453 ≤ 65535) (h1 : z452 ≤ p2) (h2 : z452 < p2) (h3 : p1 + p2 ≤ f_size) (h4 : 0 < p2) (h5 : 1 < p2) (h6 : 0 ≤ f_size ∧ f_size ≤ 1000) (h7 : 0 ≤ p1 ∧ p1 ≤ 1000) (h8 : 3 ≤ p2 ∧ p2 ≤ 4) (h9 : 2 ≤ z452 ∧ z452 ≤ 3) (h10 : (-2147483648) ≤ z453 ∧ z453 ≤ 2147483647) : 0 ≤ z452 := by omega
theorem vc_X12_number_f_22 {f_size p1 p2 z452 z453 : Int} (h0 : p1 + p2 ≤ f_size) (h1 : z452 = 2 → 0 ≤ z453 ∧ z453 ≤ 65535) (h2 : z452 ≤ p2) (h3 : z452 < p2) (h4 : 0 < p2) (h5 : 1 < p2) (h6 : 0 ≤ f_size ∧ f_size ≤ 1000) (h7 : 0 ≤ p1 ∧ p1 ≤ 1000) (h8 : 3 ≤ p2 ∧ p2 ≤ 4) (h9 : 2 ≤ z452 ∧ z452 ≤ 3) (h10 : (-2147483648) ≤ z453 ∧ z453 ≤ 2147483647) : (p1 + z452) = p1 + z452 := by omega
theorem vc_X12_number_f_23 {f_size p1 p2 z452 z453 z489 : Int} (h0 : z452 = 2 → 0 ≤ z453 ∧ z453 ≤ 65535) (h1 : z452 ≤ p2) (h2 : z452 < p2) (h3 : p1 + p2 ≤ f_size) (h4 : 0 < p2) (h5 : 1 < p2) (h6 : 0 ≤ f_size ∧ f_size ≤ 1000) (h7 : 0 ≤ p1 ∧ p1 ≤ 1000) (h8 : 3 ≤ p2 ∧ p2 ≤ 4) (h9 : 2 ≤ z452 ∧ z452 ≤ 3) (h10 : (-2147483648) ≤ z453 ∧ z453 ≤ 2147483647) (h11 : (-2147483648) ≤ z489 ∧ z489 ≤ 2147483647) : (z452 + 1) = 2 → 0 ≤ z489 ∧ z489 ≤ 65535 := by omega
theorem vc_X12_number_f_24 {f_size p1 p2 z452 z453 : Int} (h0 : p1 + p2 ≤ f_size) (h1 : 0 < p2) (h2 : 1 < p2) (h3 : z452 = 2 → 0 ≤ z453 ∧ z453 ≤ 65535) (h4 : z452 ≤ p2) (h5 : z452 < p2) (h6 : 0 ≤ f_size ∧ f_size ≤ 1000) (h7 : 0 ≤ p1 ∧ p1 ≤ 1000) (h8 : 3 ≤ p2 ∧ p2 ≤ 4) (h9 : 2 ≤ z452 ∧ z452 ≤ 3) (h10 : (-2147483648) ≤ z453 ∧ z453 ≤ 2147483647) : (z452 + 1) ≤ p2 := by omega
theorem vc_X12_number_f_25 {N f_size p1 p2 z452 z453 : Int} (h0 : (5 - z452) < N + 1) (h1 : z452 = 2 → 0 ≤ z453 ∧ z453 ≤ 65535) (h2 : z452 ≤ p2) (h3 : z452 < p2) (h4 : p1 + p2 ≤ f_size) (h5 : 0 < p2) (h6 : 1 < p2) (h7 : 0 ≤ f_size ∧ f_size ≤ 1000) (h8 : 0 ≤ p1 ∧ p1 ≤ 1000) (h9 : 3 ≤ p2 ∧ p2 ≤ 4) (h10 : 2 ≤ z452 ∧ z452 ≤ 3) (h11 : (-2147483648) ≤ z453 ∧ z453 ≤ 2147483647) : (5 - (z452 + 1)) < N := by omega
theorem vc_X12_number_f_26 {z364 : Int} (h0 : 0 ≤ z364 ∧ z364 ≤ 65535) : (2 : Int) = 2 → 0 ≤ z364 ∧ z364 ≤ 65535 := by omega
theorem vc_X12_number_f_27 {f_size p1 p2 : Int} (h0 : p1 + p2 ≤ f_size) (h1 : 0 < p2) (h2 : 1 < p2) (h3 : 0 ≤ f_size ∧ f_size ≤ 1000) (h4 : 0 ≤ p1 ∧ p1 ≤ 1000) (h5 : 2 ≤ p2 ∧ p2 ≤ 4) : (2 : Int) ≤ p2 := by omega
theorem vc_X12_number_f_28  : (5 - 2) < ((4 : Nat) : Int) := by omega
set_option maxRecDepth 4000 in
set_option maxHeartbeats 4000000 in
theorem c_X12_number_f {l : Launch} {D : va_G} {c : Nat → ClassId} {H0 : Heap} {sa : Nat × Nat × (Nat → Int32)} {w : mW} {μ : mM} (hw : mWF w) (hT : mT w μ) {p1 : Int} (hp1 : 0 ≤ p1 ∧ p1 ≤ 1000) {p2 : Int} (hp2 : 0 ≤ p2 ∧ p2 ≤ 4) {f_size : Int} (q_f_size : μ 106 1 = f_size) (hq0 : p1 + p2 ≤ f_size) : sC (gG l D c H0 sa) mX12_number 2 0 0 [.ref 106, iv p1, iv p2] (mk w μ) (qP w μ (fun z => ((-2147483648) ≤ z ∧ z ≤ 2147483647) ∧ z = numF μ p1 p2 ∧ (p2 ≤ 2 → 0 ≤ z ∧ z ≤ 65535) ∧ True)) := by
  refine sC.of rfl (by decide) (le_t rfl) ?_
  have ht_f_size : (0 ≤ f_size ∧ f_size ≤ 1000) := by rw [← q_f_size]; exact hT 106 106 (A_106 hw) 1
  refine mr_lvE (lv' := [(0, .ref 106), (1, iv p1), (2, iv p2)]) rfl ?_
  refine mr_iconst (pc := 0) (z := 0) dX12_number_0 ?_
  refine mr_istore_n (pc := 1) (lv' := [(3, iv 0), (0, .ref 106), (1, iv p1), (2, iv p2)]) dX12_number_1 rfl (by decide) rfl ?_
  refine mr_iconst (pc := 2) (z := 0) dX12_number_2 ?_
  refine mr_istore (pc := 3) (lv' := [(4, iv 0), (3, iv 0), (0, .ref 106), (1, iv p1), (2, iv p2)]) dX12_number_3 (by decide) rfl ?_
  refine mr_iload (pc := 5) (z := 0) dX12_number_5 rfl ?_
  refine mr_iload_n (pc := 7) (z := p2) dX12_number_7 rfl rfl ?_
  refine mr_icmp_ge (pc := 8) (tgt := 31) dX12_number_8 (by decide) (r32 (rR (x := 0)) rfl) (r32 hp2 rfl) (fun h292 => ?_) (fun h292 => ?_)
  · have h293 : 0 ≤ p2 ∧ p2 ≤ 0 := (vc_X12_number_f_1 h292 hq0 ht_f_size hp1 hp2)
    refine mr_iload_n (pc := 31) (z := 0) dX12_number_31 rfl rfl ?_
    exact mr_iretP dX12_number_32 rfl (le_t rfl) (le_t rfl) ⟨(rW (c := (-2147483648)) (d := 2147483647) (rR (x := 0)) rfl), (numF.fin (k := (0 : Int)) numF.zero (vc_X12_number_f_2 hq0 h292 ht_f_size hp1 h293)), (vc_X12_number_f_3 hq0 h292 ht_f_size hp1 h293), trivial⟩
  have h294 : 1 ≤ p2 ∧ p2 ≤ 4 := (vc_X12_number_f_4 h292 hq0 ht_f_size hp1 hp2)
  refine mr_iload_n (pc := 11) (z := 0) dX12_number_11 rfl rfl ?_
  refine mr_bipush (pc := 12) (z := 8) dX12_number_12 (by decide) ?_
  refine mr_ishl (pc := 14) (x := 0) (y := 8) dX12_number_14 ?_
  refine mr_gen (P := fun z => 0 ≤ z ∧ z ≤ 0) (rShl (k := 8) (rR (x := 0)) rfl) fun z295 q296 h297 => ?_
  refine sv_aload_n (pc := 15) dX12_number_15 rfl rfl ?_
  refine mr_iload_n (pc := 16) (z := p1) dX12_number_16 rfl rfl ?_
  refine mr_iload (pc := 17) (z := 0) dX12_number_17 rfl ?_
  refine mr_iadd (pc := 19) (x := p1) (y := 0) dX12_number_19 ?_
  refine mr_cVP (pc := 20) (c_X12_byteAt_f hw hT (rW (c := 0) (d := 2147483647) (rAdd (e := 0) (f := 1000) hp1 (rR (x := 0)) rfl) rfl) q_f_size (vc_X12_number_f_5 hq0 h292 ht_f_size hp1 h294)) (gOk _ _ _ _ _) dX12_number_20 (tX12_byteAt _ _ _ _ _) ⟨wV_X12_byteAt, wL_X12_byteAt⟩ wM_X12_227 (gCX12 _ _ _ _ _) rfl (A_106 hw) rfl ⟨le_t rfl, le_t rfl⟩ ⟨le_t rfl, le_t rfl⟩ rfl (le_t rfl) fun z302 h301 => ?_
  refine mr_ior (pc := 23) (x := z295) (y := z302) dX12_number_23 ?_
  refine mr_gen (P := fun z => 0 ≤ z ∧ z ≤ 255) (rOr 8 h297 h301.1 rfl) fun z303 q304 h305 => ?_
  refine mr_istore_n (pc := 24) (lv' := [(3, iv z303), (4, iv 0), (0, .ref 106), (1, iv p1), (2, iv p2)]) dX12_number_24 rfl (by decide) rfl ?_
  refine mr_iinc (pc := 25) (lv' := [(4, iv 1), (3, iv z303), (0, .ref 106), (1, iv p1), (2, iv p2)]) dX12_number_25 rfl (by decide) rfl ?_
  refine sv_goto (pc := 28) (tgt := 5) dX12_number_28 (by decide) ?_
  refine mr_iload (pc := 5) (z := 1) dX12_number_5 rfl ?_
  refine mr_iload_n (pc := 7) (z := p2) dX12_number_7 rfl rfl ?_
  refine mr_icmp_ge (pc := 8) (tgt := 31) dX12_number_8 (by decide) (r32 (rR (x := 1)) rfl) (r32 h294 rfl) (fun h353 => ?_) (fun h353 => ?_)
  · have h354 : 1 ≤ p2 ∧ p2 ≤ 1 := (vc_X12_number_f_8 h353 hq0 h292 ht_f_size hp1 h294)
    refine mr_iload_n (pc := 31) (z := z303) dX12_number_31 rfl rfl ?_
    exact mr_iretP dX12_number_32 rfl (le_t rfl) (le_t rfl) ⟨(rW (c := (-2147483648)) (d := 2147483647) h305 rfl), (numF.fin (k := (1 : Int)) (numF.succ (n := (0 : Int)) numF.zero vc_X12_number_f_6 q296 (vc_X12_number_f_7 hq0 h292 ht_f_size hp1 h294) h301.2.1.symm.symm q304) (vc_X12_number_f_9 hq0 h292 h353 ht_f_size hp1 h354)), (vc_X12_number_f_10 hq0 h292 h353 ht_f_size hp1 h354 h305), trivial⟩
  have h355 : 2 ≤ p2 ∧ p2 ≤ 4 := (vc_X12_number_f_11 h353 hq0 h292 ht_f_size hp1 h294)
  refine mr_iload_n (pc := 11) (z := z303) dX12_number_11 rfl rfl ?_
  refine mr_bipush (pc := 12) (z := 8) dX12_number_12 (by decide) ?_
  refine mr_ishl (pc := 14) (x := z303) (y := 8) dX12_number_14 ?_
  refine mr_gen (P := fun z => 0 ≤ z ∧ z ≤ 65280) (rShl (k := 8) h305 rfl) fun z356 q357 h358 => ?_
  refine sv_aload_n (pc := 15) dX12_number_15 rfl rfl ?_
  refine mr_iload_n (pc := 16) (z := p1) dX12_number_16 rfl rfl ?_
  refine mr_iload (pc := 17) (z := 1) dX12_number_17 rfl ?_
  refine mr_iadd (pc := 19) (x := p1) (y := 1) dX12_number_19 ?_
  refine mr_cVP (pc := 20) (c_X12_byteAt_f hw hT (rW (c := 0) (d := 2147483647) (rAdd (e := 1) (f := 1001) hp1 (rR (x := 1)) rfl) rfl) q_f_size (vc_X12_number_f_12 hq0 h292 h353 ht_f_size hp1 h355)) (gOk _ _ _ _ _) dX12_number_20 (tX12_byteAt _ _ _ _ _) ⟨wV_X12_byteAt, wL_X12_byteAt⟩ wM_X12_227 (gCX12 _ _ _ _ _) rfl (A_106 hw) rfl ⟨le_t rfl, le_t rfl⟩ ⟨le_t rfl, le_t rfl⟩ rfl (le_t rfl) fun z363 h362 => ?_
  refine mr_ior (pc := 23) (x := z356) (y := z363) dX12_number_23 ?_
  refine mr_gen (P := fun z => 0 ≤ z ∧ z ≤ 65535) (rOr 16 h358 h362.1 rfl) fun z364 q365 h366 => ?_
  refine mr_istore_n (pc := 24) (lv' := [(3, iv z364), (4, iv 1), (0, .ref 106), (1, iv p1), (2, iv p2)]) dX12_number_24 rfl (by decide) rfl ?_
  refine mr_iinc (pc := 25) (lv' := [(4, iv 2), (3, iv z364), (0, .ref 106), (1, iv p1), (2, iv p2)]) dX12_number_25 rfl (by decide) rfl ?_
  refine sv_goto (pc := 28) (tgt := 5) dX12_number_28 (by decide) ?_
  have L454 : ∀ (nL454 : Nat) (z453 z452 : Int), True → ((-2147483648) ≤ z453 ∧ z453 ≤ 2147483647) → (2 ≤ z452 ∧ z452 ≤ 4) → (z452 = 2 → 0 ≤ z453 ∧ z453 ≤ 65535) → (z452 ≤ p2) → numF μ p1 z452 = z453 → (5 - z452) < (nL454 : Int) → sV (gG l D c H0 sa) mX12_number (sRm 2 0 0) (sZ (gG l D c H0 sa) 0 0 (qP w μ (fun z => ((-2147483648) ≤ z ∧ z ≤ 2147483647) ∧ z = numF μ p1 p2 ∧ (p2 ≤ 2 → 0 ≤ z ∧ z ≤ 65535) ∧ True))) 5 [(0, .ref 106), (1, iv p1), (2, iv p2), (3, iv z453), (4, iv z452)] [] (mk w μ) 0 0 := by
    intro nL454
    induction nL454 with
    | zero => intro z453 z452 _ h455 h456 h460 h461 R462 h463; exact ((vc_X12_number_f_15 h463 h460 h461 hq0 h292 h353 ht_f_size hp1 h355 h456 h455)).elim
    | succ nL454 ih464 =>
      intro z453 z452 _ h455 h456 h460 h461 R462 h463
      refine mr_iload (pc := 5) (z := z452) dX12_number_5 rfl ?_
      refine mr_iload_n (pc := 7) (z := p2) dX12_number_7 rfl rfl ?_
      refine mr_icmp_ge (pc := 8) (tgt := 31) dX12_number_8 (by decide) (r32 h456 rfl) (r32 h355 rfl) (fun h478 => ?_) (fun h478 => ?_)
      · refine mr_iload_n (pc := 31) (z := z453) dX12_number_31 rfl rfl ?_
        exact mr_iretP dX12_number_32 rfl (le_t rfl) (le_t rfl) ⟨h455, (numF.fin (k := z452) R462 (vc_X12_number_f_16 hq0 h292 h353 h460 h461 h478 ht_f_size hp1 h355 h456 h455)), (vc_X12_number_f_17 hq0 h292 h353 h460 h461 h478 ht_f_size hp1 h355 h456 h455), trivial⟩
      have h479 : 2 ≤ z452 ∧ z452 ≤ 3 := (vc_X12_number_f_18 h478 hq0 h292 h353 h460 h461 ht_f_size hp1 h355 h456 h455)
      have h480 : 3 ≤ p2 ∧ p2 ≤ 4 := (vc_X12_number_f_19 h478 hq0 h292 h353 h460 h461 ht_f_size hp1 h355 h479 h455)
      refine mr_iload_n (pc := 11) (z := z453) dX12_number_11 rfl rfl ?_
      refine mr_bipush (pc := 12) (z := 8) dX12_number_12 (by decide) ?_
      refine mr_ishl (pc := 14) (x := z453) (y := 8) dX12_number_14 ?_
      refine mr_gen (P := fun z => (-2147483648) ≤ z ∧ z ≤ 2147483647) (r32i _) fun z481 q482 h483 => ?_
      refine sv_aload_n (pc := 15) dX12_number_15 rfl rfl ?_
      refine mr_iload_n (pc := 16) (z := p1) dX12_number_16 rfl rfl ?_
      refine mr_iload (pc := 17) (z := z452) dX12_number_17 rfl ?_
      refine mr_iadd (pc := 19) (x := p1) (y := z452) dX12_number_19 ?_
      refine mr_cVP (pc := 20) (c_X12_byteAt_f hw hT (rW (c := 0) (d := 2147483647) (rAdd (e := 2) (f := 1003) hp1 h479 rfl) rfl) q_f_size (vc_X12_number_f_20 hq0 h460 h461 h478 h292 h353 ht_f_size hp1 h480 h479 h455)) (gOk _ _ _ _ _) dX12_number_20 (tX12_byteAt _ _ _ _ _) ⟨wV_X12_byteAt, wL_X12_byteAt⟩ wM_X12_227 (gCX12 _ _ _ _ _) rfl (A_106 hw) rfl ⟨le_t rfl, le_t rfl⟩ ⟨le_t rfl, le_t rfl⟩ rfl (le_t rfl) fun z488 h487 => ?_
      refine mr_ior (pc := 23) (x := z481) (y := z488) dX12_number_23 ?_
      refine mr_gen (P := fun z => (-2147483648) ≤ z ∧ z ≤ 2147483647) (r32i _) fun z489 q490 h491 => ?_
      refine mr_istore_n (pc := 24) (lv' := [(3, iv z489), (0, .ref 106), (1, iv p1), (2, iv p2), (4, iv z452)]) dX12_number_24 rfl (by decide) rfl ?_
      refine mr_iinc (pc := 25) (lv' := [(4, iv (z452 + 1)), (3, iv z489), (0, .ref 106), (1, iv p1), (2, iv p2)]) dX12_number_25 rfl (by decide) rfl ?_
      refine sv_goto (pc := 28) (tgt := 5) dX12_number_28 (by decide) ?_
      refine mr_lvS (lv' := [(0, .ref 106), (1, iv p1), (2, iv p2), (3, iv z489), (4, iv (z452 + 1))]) (List.forall_mem_cons.mpr ⟨rfl, List.forall_mem_cons.mpr ⟨rfl, List.forall_mem_cons.mpr ⟨rfl, List.forall_mem_cons.mpr ⟨rfl, List.forall_mem_cons.mpr ⟨rfl, fun _ h => absurd h List.not_mem_nil⟩⟩⟩⟩⟩) ?_
      exact ih464 z489 (z452 + 1) trivial h491 (rW (c := 2) (d := 4) (rAdd (e := 3) (f := 4) h479 (rR (x := 1)) rfl) rfl) (vc_X12_number_f_23 h460 h461 h478 hq0 h292 h353 ht_f_size hp1 h480 h479 h455 h491) (vc_X12_number_f_24 hq0 h292 h353 h460 h461 h478 ht_f_size hp1 h480 h479 h455) (numF.succ (n := z452) R462 (vc_X12_number_f_21 h460 h461 h478 hq0 h292 h353 ht_f_size hp1 h480 h479 h455) q482 (vc_X12_number_f_22 hq0 h460 h461 h478 h292 h353 ht_f_size hp1 h480 h479 h455) h487.2.1.symm.symm q490) (vc_X12_number_f_25 (nS h463) h460 h461 h478 hq0 h292 h353 ht_f_size hp1 h480 h479 h455)
  refine mr_lvS (lv' := [(0, .ref 106), (1, iv p1), (2, iv p2), (3, iv z364), (4, iv 2)]) (List.forall_mem_cons.mpr ⟨rfl, List.forall_mem_cons.mpr ⟨rfl, List.forall_mem_cons.mpr ⟨rfl, List.forall_mem_cons.mpr ⟨rfl, List.forall_mem_cons.mpr ⟨rfl, fun _ h => absurd h List.not_mem_nil⟩⟩⟩⟩⟩) ?_
  exact L454 4 z364 2 trivial (rW (c := (-2147483648)) (d := 2147483647) h366 rfl) (rW (c := 2) (d := 4) (rR (x := 2)) rfl) (vc_X12_number_f_26 h366) (vc_X12_number_f_27 hq0 h292 h353 ht_f_size hp1 h355) (numF.succ (n := (1 : Int)) (numF.succ (n := (0 : Int)) numF.zero vc_X12_number_f_6 q296 (vc_X12_number_f_7 hq0 h292 ht_f_size hp1 h294) h301.2.1.symm.symm q304) vc_X12_number_f_13 q357 (vc_X12_number_f_14 hq0 h292 h353 ht_f_size hp1 h355) h362.2.1.symm.symm q365) vc_X12_number_f_28
theorem vc_X12_number_f2_1 {f_size p1 p2 : Int} (h0 : p2 ≤ 0) (h1 : p1 + p2 ≤ f_size) (h2 : 0 ≤ f_size ∧ f_size ≤ 1000) (h3 : 0 ≤ p1 ∧ p1 ≤ 1000) (h4 : 0 ≤ p2 ∧ p2 ≤ 2) : 0 ≤ p2 ∧ p2 ≤ 0 := by omega
theorem vc_X12_number_f2_2 {f_size p1 p2 : Int} (h0 : p1 + p2 ≤ f_size) (h1 : p2 ≤ 0) (h2 : 0 ≤ f_size ∧ f_size ≤ 1000) (h3 : 0 ≤ p1 ∧ p1 ≤ 1000) (h4 : 0 ≤ p2 ∧ p2 ≤ 0) : p2 = (0 : Int) := by omega
theorem vc_X12_number_f2_3 {f_size p1 p2 : Int} (h0 : 0 < p2) (h1 : p1 + p2 ≤ f_size) (h2 : 0 ≤ f_size ∧ f_size ≤ 1000) (h3 : 0 ≤ p1 ∧ p1 ≤ 1000) (h4 : 0 ≤ p2 ∧ p2 ≤ 2) : 1 ≤ p2 ∧ p2 ≤ 2 := by omega
theorem vc_X12_number_f2_4 {f_size p1 p2 : Int} (h0 : p1 + p2 ≤ f_size) (h1 : 0 < p2) (h2 : 0 ≤ f_size ∧ f_size ≤ 1000) (h3 : 0 ≤ p1 ∧ p1 ≤ 1000) (h4 : 1 ≤ p2 ∧ p2 ≤ 2) : (p1 + 0) < f_size := by omega
theorem vc_X12_number_f2_5  : (0 : Int) ≤ ((0 : Int) : Int) := by omega
theorem vc_X12_number_f2_6 {f_size p1 p2 : Int} (h0 : p1 + p2 ≤ f_size) (h1 : 0 < p2) (h2 : 0 ≤ f_size ∧ f_size ≤ 1000) (h3 : 0 ≤ p1 ∧ p1 ≤ 1000) (h4 : 1 ≤ p2 ∧ p2 ≤ 2) : (p1 + 0) = p1 + (0 : Int) := by omega
theorem vc_X12_number_f2_7 {f_size p1 p2 : Int} (h0 : p2 ≤ 1) (h1 : p1 + p2 ≤ f_size) (h2 : 0 < p2) (h3 : 0 ≤ f_size ∧ f_size ≤ 1000) (h4 : 0 ≤ p1 ∧ p1 ≤ 1000) (h5 : 1 ≤ p2 ∧ p2 ≤ 2) : 1 ≤ p2 ∧ p2 ≤ 1 := by omega
theorem vc_X12_number_f2_8 {f_size p1 p2 : Int} (h0 : p1 + p2 ≤ f_size) (h1 : 0 < p2) (h2 : p2 ≤ 1) (h3 : 0 ≤ f_size ∧ f_size ≤ 1000) (h4 : 0 ≤ p1 ∧ p1 ≤ 1000) (h5 : 1 ≤ p2 ∧ p2 ≤ 1) : p2 = (1 : Int) := by omega
theorem vc_X12_number_f2_9 {f_size p1 p2 : Int} (h0 : 1 < p2) (h1 : p1 + p2 ≤ f_size) (h2 : 0 < p2) (h3 : 0 ≤ f_size ∧ f_size ≤ 1000) (h4 : 0 ≤ p1 ∧ p1 ≤ 1000) (h5 : 1 ≤ p2 ∧ p2 ≤ 2) : 2 ≤ p2 ∧ p2 ≤ 2 := by omega
theorem vc_X12_number_f2_10 {f_size p1 p2 : Int} (h0 : p1 + p2 ≤ f_size) (h1 : 0 < p2) (h2 : 1 < p2) (h3 : 0 ≤ f_size ∧ f_size ≤ 1000) (h4 : 0 ≤ p1 ∧ p1 ≤ 1000) (h5 : 2 ≤ p2 ∧ p2 ≤ 2) : (p1 + 1) < f_size := by omega
theorem vc_X12_number_f2_11  : (0 : Int) ≤ ((1 : Int) : Int) := by omega
theorem vc_X12_number_f2_12 {f_size p1 p2 : Int} (h0 : p1 + p2 ≤ f_size) (h1 : 0 < p2) (h2 : 1 < p2) (h3 : 0 ≤ f_size ∧ f_size ≤ 1000) (h4 : 0 ≤ p1 ∧ p1 ≤ 1000) (h5 : 2 ≤ p2 ∧ p2 ≤ 2) : (p1 + 1) = p1 + (1 : Int) := by omega
theorem vc_X12_number_f2_13 {p2 : Int} (h0 : 2 < p2) (h1 : 2 ≤ p2 ∧ p2 ≤ 2) : False := by omega
theorem vc_X12_number_f2_14 {f_size p1 p2 : Int} (h0 : p1 + p2 ≤ f_size) (h1 : 0 < p2) (h2 : 1 < p2) (h3 : 0 ≤ f_size ∧ f_size ≤ 1000) (h4 : 0 ≤ p1 ∧ p1 ≤ 1000) (h5 : 2 ≤ p2 ∧ p2 ≤ 2) : p2 = (2 : Int) := by omega
set_option maxRecDepth 4000 in
set_option maxHeartbeats 4000000 in
theorem c_X12_number_f2 {l : Launch} {D : va_G} {c : Nat → ClassId} {H0 : Heap} {sa : Nat × Nat × (Nat → Int32)} {w : mW} {μ : mM} (hw : mWF w) (hT : mT w μ) {p1 : Int} (hp1 : 0 ≤ p1 ∧ p1 ≤ 1000) {p2 : Int} (hp2 : 0 ≤ p2 ∧ p2 ≤ 2) {f_size : Int} (q_f_size : μ 106 1 = f_size) (hq0 : p1 + p2 ≤ f_size) : sC (gG l D c H0 sa) mX12_number 2 0 0 [.ref 106, iv p1, iv p2] (mk w μ) (qP w μ (fun z => (0 ≤ z ∧ z ≤ 65535) ∧ z = numF μ p1 p2 ∧ True)) := by
  refine sC.of rfl (by decide) (le_t rfl) ?_
  have ht_f_size : (0 ≤ f_size ∧ f_size ≤ 1000) := by rw [← q_f_size]; exact hT 106 106 (A_106 hw) 1
  refine mr_lvE (lv' := [(0, .ref 106), (1, iv p1), (2, iv p2)]) rfl ?_
  refine mr_iconst (pc := 0) (z := 0) dX12_number_0 ?_
  refine mr_istore_n (pc := 1) (lv' := [(3, iv 0), (0, .ref 106), (1, iv p1), (2, iv p2)]) dX12_number_1 rfl (by decide) rfl ?_
  refine mr_iconst (pc := 2) (z := 0) dX12_number_2 ?_
  refine mr_istore (pc := 3) (lv' := [(4, iv 0), (3, iv 0), (0, .ref 106), (1, iv p1), (2, iv p2)]) dX12_number_3 (by decide) rfl ?_
  refine mr_iload (pc := 5) (z := 0) dX12_number_5 rfl ?_
  refine mr_iload_n (pc := 7) (z := p2) dX12_number_7 rfl rfl ?_
  refine mr_icmp_ge (pc := 8) (tgt := 31) dX12_number_8 (by decide) (r32 (rR (x := 0)) rfl) (r32 hp2 rfl) (fun h105 => ?_) (fun h105 => ?_)
  · have h106 : 0 ≤ p2 ∧ p2 ≤ 0 := (vc_X12_number_f2_1 h105 hq0 ht_f_size hp1 hp2)
    refine mr_iload_n (pc := 31) (z := 0) dX12_number_31 rfl rfl ?_
    exact mr_iretP dX12_number_32 rfl (le_t rfl) (le_t rfl) ⟨(rW (c := 0) (d := 65535) (rR (x := 0)) rfl), (numF.fin (k := (0 : Int)) numF.zero (vc_X12_number_f2_2 hq0 h105 ht_f_size hp1 h106)), trivial⟩
  have h107 : 1 ≤ p2 ∧ p2 ≤ 2 := (vc_X12_number_f2_3 h105 hq0 ht_f_size hp1 hp2)
  refine mr_iload_n (pc := 11) (z := 0) dX12_number_11 rfl rfl ?_
  refine mr_bipush (pc := 12) (z := 8) dX12_number_12 (by decide) ?_
  refine mr_ishl (pc := 14) (x := 0) (y := 8) dX12_number_14 ?_
  refine mr_gen (P := fun z => 0 ≤ z ∧ z ≤ 0) (rShl (k := 8) (rR (x := 0)) rfl) fun z108 q109 h110 => ?_
  refine sv_aload_n (pc := 15) dX12_number_15 rfl rfl ?_
  refine mr_iload_n (pc := 16) (z := p1) dX12_number_16 rfl rfl ?_
  refine mr_iload (pc := 17) (z := 0) dX12_number_17 rfl ?_
  refine mr_iadd (pc := 19) (x := p1) (y := 0) dX12_number_19 ?_
  refine mr_cVP (pc := 20) (c_X12_byteAt_f hw hT (rW (c := 0) (d := 2147483647) (rAdd (e := 0) (f := 1000) hp1 (rR (x := 0)) rfl) rfl) q_f_size (vc_X12_number_f2_4 hq0 h105 ht_f_size hp1 h107)) (gOk _ _ _ _ _) dX12_number_20 (tX12_byteAt _ _ _ _ _) ⟨wV_X12_byteAt, wL_X12_byteAt⟩ wM_X12_227 (gCX12 _ _ _ _ _) rfl (A_106 hw) rfl ⟨le_t rfl, le_t rfl⟩ ⟨le_t rfl, le_t rfl⟩ rfl (le_t rfl) fun z115 h114 => ?_
  refine mr_ior (pc := 23) (x := z108) (y := z115) dX12_number_23 ?_
  refine mr_gen (P := fun z => 0 ≤ z ∧ z ≤ 255) (rOr 8 h110 h114.1 rfl) fun z116 q117 h118 => ?_
  refine mr_istore_n (pc := 24) (lv' := [(3, iv z116), (4, iv 0), (0, .ref 106), (1, iv p1), (2, iv p2)]) dX12_number_24 rfl (by decide) rfl ?_
  refine mr_iinc (pc := 25) (lv' := [(4, iv 1), (3, iv z116), (0, .ref 106), (1, iv p1), (2, iv p2)]) dX12_number_25 rfl (by decide) rfl ?_
  refine sv_goto (pc := 28) (tgt := 5) dX12_number_28 (by decide) ?_
  refine mr_iload (pc := 5) (z := 1) dX12_number_5 rfl ?_
  refine mr_iload_n (pc := 7) (z := p2) dX12_number_7 rfl rfl ?_
  refine mr_icmp_ge (pc := 8) (tgt := 31) dX12_number_8 (by decide) (r32 (rR (x := 1)) rfl) (r32 h107 rfl) (fun h132 => ?_) (fun h132 => ?_)
  · have h133 : 1 ≤ p2 ∧ p2 ≤ 1 := (vc_X12_number_f2_7 h132 hq0 h105 ht_f_size hp1 h107)
    refine mr_iload_n (pc := 31) (z := z116) dX12_number_31 rfl rfl ?_
    exact mr_iretP dX12_number_32 rfl (le_t rfl) (le_t rfl) ⟨(rW (c := 0) (d := 65535) h118 rfl), (numF.fin (k := (1 : Int)) (numF.succ (n := (0 : Int)) numF.zero vc_X12_number_f2_5 q109 (vc_X12_number_f2_6 hq0 h105 ht_f_size hp1 h107) h114.2.1.symm.symm q117) (vc_X12_number_f2_8 hq0 h105 h132 ht_f_size hp1 h133)), trivial⟩
  have h134 : 2 ≤ p2 ∧ p2 ≤ 2 := (vc_X12_number_f2_9 h132 hq0 h105 ht_f_size hp1 h107)
  refine mr_iload_n (pc := 11) (z := z116) dX12_number_11 rfl rfl ?_
  refine mr_bipush (pc := 12) (z := 8) dX12_number_12 (by decide) ?_
  refine mr_ishl (pc := 14) (x := z116) (y := 8) dX12_number_14 ?_
  refine mr_gen (P := fun z => 0 ≤ z ∧ z ≤ 65280) (rShl (k := 8) h118 rfl) fun z135 q136 h137 => ?_
  refine sv_aload_n (pc := 15) dX12_number_15 rfl rfl ?_
  refine mr_iload_n (pc := 16) (z := p1) dX12_number_16 rfl rfl ?_
  refine mr_iload (pc := 17) (z := 1) dX12_number_17 rfl ?_
  refine mr_iadd (pc := 19) (x := p1) (y := 1) dX12_number_19 ?_
  refine mr_cVP (pc := 20) (c_X12_byteAt_f hw hT (rW (c := 0) (d := 2147483647) (rAdd (e := 1) (f := 1001) hp1 (rR (x := 1)) rfl) rfl) q_f_size (vc_X12_number_f2_10 hq0 h105 h132 ht_f_size hp1 h134)) (gOk _ _ _ _ _) dX12_number_20 (tX12_byteAt _ _ _ _ _) ⟨wV_X12_byteAt, wL_X12_byteAt⟩ wM_X12_227 (gCX12 _ _ _ _ _) rfl (A_106 hw) rfl ⟨le_t rfl, le_t rfl⟩ ⟨le_t rfl, le_t rfl⟩ rfl (le_t rfl) fun z142 h141 => ?_
  refine mr_ior (pc := 23) (x := z135) (y := z142) dX12_number_23 ?_
  refine mr_gen (P := fun z => 0 ≤ z ∧ z ≤ 65535) (rOr 16 h137 h141.1 rfl) fun z143 q144 h145 => ?_
  refine mr_istore_n (pc := 24) (lv' := [(3, iv z143), (4, iv 1), (0, .ref 106), (1, iv p1), (2, iv p2)]) dX12_number_24 rfl (by decide) rfl ?_
  refine mr_iinc (pc := 25) (lv' := [(4, iv 2), (3, iv z143), (0, .ref 106), (1, iv p1), (2, iv p2)]) dX12_number_25 rfl (by decide) rfl ?_
  refine sv_goto (pc := 28) (tgt := 5) dX12_number_28 (by decide) ?_
  refine mr_iload (pc := 5) (z := 2) dX12_number_5 rfl ?_
  refine mr_iload_n (pc := 7) (z := p2) dX12_number_7 rfl rfl ?_
  refine mr_icmp_ge (pc := 8) (tgt := 31) dX12_number_8 (by decide) (r32 (rR (x := 2)) rfl) (r32 h134 rfl) (fun _ => ?_) (fun h => ((vc_X12_number_f2_13 h h134)).elim)
  refine mr_iload_n (pc := 31) (z := z143) dX12_number_31 rfl rfl ?_
  exact mr_iretP dX12_number_32 rfl (le_t rfl) (le_t rfl) ⟨h145, (numF.fin (k := (2 : Int)) (numF.succ (n := (1 : Int)) (numF.succ (n := (0 : Int)) numF.zero vc_X12_number_f2_5 q109 (vc_X12_number_f2_6 hq0 h105 ht_f_size hp1 h107) h114.2.1.symm.symm q117) vc_X12_number_f2_11 q136 (vc_X12_number_f2_12 hq0 h105 h132 ht_f_size hp1 h134) h141.2.1.symm.symm q144) (vc_X12_number_f2_14 hq0 h105 h132 ht_f_size hp1 h134)), trivial⟩
theorem vc_X12_isBelow_1 {p1 p2 z1 z4 : Int} (h0 : (z1 - (p1 + (-2147483648))) % 4294967296 = 0) (h1 : (z4 - (p2 + (-2147483648))) % 4294967296 = 0) (h2 : z4 ≤ z1) (h3 : (-2147483648) ≤ p1 ∧ p1 ≤ 2147483647) (h4 : (-2147483648) ≤ p2 ∧ p2 ≤ 2147483647) (h5 : (-2147483648) ≤ z1 ∧ z1 ≤ 2147483647) (h6 : (-2147483648) ≤ z4 ∧ z4 ≤ 2147483647) : (0 : Int) = 1 → p1 % 4294967296 < p2 % 4294967296 := by omega
theorem vc_X12_isBelow_2 {p1 p2 z1 z4 : Int} (h0 : (z1 - (p1 + (-2147483648))) % 4294967296 = 0) (h1 : (z4 - (p2 + (-2147483648))) % 4294967296 = 0) (h2 : z4 ≤ z1) (h3 : (-2147483648) ≤ p1 ∧ p1 ≤ 2147483647) (h4 : (-2147483648) ≤ p2 ∧ p2 ≤ 2147483647) (h5 : (-2147483648) ≤ z1 ∧ z1 ≤ 2147483647) (h6 : (-2147483648) ≤ z4 ∧ z4 ≤ 2147483647) : (0 : Int) = 0 → p2 % 4294967296 ≤ p1 % 4294967296 := by omega
theorem vc_X12_isBelow_3 {p1 p2 z1 z4 : Int} (h0 : z1 < z4) (h1 : (z1 - (p1 + (-2147483648))) % 4294967296 = 0) (h2 : (z4 - (p2 + (-2147483648))) % 4294967296 = 0) (h3 : (-2147483648) ≤ p1 ∧ p1 ≤ 2147483647) (h4 : (-2147483648) ≤ p2 ∧ p2 ≤ 2147483647) (h5 : (-2147483648) ≤ z1 ∧ z1 ≤ 2147483647) (h6 : (-2147483648) ≤ z4 ∧ z4 ≤ 2147483647) : (-2147483648) ≤ z1 ∧ z1 ≤ 2147483646 := by omega
theorem vc_X12_isBelow_4 {p1 p2 z1 z4 : Int} (h0 : z1 < z4) (h1 : (z1 - (p1 + (-2147483648))) % 4294967296 = 0) (h2 : (z4 - (p2 + (-2147483648))) % 4294967296 = 0) (h3 : (-2147483648) ≤ p1 ∧ p1 ≤ 2147483647) (h4 : (-2147483648) ≤ p2 ∧ p2 ≤ 2147483647) (h5 : (-2147483648) ≤ z1 ∧ z1 ≤ 2147483646) (h6 : (-2147483648) ≤ z4 ∧ z4 ≤ 2147483647) : (-2147483647) ≤ z4 ∧ z4 ≤ 2147483647 := by omega
theorem vc_X12_isBelow_5 {p1 p2 z1 z4 : Int} (h0 : (z1 - (p1 + (-2147483648))) % 4294967296 = 0) (h1 : (z4 - (p2 + (-2147483648))) % 4294967296 = 0) (h2 : z1 < z4) (h3 : (-2147483648) ≤ p1 ∧ p1 ≤ 2147483647) (h4 : (-2147483648) ≤ p2 ∧ p2 ≤ 2147483647) (h5 : (-2147483648) ≤ z1 ∧ z1 ≤ 2147483646) (h6 : (-2147483647) ≤ z4 ∧ z4 ≤ 2147483647) : (1 : Int) = 1 → p1 % 4294967296 < p2 % 4294967296 := by omega
theorem vc_X12_isBelow_6 {p1 p2 z1 z4 : Int} (h0 : (z1 - (p1 + (-2147483648))) % 4294967296 = 0) (h1 : (z4 - (p2 + (-2147483648))) % 4294967296 = 0) (h2 : z1 < z4) (h3 : (-2147483648) ≤ p1 ∧ p1 ≤ 2147483647) (h4 : (-2147483648) ≤ p2 ∧ p2 ≤ 2147483647) (h5 : (-2147483648) ≤ z1 ∧ z1 ≤ 2147483646) (h6 : (-2147483647) ≤ z4 ∧ z4 ≤ 2147483647) : (1 : Int) = 0 → p2 % 4294967296 ≤ p1 % 4294967296 := by omega
set_option maxRecDepth 4000 in
set_option maxHeartbeats 4000000 in
theorem c_X12_isBelow {l : Launch} {D : va_G} {c : Nat → ClassId} {H0 : Heap} {sa : Nat × Nat × (Nat → Int32)} {w : mW} {μ : mM} (hw : mWF w) (hT : mT w μ) {p1 : Int} (hp1 : (-2147483648) ≤ p1 ∧ p1 ≤ 2147483647) {p2 : Int} (hp2 : (-2147483648) ≤ p2 ∧ p2 ≤ 2147483647) : sC (gG l D c H0 sa) mX12_isBelow 1 0 0 [iv p1, iv p2] (mk w μ) (qP w μ (fun z => (0 ≤ z ∧ z ≤ 1) ∧ (z = 1 → p1 % 4294967296 < p2 % 4294967296) ∧ (z = 0 → p2 % 4294967296 ≤ p1 % 4294967296) ∧ True)) := by
  refine sC.of rfl (by decide) (le_t rfl) ?_
  refine mr_lvE (lv' := [(0, iv p1), (1, iv p2)]) rfl ?_
  refine mr_iload_n (pc := 0) (z := p1) dX12_isBelow_0 rfl rfl ?_
  refine mr_ldcw (pc := 1) (z := (-2147483648)) dX12_isBelow_1 wG_X12_571 (by decide) ?_
  refine mr_iadd (pc := 4) (x := p1) (y := (-2147483648)) dX12_isBelow_4 ?_
  refine mr_wrapF fun z1 h2 h3 => ?_
  refine mr_iload_n (pc := 5) (z := p2) dX12_isBelow_5 rfl rfl ?_
  refine mr_ldcw (pc := 6) (z := (-2147483648)) dX12_isBelow_6 wG_X12_571 (by decide) ?_
  refine mr_iadd (pc := 9) (x := p2) (y := (-2147483648)) dX12_isBelow_9 ?_
  refine mr_wrapF fun z4 h5 h6 => ?_
  refine mr_icmp_ge (pc := 10) (tgt := 17) dX12_isBelow_10 (by decide) h2 h5 (fun h9 => ?_) (fun h9 => ?_)
  · refine mr_iconst (pc := 17) (z := 0) dX12_isBelow_17 ?_
    exact mr_zretP dX12_isBelow_18 rfl (rW (c := 0) (d := 1) (rR (x := 0)) rfl) (le_t rfl) (le_t rfl) ⟨(rW (c := 0) (d := 1) (rR (x := 0)) rfl), (vc_X12_isBelow_1 h3 h6 h9 hp1 hp2 h2 h5), (vc_X12_isBelow_2 h3 h6 h9 hp1 hp2 h2 h5), trivial⟩
  have h10 : (-2147483648) ≤ z1 ∧ z1 ≤ 2147483646 := (vc_X12_isBelow_3 h9 h3 h6 hp1 hp2 h2 h5)
  have h11 : (-2147483647) ≤ z4 ∧ z4 ≤ 2147483647 := (vc_X12_isBelow_4 h9 h3 h6 hp1 hp2 h10 h5)
  refine mr_iconst (pc := 13) (z := 1) dX12_isBelow_13 ?_
  refine sv_goto (pc := 14) (tgt := 18) dX12_isBelow_14 (by decide) ?_
  exact mr_zretP dX12_isBelow_18 rfl (rW (c := 0) (d := 1) (rR (x := 1)) rfl) (le_t rfl) (le_t rfl) ⟨(rW (c := 0) (d := 1) (rR (x := 1)) rfl), (vc_X12_isBelow_5 h3 h6 h9 hp1 hp2 h10 h11), (vc_X12_isBelow_6 h3 h6 h9 hp1 hp2 h10 h11), trivial⟩
theorem c_X12_wayRight {l : Launch} {D : va_G} {c : Nat → ClassId} {H0 : Heap} {sa : Nat × Nat × (Nat → Int32)} {w : mW} {μ : mM} (hw : mWF w) (hT : mT w μ) {p1 : Int} (hp1 : 0 ≤ p1 ∧ p1 ≤ 1000) {p2 : Int} (hp2 : 0 ≤ p2 ∧ p2 ≤ 1000) {f_size : Int} (q_f_size : μ 106 1 = f_size) (hq0 : p1 + p2 ≤ f_size) : sC (gG l D c H0 sa) mX12_wayRight 4 0 0 [.ref 106, iv p1, iv p2] (mk w μ) (qI w [106099, 126999] μ (fun z μ1 => (0 ≤ z ∧ z ≤ 1) ∧ mG [(964, 986)] μ μ1 ∧ True)) := by
  sorry
theorem vc_X12_originRight_f_1 {f_size p1 p2 : Int} (h0 : p2 = 1) (h1 : p1 + p2 ≤ f_size) (h2 : 0 ≤ f_size ∧ f_size ≤ 1000) (h3 : 0 ≤ p1 ∧ p1 ≤ 1000) (h4 : 0 ≤ p2 ∧ p2 ≤ 1000) : 1 ≤ p2 ∧ p2 ≤ 1 := by omega
theorem vc_X12_originRight_f_2 {f_size p1 z64 : Int} (h0 : z64 ≤ 2) (h1 : 0 ≤ z64 → p1 < f_size) (h2 : p1 < f_size → 0 ≤ z64) (h3 : 0 ≤ f_size ∧ f_size ≤ 1000) (h4 : 0 ≤ p1 ∧ p1 ≤ 1000) (h5 : (-1) ≤ z64 ∧ z64 ≤ 255) : (-1) ≤ z64 ∧ z64 ≤ 2 := by omega
theorem vc_X12_originRight_f_3 {f_size p1 p2 z64 z71 : Int} (h0 : 0 ≤ z71 → p1 < f_size) (h1 : p1 < f_size → 0 ≤ z71) (h2 : p1 + p2 ≤ f_size) (h3 : 0 ≤ z64 → p1 < f_size) (h4 : p1 < f_size → 0 ≤ z64) (h5 : 0 ≤ f_size ∧ f_size ≤ 1000) (h6 : 0 ≤ p1 ∧ p1 ≤ 1000) (h7 : 1 ≤ p2 ∧ p2 ≤ 1) (h8 : (-1) ≤ z64 ∧ z64 ≤ 2) (h9 : (-1) ≤ z71 ∧ z71 ≤ 255) : (-2147483648 ≤ z71 ∧ z71 ≤ 2147483647) ∧ ((962 : Int) % 40 = 0 → -1 ≤ z71 ∧ z71 ≤ 9) ∧ ((962 : Int) % 40 = 4 → 0 ≤ z71 ∧ z71 ≤ 20) ∧ ((962 : Int) % 40 = 5 → 0 ≤ z71 ∧ z71 ≤ 8) := by omega
theorem vc_X12_originRight_f_4  : (0 : Int) ≤ (962 : Int) ∧ (962 : Int) ≤ (962 : Int) ∧ (962 : Int) < (963 : Int) := by omega
theorem vc_X12_originRight_f_5 {f_size p1 z64 : Int} (h0 : 2 < z64) (h1 : 0 ≤ z64 → p1 < f_size) (h2 : p1 < f_size → 0 ≤ z64) (h3 : 0 ≤ f_size ∧ f_size ≤ 1000) (h4 : 0 ≤ p1 ∧ p1 ≤ 1000) (h5 : (-1) ≤ z64 ∧ z64 ≤ 255) : 3 ≤ z64 ∧ z64 ≤ 255 := by omega
set_option maxRecDepth 4000 in
set_option maxHeartbeats 4000000 in
theorem c_X12_originRight_f {l : Launch} {D : va_G} {c : Nat → ClassId} {H0 : Heap} {sa : Nat × Nat × (Nat → Int32)} {w : mW} {μ : mM} (hw : mWF w) (hT : mT w μ) {p1 : Int} (hp1 : 0 ≤ p1 ∧ p1 ≤ 1000) {p2 : Int} (hp2 : 0 ≤ p2 ∧ p2 ≤ 1000) {f_size : Int} (q_f_size : μ 106 1 = f_size) (hq0 : p1 + p2 ≤ f_size) : sC (gG l D c H0 sa) mX12_originRight 2 0 0 [.ref 106, iv p1, iv p2] (mk w μ) (qI w [106098, 126999] μ (fun z μ1 => (0 ≤ z ∧ z ≤ 1) ∧ mG [(962, 963)] μ μ1 ∧ True)) := by
  refine sC.of rfl (by decide) (le_t rfl) ?_
  have ht_f_size : (0 ≤ f_size ∧ f_size ≤ 1000) := by rw [← q_f_size]; exact hT 106 106 (A_106 hw) 1
  refine mr_lvE (lv' := [(0, .ref 106), (1, iv p1), (2, iv p2)]) rfl ?_
  refine mr_iload_n (pc := 0) (z := p2) dX12_originRight_0 rfl rfl ?_
  refine mr_iconst (pc := 1) (z := 1) dX12_originRight_1 ?_
  refine mr_icmp_ne (pc := 2) (tgt := 14) dX12_originRight_2 (by decide) (r32 hp2 rfl) (r32 (rR (x := 1)) rfl) (fun h58 => ?_) (fun h58 => ?_)
  · refine mr_iconst (pc := 14) (z := 0) dX12_originRight_14 ?_
    exact mr_zret dX12_originRight_15 rfl (rW (c := 0) (d := 1) (rR (x := 0)) rfl) (le_t rfl) (le_t rfl) hT mF.refl ⟨(rW (c := 0) (d := 1) (rR (x := 0)) rfl), mG.refl, trivial⟩
  have h59 : 1 ≤ p2 ∧ p2 ≤ 1 := (vc_X12_originRight_f_1 h58 hq0 ht_f_size hp1 hp2)
  refine sv_aload_n (pc := 5) dX12_originRight_5 rfl rfl ?_
  refine mr_iload_n (pc := 6) (z := p1) dX12_originRight_6 rfl rfl ?_
  refine mr_cVP (pc := 7) (c_X12_byteAt hw hT (rW (c := 0) (d := 2147483647) hp1 rfl) q_f_size) (gOk _ _ _ _ _) dX12_originRight_7 (tX12_byteAt _ _ _ _ _) ⟨wV_X12_byteAt, wL_X12_byteAt⟩ wM_X12_227 (gCX12 _ _ _ _ _) rfl (A_106 hw) rfl ⟨le_t rfl, le_t rfl⟩ ⟨le_t rfl, le_t rfl⟩ rfl (le_t rfl) fun z64 h63 => ?_
  refine mr_iconst (pc := 10) (z := 2) dX12_originRight_10 ?_
  refine mr_icmp_le (pc := 11) (tgt := 16) dX12_originRight_11 (by decide) (r32 h63.1 rfl) (r32 (rR (x := 2)) rfl) (fun h65 => ?_) (fun h65 => ?_)
  · have h66 : (-1) ≤ z64 ∧ z64 ≤ 2 := (vc_X12_originRight_f_2 h65 h63.2.1 h63.2.2.1 ht_f_size hp1 h63.1)
    refine sv_aload_n (pc := 16) dX12_originRight_16 rfl rfl ?_
    refine gf_X12_32 (pc := 17) dX12_originRight_17 wF_X12_148 (A_106 hw) hT ?_
    refine mr_sipush (pc := 20) (z := 962) dX12_originRight_20 (by decide) ?_
    refine sv_aload_n (pc := 23) dX12_originRight_23 rfl rfl ?_
    refine mr_iload_n (pc := 24) (z := p1) dX12_originRight_24 rfl rfl ?_
    refine mr_cVP (pc := 25) (c_X12_byteAt hw hT (rW (c := 0) (d := 2147483647) hp1 rfl) q_f_size) (gOk _ _ _ _ _) dX12_originRight_25 (tX12_byteAt _ _ _ _ _) ⟨wV_X12_byteAt, wL_X12_byteAt⟩ wM_X12_227 (gCX12 _ _ _ _ _) rfl (A_106 hw) rfl ⟨le_t rfl, le_t rfl⟩ ⟨le_t rfl, le_t rfl⟩ rfl (le_t rfl) fun z71 h70 => ?_
    refine ss_126 (pc := 28) dX12_originRight_28 (A_126 hw) hT (rIx (n := 84000) (rR (x := 962)) rfl) (vc_X12_originRight_f_3 h70.2.1 h70.2.2.1 hq0 h63.2.1 h63.2.2.1 ht_f_size hp1 h59 h66 h70.1) fun μ72 u73 T74 => ?_
    refine sv_aload_n (pc := 29) dX12_originRight_29 rfl rfl ?_
    refine mr_iconst (pc := 30) (z := 1) dX12_originRight_30 ?_
    refine pf_X12_98 (pc := 31) dX12_originRight_31 wF_X12_631 (A_106 hw) T74 (rW (c := 0) (d := 1) (rR (x := 1)) rfl) fun μ75 u76 T77 => ?_
    refine mr_iconst (pc := 34) (z := 1) dX12_originRight_34 ?_
    exact mr_zret dX12_originRight_35 rfl (rW (c := 0) (d := 1) (rR (x := 1)) rfl) (le_t rfl) (le_t rfl) T77 (mF.up (mF.up mF.refl (A_126 hw) u73 rfl) (A_106 hw) u76 rfl) ⟨(rW (c := 0) (d := 1) (rR (x := 1)) rfl), (mG.upO (mG.up mG.refl u73 List.mem_cons_self vc_X12_originRight_f_4) u76 rfl), trivial⟩
  have h78 : 3 ≤ z64 ∧ z64 ≤ 255 := (vc_X12_originRight_f_5 h65 h63.2.1 h63.2.2.1 ht_f_size hp1 h63.1)
  refine mr_iconst (pc := 14) (z := 0) dX12_originRight_14 ?_
  exact mr_zret dX12_originRight_15 rfl (rW (c := 0) (d := 1) (rR (x := 0)) rfl) (le_t rfl) (le_t rfl) hT mF.refl ⟨(rW (c := 0) (d := 1) (rR (x := 0)) rfl), mG.refl, trivial⟩
theorem vc_X12_costRight_f_1 {f_size p1 p2 : Int} (h0 : p2 = 4) (h1 : p1 + p2 ≤ f_size) (h2 : 0 ≤ f_size ∧ f_size ≤ 1000) (h3 : 0 ≤ p1 ∧ p1 ≤ 1000) (h4 : 0 ≤ p2 ∧ p2 ≤ 1000) : 4 ≤ p2 ∧ p2 ≤ 4 := by omega
theorem vc_X12_costRight_f_2 {f_size p1 p2 : Int} (h0 : p1 + p2 ≤ f_size) (h1 : p2 = 4) (h2 : 0 ≤ f_size ∧ f_size ≤ 1000) (h3 : 0 ≤ p1 ∧ p1 ≤ 1000) (h4 : 4 ≤ p2 ∧ p2 ≤ 4) : p1 + (4 : Int) ≤ f_size := by omega
theorem vc_X12_costRight_f_3 {z64 : Int} (h0 : z64 < 0) (h1 : (4 : Int) ≤ 2 → 0 ≤ z64 ∧ z64 ≤ 65535) (h2 : (-2147483648) ≤ z64 ∧ z64 ≤ 2147483647) : (-2147483648) ≤ z64 ∧ z64 ≤ (-1) := by omega
theorem vc_X12_costRight_f_4  : (-(2147483648 : Int) ≤ ((1000000 : Int) : Int) ∧ ((1000000 : Int) : Int) ≤ (2147483647 : Int)) ∧ (((963 : Int) : Int) % (40 : Int) = (0 : Int) → -(1 : Int) ≤ ((1000000 : Int) : Int) ∧ ((1000000 : Int) : Int) ≤ (9 : Int)) ∧ (((963 : Int) : Int) % (40 : Int) = (4 : Int) → (0 : Int) ≤ ((1000000 : Int) : Int) ∧ ((1000000 : Int) : Int) ≤ (20 : Int)) ∧ (((963 : Int) : Int) % (40 : Int) = (5 : Int) → (0 : Int) ≤ ((1000000 : Int) : Int) ∧ ((1000000 : Int) : Int) ≤ (8 : Int)) := by omega
theorem vc_X12_costRight_f_5  : (0 : Int) ≤ (963 : Int) ∧ (963 : Int) ≤ (963 : Int) ∧ (963 : Int) < (964 : Int) := by omega
theorem vc_X12_costRight_f_6 {z64 : Int} (h0 : 0 ≤ z64) (h1 : (4 : Int) ≤ 2 → 0 ≤ z64 ∧ z64 ≤ 65535) (h2 : (-2147483648) ≤ z64 ∧ z64 ≤ 2147483647) : 0 ≤ z64 ∧ z64 ≤ 2147483647 := by omega
theorem vc_X12_costRight_f_7 {z64 : Int} (h0 : z64 ≤ 1000000) (h1 : (4 : Int) ≤ 2 → 0 ≤ z64 ∧ z64 ≤ 65535) (h2 : 0 ≤ z64) (h3 : 0 ≤ z64 ∧ z64 ≤ 2147483647) : 0 ≤ z64 ∧ z64 ≤ 1000000 := by omega
theorem vc_X12_costRight_f_8 {z64 : Int} (h0 : (4 : Int) ≤ 2 → 0 ≤ z64 ∧ z64 ≤ 65535) (h1 : 0 ≤ z64) (h2 : z64 ≤ 1000000) (h3 : 0 ≤ z64 ∧ z64 ≤ 1000000) : (-2147483648 ≤ z64 ∧ z64 ≤ 2147483647) ∧ ((963 : Int) % 40 = 0 → -1 ≤ z64 ∧ z64 ≤ 9) ∧ ((963 : Int) % 40 = 4 → 0 ≤ z64 ∧ z64 ≤ 20) ∧ ((963 : Int) % 40 = 5 → 0 ≤ z64 ∧ z64 ≤ 8) := by omega
theorem vc_X12_costRight_f_9 {z64 : Int} (h0 : 1000000 < z64) (h1 : (4 : Int) ≤ 2 → 0 ≤ z64 ∧ z64 ≤ 65535) (h2 : 0 ≤ z64) (h3 : 0 ≤ z64 ∧ z64 ≤ 2147483647) : 1000001 ≤ z64 ∧ z64 ≤ 2147483647 := by omega
set_option maxRecDepth 4000 in
set_option maxHeartbeats 4000000 in
theorem c_X12_costRight_f {l : Launch} {D : va_G} {c : Nat → ClassId} {H0 : Heap} {sa : Nat × Nat × (Nat → Int32)} {w : mW} {μ : mM} (hw : mWF w) (hT : mT w μ) {p1 : Int} (hp1 : 0 ≤ p1 ∧ p1 ≤ 1000) {p2 : Int} (hp2 : 0 ≤ p2 ∧ p2 ≤ 1000) {f_size : Int} (q_f_size : μ 106 1 = f_size) (hq0 : p1 + p2 ≤ f_size) : sC (gG l D c H0 sa) mX12_costRight 3 0 0 [.ref 106, iv p1, iv p2] (mk w μ) (qI w [126999] μ (fun z μ1 => (0 ≤ z ∧ z ≤ 1) ∧ mG [(963, 964)] μ μ1 ∧ True)) := by
  refine sC.of rfl (by decide) (le_t rfl) ?_
  have ht_f_size : (0 ≤ f_size ∧ f_size ≤ 1000) := by rw [← q_f_size]; exact hT 106 106 (A_106 hw) 1
  refine mr_lvE (lv' := [(0, .ref 106), (1, iv p1), (2, iv p2)]) rfl ?_
  refine mr_iload_n (pc := 0) (z := p2) dX12_costRight_0 rfl rfl ?_
  refine mr_iconst (pc := 1) (z := 4) dX12_costRight_1 ?_
  refine mr_icmp_eq (pc := 2) (tgt := 7) dX12_costRight_2 (by decide) (r32 hp2 rfl) (r32 (rR (x := 4)) rfl) (fun h58 => ?_) (fun h58 => ?_)
  · have h59 : 4 ≤ p2 ∧ p2 ≤ 4 := (vc_X12_costRight_f_1 h58 hq0 ht_f_size hp1 hp2)
    refine sv_aload_n (pc := 7) dX12_costRight_7 rfl rfl ?_
    refine mr_iload_n (pc := 8) (z := p1) dX12_costRight_8 rfl rfl ?_
    refine mr_iconst (pc := 9) (z := 4) dX12_costRight_9 ?_
    refine mr_cVP (pc := 10) (c_X12_number hw hT hp1 (rW (c := 0) (d := 4) (rR (x := 4)) rfl) q_f_size (vc_X12_costRight_f_2 hq0 h58 ht_f_size hp1 h59)) (gOk _ _ _ _ _) dX12_costRight_10 (tX12_number _ _ _ _ _) ⟨wV_X12_number, wL_X12_number⟩ wM_X12_623 (gCX12 _ _ _ _ _) rfl (A_106 hw) rfl ⟨le_t rfl, le_t rfl⟩ ⟨le_t rfl, le_t rfl⟩ rfl (le_t rfl) fun z64 h63 => ?_
    refine mr_istore_n (pc := 13) (lv' := [(3, iv z64), (0, .ref 106), (1, iv p1), (2, iv p2)]) dX12_costRight_13 rfl (by decide) rfl ?_
    refine sv_aload_n (pc := 14) dX12_costRight_14 rfl rfl ?_
    refine gf_X12_32 (pc := 15) dX12_costRight_15 wF_X12_148 (A_106 hw) hT ?_
    refine mr_sipush (pc := 18) (z := 963) dX12_costRight_18 (by decide) ?_
    refine mr_iload_n (pc := 21) (z := z64) dX12_costRight_21 rfl rfl ?_
    refine mr_if_lt (pc := 22) (tgt := 32) dX12_costRight_22 (by decide) h63.1 (fun h69 => ?_) (fun h69 => ?_)
    · have h70 : (-2147483648) ≤ z64 ∧ z64 ≤ (-1) := (vc_X12_costRight_f_3 h69 h63.2.1 h63.1)
      refine mr_ldcw (pc := 32) (z := 1000000) dX12_costRight_32 wG_X12_291 (by decide) ?_
      refine sv_goto (pc := 35) (tgt := 39) dX12_costRight_35 (by decide) ?_
      refine ss_126 (pc := 39) dX12_costRight_39 (A_126 hw) hT (rIx (n := 84000) (rR (x := 963)) rfl) vc_X12_costRight_f_4 fun μ71 u72 T73 => ?_
      refine mr_iconst (pc := 40) (z := 1) dX12_costRight_40 ?_
      exact mr_zret dX12_costRight_41 rfl (rW (c := 0) (d := 1) (rR (x := 1)) rfl) (le_t rfl) (le_t rfl) T73 (mF.up mF.refl (A_126 hw) u72 rfl) ⟨(rW (c := 0) (d := 1) (rR (x := 1)) rfl), (mG.up mG.refl u72 List.mem_cons_self vc_X12_costRight_f_5), trivial⟩
    have h74 : 0 ≤ z64 ∧ z64 ≤ 2147483647 := (vc_X12_costRight_f_6 h69 h63.2.1 h63.1)
    refine mr_iload_n (pc := 25) (z := z64) dX12_costRight_25 rfl rfl ?_
    refine mr_ldcw (pc := 26) (z := 1000000) dX12_costRight_26 wG_X12_291 (by decide) ?_
    refine mr_icmp_le (pc := 29) (tgt := 38) dX12_costRight_29 (by decide) (r32 h74 rfl) (r32 (rR (x := 1000000)) rfl) (fun h77 => ?_) (fun h77 => ?_)
    · have h78 : 0 ≤ z64 ∧ z64 ≤ 1000000 := (vc_X12_costRight_f_7 h77 h63.2.1 h69 h74)
      refine mr_iload_n (pc := 38) (z := z64) dX12_costRight_38 rfl rfl ?_
      refine ss_126 (pc := 39) dX12_costRight_39 (A_126 hw) hT (rIx (n := 84000) (rR (x := 963)) rfl) (vc_X12_costRight_f_8 h63.2.1 h69 h77 h78) fun μ79 u80 T81 => ?_
      refine mr_iconst (pc := 40) (z := 1) dX12_costRight_40 ?_
      exact mr_zret dX12_costRight_41 rfl (rW (c := 0) (d := 1) (rR (x := 1)) rfl) (le_t rfl) (le_t rfl) T81 (mF.up mF.refl (A_126 hw) u80 rfl) ⟨(rW (c := 0) (d := 1) (rR (x := 1)) rfl), (mG.up mG.refl u80 List.mem_cons_self vc_X12_costRight_f_5), trivial⟩
    have h82 : 1000001 ≤ z64 ∧ z64 ≤ 2147483647 := (vc_X12_costRight_f_9 h77 h63.2.1 h69 h74)
    refine mr_ldcw (pc := 32) (z := 1000000) dX12_costRight_32 wG_X12_291 (by decide) ?_
    refine sv_goto (pc := 35) (tgt := 39) dX12_costRight_35 (by decide) ?_
    refine ss_126 (pc := 39) dX12_costRight_39 (A_126 hw) hT (rIx (n := 84000) (rR (x := 963)) rfl) vc_X12_costRight_f_4 fun μ83 u84 T85 => ?_
    refine mr_iconst (pc := 40) (z := 1) dX12_costRight_40 ?_
    exact mr_zret dX12_costRight_41 rfl (rW (c := 0) (d := 1) (rR (x := 1)) rfl) (le_t rfl) (le_t rfl) T85 (mF.up mF.refl (A_126 hw) u84 rfl) ⟨(rW (c := 0) (d := 1) (rR (x := 1)) rfl), (mG.up mG.refl u84 List.mem_cons_self vc_X12_costRight_f_5), trivial⟩
  refine mr_iconst (pc := 5) (z := 0) dX12_costRight_5 ?_
  exact mr_zret dX12_costRight_6 rfl (rW (c := 0) (d := 1) (rR (x := 0)) rfl) (le_t rfl) (le_t rfl) hT mF.refl ⟨(rW (c := 0) (d := 1) (rR (x := 0)) rfl), mG.refl, trivial⟩
theorem vc_X12_marksRight_f_1  : (0 : Int) < (4 : Int) ∧ (4 : Int) ≤ (2147483647 : Int) := by omega
theorem vc_X12_marksRight_f_2 {p2 z432 : Int} (h0 : z432 = 0) (h1 : p2 % 4 = z432) (h2 : 0 ≤ p2 ∧ p2 ≤ 1000) (h3 : 0 ≤ z432 ∧ z432 ≤ 3) : 0 ≤ z432 ∧ z432 ≤ 0 := by omega
theorem vc_X12_marksRight_f_3 {z725 : Int} (h0 : (1004 - z725) < ((0 : Nat) : Int)) (h1 : z725 % 4 = 0) (h2 : 0 ≤ z725 ∧ z725 ≤ 1003) : False := by omega
theorem vc_X12_marksRight_f_4  : (961 : Int) ≤ (961 : Int) ∧ (1000 : Int) ≤ (1000 : Int) := by omega
theorem vc_X12_marksRight_f_5 {f_size p1 p2 z432 z725 : Int} (h0 : z725 < p2) (h1 : p1 + p2 ≤ f_size) (h2 : p2 % 4 = z432) (h3 : z725 % 4 = 0) (h4 : 0 ≤ f_size ∧ f_size ≤ 1000) (h5 : 0 ≤ p1 ∧ p1 ≤ 1000) (h6 : 0 ≤ p2 ∧ p2 ≤ 1000) (h7 : 0 ≤ z432 ∧ z432 ≤ 0) (h8 : 0 ≤ z725 ∧ z725 ≤ 1003) : 0 ≤ z725 ∧ z725 ≤ 999 := by omega
theorem vc_X12_marksRight_f_6 {f_size p1 p2 z432 z725 : Int} (h0 : z725 < p2) (h1 : p1 + p2 ≤ f_size) (h2 : p2 % 4 = z432) (h3 : z725 % 4 = 0) (h4 : 0 ≤ f_size ∧ f_size ≤ 1000) (h5 : 0 ≤ p1 ∧ p1 ≤ 1000) (h6 : 0 ≤ p2 ∧ p2 ≤ 1000) (h7 : 0 ≤ z432 ∧ z432 ≤ 0) (h8 : 0 ≤ z725 ∧ z725 ≤ 999) : 1 ≤ p2 ∧ p2 ≤ 1000 := by omega
theorem vc_X12_marksRight_f_7 {f_size p1 p2 z432 z725 : Int} (h0 : p1 + p2 ≤ f_size) (h1 : z725 % 4 = 0) (h2 : z725 < p2) (h3 : p2 % 4 = z432) (h4 : 0 ≤ f_size ∧ f_size ≤ 1000) (h5 : 0 ≤ p1 ∧ p1 ≤ 1000) (h6 : 1 ≤ p2 ∧ p2 ≤ 1000) (h7 : 0 ≤ z432 ∧ z432 ≤ 0) (h8 : 0 ≤ z725 ∧ z725 ≤ 999) : 0 ≤ ((p1 + z725) + 2) ∧ ((p1 + z725) + 2) ≤ 1000 := by omega
theorem vc_X12_marksRight_f_8 {f_size p1 p2 z432 z725 : Int} (h0 : p1 + p2 ≤ f_size) (h1 : z725 % 4 = 0) (h2 : z725 < p2) (h3 : p2 % 4 = z432) (h4 : 0 ≤ f_size ∧ f_size ≤ 1000) (h5 : 0 ≤ p1 ∧ p1 ≤ 1000) (h6 : 1 ≤ p2 ∧ p2 ≤ 1000) (h7 : 0 ≤ z432 ∧ z432 ≤ 0) (h8 : 0 ≤ z725 ∧ z725 ≤ 999) : ((p1 + z725) + 2) + (2 : Int) ≤ f_size := by omega
theorem vc_X12_marksRight_f_9 {z772 : Int} (h0 : 8 ≤ z772) (h1 : 0 ≤ z772 ∧ z772 ≤ 8) : 8 ≤ z772 ∧ z772 ≤ 8 := by omega
theorem vc_X12_marksRight_f_10 {f_size p1 p2 z432 z725 : Int} (h0 : z725 % 4 = 0) (h1 : z725 < p2) (h2 : p1 + p2 ≤ f_size) (h3 : p2 % 4 = z432) (h4 : 0 ≤ f_size ∧ f_size ≤ 1000) (h5 : 0 ≤ p1 ∧ p1 ≤ 1000) (h6 : 1 ≤ p2 ∧ p2 ≤ 1000) (h7 : 0 ≤ z432 ∧ z432 ≤ 0) (h8 : 0 ≤ z725 ∧ z725 ≤ 999) : (z725 + 4) % 4 = 0 := by omega
theorem vc_X12_marksRight_f_11 {N f_size p1 p2 z432 z725 : Int} (h0 : (1004 - z725) < N + 1) (h1 : z725 % 4 = 0) (h2 : z725 < p2) (h3 : p1 + p2 ≤ f_size) (h4 : p2 % 4 = z432) (h5 : 0 ≤ f_size ∧ f_size ≤ 1000) (h6 : 0 ≤ p1 ∧ p1 ≤ 1000) (h7 : 1 ≤ p2 ∧ p2 ≤ 1000) (h8 : 0 ≤ z432 ∧ z432 ≤ 0) (h9 : 0 ≤ z725 ∧ z725 ≤ 999) : (1004 - (z725 + 4)) < N := by omega
theorem vc_X12_marksRight_f_12 {z772 : Int} (h0 : z772 < 8) (h1 : 0 ≤ z772 ∧ z772 ≤ 8) : 0 ≤ z772 ∧ z772 ≤ 7 := by omega
theorem vc_X12_marksRight_f_13 {z801 : Int} (h0 : ¬ z801 = 0) (h1 : 0 ≤ z801 ∧ z801 ≤ 1) : 1 ≤ z801 ∧ z801 ≤ 1 := by omega
theorem vc_X12_marksRight_f_14 {z801 : Int} (h0 : z801 = 0) (h1 : 0 ≤ z801 ∧ z801 ≤ 1) : 0 ≤ z801 ∧ z801 ≤ 0 := by omega
theorem vc_X12_marksRight_f_15  : (961 : Int) ≤ (((40 : Int) * (24 : Int)) + (1 : Int)) ∧ (((40 : Int) * (24 : Int)) + (40 : Int)) ≤ (1000 : Int) := by omega
theorem vc_X12_marksRight_f_16  : ((0 : Int) : Int) % (4 : Int) = (0 : Int) := by omega
theorem vc_X12_marksRight_f_17  : (1004 - 0) < ((1005 : Nat) : Int) := by omega
theorem vc_X12_marksRight_f_18 {p2 z432 : Int} (h0 : ¬ z432 = 0) (h1 : p2 % 4 = z432) (h2 : 0 ≤ p2 ∧ p2 ≤ 1000) (h3 : 0 ≤ z432 ∧ z432 ≤ 3) : 1 ≤ z432 ∧ z432 ≤ 3 := by omega
set_option maxRecDepth 4000 in
set_option maxHeartbeats 4000000 in
theorem c_X12_marksRight_f {l : Launch} {D : va_G} {c : Nat → ClassId} {H0 : Heap} {sa : Nat × Nat × (Nat → Int32)} {w : mW} {μ : mM} (hw : mWF w) (hT : mT w μ) {p1 : Int} (hp1 : 0 ≤ p1 ∧ p1 ≤ 1000) {p2 : Int} (hp2 : 0 ≤ p2 ∧ p2 ≤ 1000) {f_size : Int} (q_f_size : μ 106 1 = f_size) (hq0 : p1 + p2 ≤ f_size) : sC (gG l D c H0 sa) mX12_marksRight 3 0 0 [.ref 106, iv p1, iv p2] (mk w μ) (qI w [106101, 126999, 173999] μ (fun z μ1 => (0 ≤ z ∧ z ≤ 1) ∧ mG [(961, 1000)] μ μ1 ∧ True)) := by
  refine sC.of rfl (by decide) (le_t rfl) ?_
  have ht_f_size : (0 ≤ f_size ∧ f_size ≤ 1000) := by rw [← q_f_size]; exact hT 106 106 (A_106 hw) 1
  refine mr_lvE (lv' := [(0, .ref 106), (1, iv p1), (2, iv p2)]) rfl ?_
  refine mr_iload_n (pc := 0) (z := p2) dX12_marksRight_0 rfl rfl ?_
  refine mr_iconst (pc := 1) (z := 4) dX12_marksRight_1 ?_
  refine mr_irem (pc := 2) (x := p2) (y := 4) dX12_marksRight_2 (rW (c := 0) (d := 2147483647) hp2 rfl) vc_X12_marksRight_f_1 ?_
  refine mr_gen (P := fun z => 0 ≤ z ∧ z ≤ 3) (rMod hp2 rfl) fun z432 q433 h434 => ?_
  refine mr_if_eq (pc := 3) (tgt := 8) dX12_marksRight_3 (by decide) (r32 h434 rfl) (fun h435 => ?_) (fun h435 => ?_)
  · have h436 : 0 ≤ z432 ∧ z432 ≤ 0 := (vc_X12_marksRight_f_2 h435 q433 hp2 h434)
    refine mr_iconst (pc := 8) (z := 0) dX12_marksRight_8 ?_
    refine mr_istore_n (pc := 9) (lv' := [(3, iv 0), (0, .ref 106), (1, iv p1), (2, iv p2)]) dX12_marksRight_9 rfl (by decide) rfl ?_
    have L727 : ∀ (nL727 : Nat) (z725 : Int) (μ726 : mM), mT w μ726 → mF [106101, 126999, 173999] w μ μ726 → mG [(961, 1000)] μ μ726 → (0 ≤ z725 ∧ z725 ≤ 1003) → (z725 % 4 = 0) → (1004 - z725) < (nL727 : Int) → sV (gG l D c H0 sa) mX12_marksRight (sRm 3 0 0) (sZ (gG l D c H0 sa) 0 0 (qI w [106101, 126999, 173999] μ (fun z μ1 => (0 ≤ z ∧ z ≤ 1) ∧ mG [(961, 1000)] μ μ1 ∧ True))) 10 [(0, .ref 106), (1, iv p1), (2, iv p2), (3, iv z725)] [] (mk w μ726) 0 0 := by
      intro nL727
      induction nL727 with
      | zero => intro z725 μ726 T729 F730 G731 h728 h732 h733; exact ((vc_X12_marksRight_f_3 h733 h732 h728)).elim
      | succ nL727 ih734 =>
        intro z725 μ726 T729 F730 G731 h728 h732 h733
        refine mr_iload_n (pc := 10) (z := z725) dX12_marksRight_10 rfl rfl ?_
        refine mr_iload_n (pc := 11) (z := p2) dX12_marksRight_11 rfl rfl ?_
        refine mr_icmp_ge (pc := 12) (tgt := 82) dX12_marksRight_12 (by decide) (r32 h728 rfl) (r32 hp2 rfl) (fun h764 => ?_) (fun h764 => ?_)
        · refine mr_iconst (pc := 82) (z := 1) dX12_marksRight_82 ?_
          exact mr_zret dX12_marksRight_83 rfl (rW (c := 0) (d := 1) (rR (x := 1)) rfl) (le_t rfl) (le_t rfl) T729 (mF.call mF.refl F730 rfl) ⟨(rW (c := 0) (d := 1) (rR (x := 1)) rfl), (mG.call mG.refl G731 (List.forall_mem_cons.mpr ⟨⟨_, List.mem_cons_self, vc_X12_marksRight_f_4⟩, (fun _ h => absurd h List.not_mem_nil)⟩)), trivial⟩
        have h765 : 0 ≤ z725 ∧ z725 ≤ 999 := (vc_X12_marksRight_f_5 h764 hq0 q433 h732 ht_f_size hp1 hp2 h436 h728)
        have h766 : 1 ≤ p2 ∧ p2 ≤ 1000 := (vc_X12_marksRight_f_6 h764 hq0 q433 h732 ht_f_size hp1 hp2 h436 h765)
        refine sv_aload_n (pc := 15) dX12_marksRight_15 rfl rfl ?_
        refine mr_iload_n (pc := 16) (z := p1) dX12_marksRight_16 rfl rfl ?_
        refine mr_iload_n (pc := 17) (z := z725) dX12_marksRight_17 rfl rfl ?_
        refine mr_iadd (pc := 18) (x := p1) (y := z725) dX12_marksRight_18 ?_
        refine mr_iconst (pc := 19) (z := 2) dX12_marksRight_19 ?_
        refine mr_iadd (pc := 20) (x := (p1 + z725)) (y := 2) dX12_marksRight_20 ?_
        refine mr_iconst (pc := 21) (z := 2) dX12_marksRight_21 ?_
        refine mr_cVP (pc := 22) (c_X12_number hw T729 (vc_X12_marksRight_f_7 hq0 h732 h764 q433 ht_f_size hp1 h766 h436 h765) (rW (c := 0) (d := 4) (rR (x := 2)) rfl) (F730.f (A_106 hw) rfl q_f_size) (vc_X12_marksRight_f_8 hq0 h732 h764 q433 ht_f_size hp1 h766 h436 h765)) (gOk _ _ _ _ _) dX12_marksRight_22 (tX12_number _ _ _ _ _) ⟨wV_X12_number, wL_X12_number⟩ wM_X12_623 (gCX12 _ _ _ _ _) rfl (A_106 hw) rfl ⟨le_t rfl, le_t rfl⟩ ⟨le_t rfl, le_t rfl⟩ rfl (le_t rfl) fun z771 h770 => ?_
        refine mr_istore (pc := 25) (lv' := [(4, iv z771), (0, .ref 106), (1, iv p1), (2, iv p2), (3, iv z725)]) dX12_marksRight_25 (by decide) rfl ?_
        refine sv_aload_n (pc := 27) dX12_marksRight_27 rfl rfl ?_
        refine gf_X12_101 (pc := 28) dX12_marksRight_28 wF_X12_637 (A_106 hw) T729 fun z772 q773 h774 => ?_
        refine mr_bipush (pc := 31) (z := 8) dX12_marksRight_31 (by decide) ?_
        refine mr_icmp_ge (pc := 33) (tgt := 76) dX12_marksRight_33 (by decide) (r32 h774 rfl) (r32 (rR (x := 8)) rfl) (fun h794 => ?_) (fun h794 => ?_)
        · have h795 : 8 ≤ z772 ∧ z772 ≤ 8 := (vc_X12_marksRight_f_9 h794 h774)
          refine mr_iinc (pc := 76) (lv' := [(3, iv (z725 + 4)), (4, iv z771), (0, .ref 106), (1, iv p1), (2, iv p2)]) dX12_marksRight_76 rfl (by decide) rfl ?_
          refine sv_goto (pc := 79) (tgt := 10) dX12_marksRight_79 (by decide) ?_
          refine mr_lvS (lv' := [(0, .ref 106), (1, iv p1), (2, iv p2), (3, iv (z725 + 4))]) (List.forall_mem_cons.mpr ⟨rfl, List.forall_mem_cons.mpr ⟨rfl, List.forall_mem_cons.mpr ⟨rfl, List.forall_mem_cons.mpr ⟨rfl, fun _ h => absurd h List.not_mem_nil⟩⟩⟩⟩) ?_
          exact ih734 (z725 + 4) μ726 T729 (mF.call mF.refl F730 rfl) (mG.call mG.refl G731 (List.forall_mem_cons.mpr ⟨⟨_, List.mem_cons_self, vc_X12_marksRight_f_4⟩, (fun _ h => absurd h List.not_mem_nil)⟩)) (rW (c := 0) (d := 1003) (rAdd (e := 4) (f := 1003) h765 (rR (x := 4)) rfl) rfl) (vc_X12_marksRight_f_10 h732 h764 hq0 q433 ht_f_size hp1 h766 h436 h765) (vc_X12_marksRight_f_11 (nS h733) h732 h764 hq0 q433 ht_f_size hp1 h766 h436 h765)
        have h796 : 0 ≤ z772 ∧ z772 ≤ 7 := (vc_X12_marksRight_f_12 h794 h774)
        refine sv_aload_n (pc := 36) dX12_marksRight_36 rfl rfl ?_
        refine mr_bipush (pc := 37) (z := 24) dX12_marksRight_37 (by decide) ?_
        refine mr_iload (pc := 39) (z := z771) dX12_marksRight_39 rfl ?_
        refine mr_cVP (pc := 41) (c_X12_marked hw T729 (rW (c := 0) (d := 2099) (rR (x := 24)) rfl) h770.1) (gOk _ _ _ _ _) dX12_marksRight_41 (tX12_marked _ _ _ _ _) ⟨wV_X12_marked, wL_X12_marked⟩ wM_X12_154 (gCX12 _ _ _ _ _) rfl (A_106 hw) rfl ⟨le_t rfl, le_t rfl⟩ ⟨le_t rfl, le_t rfl⟩ rfl (le_t rfl) fun z801 h800 => ?_
        refine mr_if_ne (pc := 44) (tgt := 76) dX12_marksRight_44 (by decide) (r32 h800.1 rfl) (fun h814 => ?_) (fun h814 => ?_)
        · have h815 : 1 ≤ z801 ∧ z801 ≤ 1 := (vc_X12_marksRight_f_13 h814 h800.1)
          refine mr_iinc (pc := 76) (lv' := [(3, iv (z725 + 4)), (4, iv z771), (0, .ref 106), (1, iv p1), (2, iv p2)]) dX12_marksRight_76 rfl (by decide) rfl ?_
          refine sv_goto (pc := 79) (tgt := 10) dX12_marksRight_79 (by decide) ?_
          refine mr_lvS (lv' := [(0, .ref 106), (1, iv p1), (2, iv p2), (3, iv (z725 + 4))]) (List.forall_mem_cons.mpr ⟨rfl, List.forall_mem_cons.mpr ⟨rfl, List.forall_mem_cons.mpr ⟨rfl, List.forall_mem_cons.mpr ⟨rfl, fun _ h => absurd h List.not_mem_nil⟩⟩⟩⟩) ?_
          exact ih734 (z725 + 4) μ726 T729 (mF.call mF.refl F730 rfl) (mG.call mG.refl G731 (List.forall_mem_cons.mpr ⟨⟨_, List.mem_cons_self, vc_X12_marksRight_f_4⟩, (fun _ h => absurd h List.not_mem_nil)⟩)) (rW (c := 0) (d := 1003) (rAdd (e := 4) (f := 1003) h765 (rR (x := 4)) rfl) rfl) (vc_X12_marksRight_f_10 h732 h764 hq0 q433 ht_f_size hp1 h766 h436 h765) (vc_X12_marksRight_f_11 (nS h733) h732 h764 hq0 q433 ht_f_size hp1 h766 h436 h765)
        have h816 : 0 ≤ z801 ∧ z801 ≤ 0 := (vc_X12_marksRight_f_14 h814 h800.1)
        refine sv_aload_n (pc := 47) dX12_marksRight_47 rfl rfl ?_
        refine mr_bipush (pc := 48) (z := 24) dX12_marksRight_48 (by decide) ?_
        refine mr_iload (pc := 50) (z := z771) dX12_marksRight_50 rfl ?_
        refine mr_cVV (pc := 52) (c_X12_addMark hw T729 (rW (c := 0) (d := 2099) (rR (x := 24)) rfl) h770.1) (gOk _ _ _ _ _) dX12_marksRight_52 (tX12_addMark _ _ _ _ _) ⟨wV_X12_addMark, wL_X12_addMark⟩ wM_X12_401 (gCX12 _ _ _ _ _) rfl (A_106 hw) rfl ⟨le_t rfl, le_t rfl⟩ ⟨le_t rfl, le_t rfl⟩ rfl (le_t rfl) fun μ817 T818 F819 h820 => ?_
        refine sv_aload_n (pc := 55) dX12_marksRight_55 rfl rfl ?_
        refine gf_X12_100 (pc := 56) dX12_marksRight_56 wF_X12_481 (A_106 hw) T818 ?_
        refine sv_aload_n (pc := 59) dX12_marksRight_59 rfl rfl ?_
        refine gk_X12_101 (pc := 60) dX12_marksRight_60 wF_X12_637 (A_106 hw) (F819.f (A_106 hw) rfl q773) ?_
        refine mr_iload (pc := 63) (z := z771) dX12_marksRight_63 rfl ?_
        refine ss_173 (pc := 65) dX12_marksRight_65 (A_173 hw) T818 (rIx (n := 8) h796 rfl) h770.1 fun μ821 u822 T823 => ?_
        refine sv_aload_n (pc := 66) dX12_marksRight_66 rfl rfl ?_
        refine sv_dup (pc := 67) dX12_marksRight_67 rfl ?_
        refine gk_X12_101 (pc := 68) dX12_marksRight_68 wF_X12_637 (A_106 hw) (u822.f (Or.inl (mAt.ne (A_173 hw) (A_106 hw) rfl)) (F819.f (A_106 hw) rfl q773)) ?_
        refine mr_iconst (pc := 71) (z := 1) dX12_marksRight_71 ?_
        refine mr_iadd (pc := 72) (x := z772) (y := 1) dX12_marksRight_72 ?_
        refine pf_X12_101 (pc := 73) dX12_marksRight_73 wF_X12_637 (A_106 hw) T823 (rW (c := 0) (d := 8) (rAdd (e := 1) (f := 8) h796 (rR (x := 1)) rfl) rfl) fun μ824 u825 T826 => ?_
        refine mr_iinc (pc := 76) (lv' := [(3, iv (z725 + 4)), (4, iv z771), (0, .ref 106), (1, iv p1), (2, iv p2)]) dX12_marksRight_76 rfl (by decide) rfl ?_
        refine sv_goto (pc := 79) (tgt := 10) dX12_marksRight_79 (by decide) ?_
        refine mr_lvS (lv' := [(0, .ref 106), (1, iv p1), (2, iv p2), (3, iv (z725 + 4))]) (List.forall_mem_cons.mpr ⟨rfl, List.forall_mem_cons.mpr ⟨rfl, List.forall_mem_cons.mpr ⟨rfl, List.forall_mem_cons.mpr ⟨rfl, fun _ h => absurd h List.not_mem_nil⟩⟩⟩⟩) ?_
        exact ih734 (z725 + 4) μ824 T826 (mF.up (mF.up (mF.call (mF.call mF.refl F730 rfl) F819 rfl) (A_173 hw) u822 rfl) (A_106 hw) u825 rfl) (mG.upO (mG.upO (mG.call (mG.call mG.refl G731 (List.forall_mem_cons.mpr ⟨⟨_, List.mem_cons_self, vc_X12_marksRight_f_4⟩, (fun _ h => absurd h List.not_mem_nil)⟩)) h820.1 (List.forall_mem_cons.mpr ⟨⟨_, List.mem_cons_self, vc_X12_marksRight_f_15⟩, (fun _ h => absurd h List.not_mem_nil)⟩)) u822 rfl) u825 rfl) (rW (c := 0) (d := 1003) (rAdd (e := 4) (f := 1003) h765 (rR (x := 4)) rfl) rfl) (vc_X12_marksRight_f_10 h732 h764 hq0 q433 ht_f_size hp1 h766 h436 h765) (vc_X12_marksRight_f_11 (nS h733) h732 h764 hq0 q433 ht_f_size hp1 h766 h436 h765)
    refine mr_lvS (lv' := [(0, .ref 106), (1, iv p1), (2, iv p2), (3, iv 0)]) (List.forall_mem_cons.mpr ⟨rfl, List.forall_mem_cons.mpr ⟨rfl, List.forall_mem_cons.mpr ⟨rfl, List.forall_mem_cons.mpr ⟨rfl, fun _ h => absurd h List.not_mem_nil⟩⟩⟩⟩) ?_
    exact L727 1005 0 μ hT mF.refl mG.refl (rW (c := 0) (d := 1003) (rR (x := 0)) rfl) vc_X12_marksRight_f_16 vc_X12_marksRight_f_17
  have h827 : 1 ≤ z432 ∧ z432 ≤ 3 := (vc_X12_marksRight_f_18 h435 q433 hp2 h434)
  refine mr_iconst (pc := 6) (z := 0) dX12_marksRight_6 ?_
  exact mr_zret dX12_marksRight_7 rfl (rW (c := 0) (d := 1) (rR (x := 0)) rfl) (le_t rfl) (le_t rfl) hT mF.refl ⟨(rW (c := 0) (d := 1) (rR (x := 0)) rfl), mG.refl, trivial⟩
theorem vc_X12_attributes_1 {f_c z1177 : Int} (h0 : (1003 - z1177) < ((0 : Nat) : Int)) (h1 : 3 * f_c ≤ z1177) (h2 : 0 ≤ z1177 ∧ z1177 ≤ 1002) : False := by omega
theorem vc_X12_attributes_2  : (960 : Int) ≤ (960 : Int) ∧ (1000 : Int) ≤ (1000 : Int) := by omega
theorem vc_X12_attributes_3 {f_c f_size p2 z1177 : Int} (h0 : z1177 < p2) (h1 : p2 ≤ f_size) (h2 : 3 * f_c ≤ z1177) (h3 : 0 ≤ f_c ∧ f_c ≤ 400) (h4 : 0 ≤ f_size ∧ f_size ≤ 1000) (h5 : 0 ≤ p2 ∧ p2 ≤ 1000) (h6 : 0 ≤ z1177 ∧ z1177 ≤ 1002) : 0 ≤ z1177 ∧ z1177 ≤ 999 := by omega
theorem vc_X12_attributes_4 {f_c f_size p2 z1177 : Int} (h0 : z1177 < p2) (h1 : p2 ≤ f_size) (h2 : 3 * f_c ≤ z1177) (h3 : 0 ≤ f_c ∧ f_c ≤ 400) (h4 : 0 ≤ f_size ∧ f_size ≤ 1000) (h5 : 0 ≤ p2 ∧ p2 ≤ 1000) (h6 : 0 ≤ z1177 ∧ z1177 ≤ 999) : 1 ≤ p2 ∧ p2 ≤ 1000 := by omega
theorem vc_X12_attributes_5 {f_c f_size p2 z1177 : Int} (h0 : p2 ≤ f_size) (h1 : 3 * f_c ≤ z1177) (h2 : z1177 < p2) (h3 : 0 ≤ f_c ∧ f_c ≤ 400) (h4 : 0 ≤ f_size ∧ f_size ≤ 1000) (h5 : 1 ≤ p2 ∧ p2 ≤ 1000) (h6 : 0 ≤ z1177 ∧ z1177 ≤ 999) : z1177 < f_size := by omega
theorem vc_X12_attributes_6 {f_c f_size p2 z1177 z1207 : Int} (h0 : (z1177 + z1207) ≤ p2) (h1 : p2 ≤ f_size) (h2 : 3 * f_c ≤ z1177) (h3 : z1177 < p2) (h4 : 0 ≤ f_c ∧ f_c ≤ 400) (h5 : 0 ≤ f_size ∧ f_size ≤ 1000) (h6 : 1 ≤ p2 ∧ p2 ≤ 1000) (h7 : 0 ≤ z1177 ∧ z1177 ≤ 999) (h8 : 3 ≤ z1207 ∧ z1207 ≤ 4) : 0 ≤ z1177 ∧ z1177 ≤ 997 := by omega
theorem vc_X12_attributes_7 {f_c f_size p2 z1177 z1207 : Int} (h0 : (z1177 + z1207) ≤ p2) (h1 : p2 ≤ f_size) (h2 : 3 * f_c ≤ z1177) (h3 : z1177 < p2) (h4 : 0 ≤ f_c ∧ f_c ≤ 400) (h5 : 0 ≤ f_size ∧ f_size ≤ 1000) (h6 : 1 ≤ p2 ∧ p2 ≤ 1000) (h7 : 0 ≤ z1177 ∧ z1177 ≤ 997) (h8 : 3 ≤ z1207 ∧ z1207 ≤ 4) : 3 ≤ p2 ∧ p2 ≤ 1000 := by omega
theorem vc_X12_attributes_8 {f_c f_size p2 z1177 z1207 : Int} (h0 : p2 ≤ f_size) (h1 : 3 * f_c ≤ z1177) (h2 : z1177 < p2) (h3 : (z1177 + z1207) ≤ p2) (h4 : 0 ≤ f_c ∧ f_c ≤ 400) (h5 : 0 ≤ f_size ∧ f_size ≤ 1000) (h6 : 3 ≤ p2 ∧ p2 ≤ 1000) (h7 : 0 ≤ z1177 ∧ z1177 ≤ 997) (h8 : 3 ≤ z1207 ∧ z1207 ≤ 4) : (z1177 + 2) + (z1207 - 2) ≤ f_size := by omega
theorem vc_X12_attributes_9 {f_c f_size p2 z1177 z1207 z1221 : Int} (h0 : ((z1177 + z1207) + z1221) ≤ p2) (h1 : p2 ≤ f_size) (h2 : 3 * f_c ≤ z1177) (h3 : z1177 < p2) (h4 : (z1177 + z1207) ≤ p2) (h5 : 0 ≤ f_c ∧ f_c ≤ 400) (h6 : 0 ≤ f_size ∧ f_size ≤ 1000) (h7 : 3 ≤ p2 ∧ p2 ≤ 1000) (h8 : 0 ≤ z1177 ∧ z1177 ≤ 997) (h9 : 3 ≤ z1207 ∧ z1207 ≤ 4) (h10 : 0 ≤ z1221 ∧ z1221 ≤ 65535) : 0 ≤ z1221 ∧ z1221 ≤ 997 := by omega
theorem vc_X12_attributes_10 {f_c f_size p2 z1177 z1207 z1221 : Int} (h0 : p2 ≤ f_size) (h1 : 3 * f_c ≤ z1177) (h2 : z1177 < p2) (h3 : (z1177 + z1207) ≤ p2) (h4 : ((z1177 + z1207) + z1221) ≤ p2) (h5 : 0 ≤ f_c ∧ f_c ≤ 400) (h6 : 0 ≤ f_size ∧ f_size ≤ 1000) (h7 : 3 ≤ p2 ∧ p2 ≤ 1000) (h8 : 0 ≤ z1177 ∧ z1177 ≤ 997) (h9 : 3 ≤ z1207 ∧ z1207 ≤ 4) (h10 : 0 ≤ z1221 ∧ z1221 ≤ 997) : z1177 < f_size := by omega
theorem vc_X12_attributes_11 {f_c f_size p2 z1177 z1207 z1221 : Int} (h0 : p2 ≤ f_size) (h1 : 3 * f_c ≤ z1177) (h2 : z1177 < p2) (h3 : (z1177 + z1207) ≤ p2) (h4 : ((z1177 + z1207) + z1221) ≤ p2) (h5 : 0 ≤ f_c ∧ f_c ≤ 400) (h6 : 0 ≤ f_size ∧ f_size ≤ 1000) (h7 : 3 ≤ p2 ∧ p2 ≤ 1000) (h8 : 0 ≤ z1177 ∧ z1177 ≤ 997) (h9 : 3 ≤ z1207 ∧ z1207 ≤ 4) (h10 : 0 ≤ z1221 ∧ z1221 ≤ 997) : (z1177 + 1) < f_size := by omega
theorem vc_X12_attributes_12 {f_c f_size p2 z1177 z1207 z1221 : Int} (h0 : p2 ≤ f_size) (h1 : 3 * f_c ≤ z1177) (h2 : z1177 < p2) (h3 : (z1177 + z1207) ≤ p2) (h4 : ((z1177 + z1207) + z1221) ≤ p2) (h5 : 0 ≤ f_c ∧ f_c ≤ 400) (h6 : 0 ≤ f_size ∧ f_size ≤ 1000) (h7 : 3 ≤ p2 ∧ p2 ≤ 1000) (h8 : 0 ≤ z1177 ∧ z1177 ≤ 997) (h9 : 3 ≤ z1207 ∧ z1207 ≤ 4) (h10 : 0 ≤ z1221 ∧ z1221 ≤ 997) : (z1177 + 2) + (z1207 - 2) ≤ f_size := by omega
theorem vc_X12_attributes_13 {p2 z1177 z1207 z1221 z1238 : Int} (h0 : z1238 = z1221) (h1 : ((z1177 + z1207) + z1221) ≤ p2) (h2 : 3 ≤ p2 ∧ p2 ≤ 1000) (h3 : 0 ≤ z1177 ∧ z1177 ≤ 997) (h4 : 3 ≤ z1207 ∧ z1207 ≤ 4) (h5 : 0 ≤ z1221 ∧ z1221 ≤ 997) (h6 : 0 ≤ z1238 ∧ z1238 ≤ 65535) : 0 ≤ z1238 ∧ z1238 ≤ 997 := by omega
theorem vc_X12_attributes_14 {z1240 : Int} (h0 : z1240 = 0) (h1 : 0 ≤ z1240 ∧ z1240 ≤ 1) : 0 ≤ z1240 ∧ z1240 ≤ 0 := by omega
theorem vc_X12_attributes_15 {z1408 : Int} (h0 : ¬ z1408 = 0) (h1 : 0 ≤ z1408 ∧ z1408 ≤ 1) : 1 ≤ z1408 ∧ z1408 ≤ 1 := by omega
theorem vc_X12_attributes_16 {f_c f_size p2 z1177 z1207 z1221 z1238 : Int} (h0 : 3 * f_c ≤ z1177) (h1 : z1177 < p2) (h2 : (z1177 + z1207) ≤ p2) (h3 : ((z1177 + z1207) + z1221) ≤ p2) (h4 : z1238 = z1221) (h5 : p2 ≤ f_size) (h6 : 0 ≤ f_c ∧ f_c ≤ 400) (h7 : 0 ≤ f_size ∧ f_size ≤ 1000) (h8 : 3 ≤ p2 ∧ p2 ≤ 1000) (h9 : 0 ≤ z1177 ∧ z1177 ≤ 997) (h10 : 3 ≤ z1207 ∧ z1207 ≤ 4) (h11 : 0 ≤ z1221 ∧ z1221 ≤ 997) (h12 : 0 ≤ z1238 ∧ z1238 ≤ 997) : 0 ≤ ((z1177 + z1207) + z1238) ∧ ((z1177 + z1207) + z1238) ≤ 1002 := by omega
theorem vc_X12_attributes_17 {f_c f_size p2 z1177 z1207 z1221 z1238 z1423 : Int} (h0 : 3 * f_c ≤ z1177) (h1 : z1177 < p2) (h2 : (z1177 + z1207) ≤ p2) (h3 : ((z1177 + z1207) + z1221) ≤ p2) (h4 : z1238 = z1221) (h5 : p2 ≤ f_size) (h6 : 0 ≤ f_c ∧ f_c ≤ 400) (h7 : 0 ≤ f_size ∧ f_size ≤ 1000) (h8 : 3 ≤ p2 ∧ p2 ≤ 1000) (h9 : 0 ≤ z1177 ∧ z1177 ≤ 997) (h10 : 3 ≤ z1207 ∧ z1207 ≤ 4) (h11 : 0 ≤ z1221 ∧ z1221 ≤ 997) (h12 : 0 ≤ z1238 ∧ z1238 ≤ 997) (h13 : 0 ≤ z1423 ∧ z1423 ≤ 400) : 3 * z1423 ≤ ((z1177 + z1207) + z1238) := by omega
theorem vc_X12_attributes_18 {N f_c f_size p2 z1177 z1207 z1221 z1238 : Int} (h0 : (1003 - z1177) < N + 1) (h1 : 3 * f_c ≤ z1177) (h2 : z1177 < p2) (h3 : (z1177 + z1207) ≤ p2) (h4 : ((z1177 + z1207) + z1221) ≤ p2) (h5 : z1238 = z1221) (h6 : p2 ≤ f_size) (h7 : 0 ≤ f_c ∧ f_c ≤ 400) (h8 : 0 ≤ f_size ∧ f_size ≤ 1000) (h9 : 3 ≤ p2 ∧ p2 ≤ 1000) (h10 : 0 ≤ z1177 ∧ z1177 ≤ 997) (h11 : 3 ≤ z1207 ∧ z1207 ≤ 4) (h12 : 0 ≤ z1221 ∧ z1221 ≤ 997) (h13 : 0 ≤ z1238 ∧ z1238 ≤ 997) : (1003 - ((z1177 + z1207) + z1238)) < N := by omega
theorem vc_X12_attributes_19 {z1408 : Int} (h0 : z1408 = 0) (h1 : 0 ≤ z1408 ∧ z1408 ≤ 1) : 0 ≤ z1408 ∧ z1408 ≤ 0 := by omega
theorem vc_X12_attributes_20 {f_c f_size p2 z1177 z1207 z1221 z1238 z1431 : Int} (h0 : 3 * f_c ≤ z1177) (h1 : z1177 < p2) (h2 : (z1177 + z1207) ≤ p2) (h3 : ((z1177 + z1207) + z1221) ≤ p2) (h4 : z1238 = z1221) (h5 : p2 ≤ f_size) (h6 : 0 ≤ f_c ∧ f_c ≤ 400) (h7 : 0 ≤ f_size ∧ f_size ≤ 1000) (h8 : 3 ≤ p2 ∧ p2 ≤ 1000) (h9 : 0 ≤ z1177 ∧ z1177 ≤ 997) (h10 : 3 ≤ z1207 ∧ z1207 ≤ 4) (h11 : 0 ≤ z1221 ∧ z1221 ≤ 997) (h12 : 0 ≤ z1238 ∧ z1238 ≤ 997) (h13 : 0 ≤ z1431 ∧ z1431 ≤ 400) : 3 * z1431 ≤ ((z1177 + z1207) + z1238) := by omega
theorem vc_X12_attributes_21 {z1342 : Int} (h0 : z1342 < 0) (h1 : (-1) ≤ z1342 ∧ z1342 ≤ 192) : (-1) ≤ z1342 ∧ z1342 ≤ (-1) := by omega
theorem vc_X12_attributes_22 {z1441 : Int} (h0 : z1441 = 0) (h1 : 0 ≤ z1441 ∧ z1441 ≤ 1) : 0 ≤ z1441 ∧ z1441 ≤ 0 := by omega
theorem vc_X12_attributes_23 {z1441 : Int} (h0 : ¬ z1441 = 0) (h1 : 0 ≤ z1441 ∧ z1441 ≤ 1) : 1 ≤ z1441 ∧ z1441 ≤ 1 := by omega
theorem vc_X12_attributes_24 {z1447 : Int} (h0 : z1447 = 0) (h1 : 0 ≤ z1447 ∧ z1447 ≤ 64) : 0 ≤ z1447 ∧ z1447 ≤ 0 := by omega
theorem vc_X12_attributes_25 {z1447 : Int} (h0 : ¬ z1447 = 0) (h1 : 0 ≤ z1447 ∧ z1447 ≤ 64) : 1 ≤ z1447 ∧ z1447 ≤ 64 := by omega
theorem vc_X12_attributes_26 {f_c p2 z1177 z1207 z1221 : Int} (h0 : 3 * f_c ≤ z1177) (h1 : z1177 < p2) (h2 : (z1177 + z1207) ≤ p2) (h3 : ((z1177 + z1207) + z1221) ≤ p2) (h4 : 0 ≤ f_c ∧ f_c ≤ 400) (h5 : 3 ≤ p2 ∧ p2 ≤ 1000) (h6 : 0 ≤ z1177 ∧ z1177 ≤ 997) (h7 : 3 ≤ z1207 ∧ z1207 ≤ 4) (h8 : 0 ≤ z1221 ∧ z1221 ≤ 997) : 0 ≤ f_c ∧ f_c < 400 := by omega
theorem vc_X12_attributes_27 {f_c p2 z1177 z1207 z1221 : Int} (h0 : 3 * f_c ≤ z1177) (h1 : z1177 < p2) (h2 : (z1177 + z1207) ≤ p2) (h3 : ((z1177 + z1207) + z1221) ≤ p2) (h4 : 0 ≤ f_c ∧ f_c ≤ 400) (h5 : 3 ≤ p2 ∧ p2 ≤ 1000) (h6 : 0 ≤ z1177 ∧ z1177 ≤ 997) (h7 : 3 ≤ z1207 ∧ z1207 ≤ 4) (h8 : 0 ≤ z1221 ∧ z1221 ≤ 997) : 0 ≤ (f_c + 1) ∧ (f_c + 1) ≤ 400 := by omega
theorem vc_X12_attributes_28 {z1436 : Int} (h0 : z1436 = 0) (h1 : 0 ≤ z1436 ∧ z1436 ≤ 128) : 0 ≤ z1436 ∧ z1436 ≤ 0 := by omega
theorem vc_X12_attributes_29 {z1436 : Int} (h0 : ¬ z1436 = 0) (h1 : 0 ≤ z1436 ∧ z1436 ≤ 128) : 1 ≤ z1436 ∧ z1436 ≤ 128 := by omega
theorem vc_X12_attributes_30 {z1342 : Int} (h0 : 0 ≤ z1342) (h1 : (-1) ≤ z1342 ∧ z1342 ≤ 192) : 0 ≤ z1342 ∧ z1342 ≤ 192 := by omega
theorem vc_X12_attributes_31 {z1342 z1463 : Int} (h0 : z1463 = z1342) (h1 : 0 ≤ z1342) (h2 : 0 ≤ z1342 ∧ z1342 ≤ 192) (h3 : 0 ≤ z1463 ∧ z1463 ≤ 255) : 0 ≤ z1463 ∧ z1463 ≤ 192 := by omega
theorem vc_X12_attributes_32 {f_c f_size p2 z1177 z1207 z1221 z1238 : Int} (h0 : 3 * f_c ≤ z1177) (h1 : z1177 < p2) (h2 : (z1177 + z1207) ≤ p2) (h3 : ((z1177 + z1207) + z1221) ≤ p2) (h4 : p2 ≤ f_size) (h5 : z1238 = z1221) (h6 : 0 ≤ f_c ∧ f_c ≤ 400) (h7 : 0 ≤ f_size ∧ f_size ≤ 1000) (h8 : 3 ≤ p2 ∧ p2 ≤ 1000) (h9 : 0 ≤ z1177 ∧ z1177 ≤ 997) (h10 : 3 ≤ z1207 ∧ z1207 ≤ 4) (h11 : 0 ≤ z1221 ∧ z1221 ≤ 997) (h12 : 0 ≤ z1238 ∧ z1238 ≤ 997) : 0 ≤ (z1177 + z1207) ∧ (z1177 + z1207) ≤ 1000 := by omega
theorem vc_X12_attributes_33 {f_c f_size p2 z1177 z1207 z1221 z1238 : Int} (h0 : p2 ≤ f_size) (h1 : 3 * f_c ≤ z1177) (h2 : z1177 < p2) (h3 : (z1177 + z1207) ≤ p2) (h4 : ((z1177 + z1207) + z1221) ≤ p2) (h5 : z1238 = z1221) (h6 : 0 ≤ f_c ∧ f_c ≤ 400) (h7 : 0 ≤ f_size ∧ f_size ≤ 1000) (h8 : 3 ≤ p2 ∧ p2 ≤ 1000) (h9 : 0 ≤ z1177 ∧ z1177 ≤ 997) (h10 : 3 ≤ z1207 ∧ z1207 ≤ 4) (h11 : 0 ≤ z1221 ∧ z1221 ≤ 997) (h12 : 0 ≤ z1238 ∧ z1238 ≤ 997) : (z1177 + z1207) + z1238 ≤ f_size := by omega
theorem vc_X12_attributes_34 {z1514 : Int} (h0 : z1514 = 0) (h1 : 0 ≤ z1514 ∧ z1514 ≤ 1) : 0 ≤ z1514 ∧ z1514 ≤ 0 := by omega
theorem vc_X12_attributes_35  : (960 : Int) ≤ (961 : Int) ∧ (1000 : Int) ≤ (1000 : Int) := by omega
theorem vc_X12_attributes_36 {z1514 : Int} (h0 : ¬ z1514 = 0) (h1 : 0 ≤ z1514 ∧ z1514 ≤ 1) : 1 ≤ z1514 ∧ z1514 ≤ 1 := by omega
theorem vc_X12_attributes_37 {z1233 : Int} (h0 : z1233 = 4) (h1 : ¬ z1233 = 1) (h2 : ¬ z1233 = 2) (h3 : 0 ≤ z1233 ∧ z1233 ≤ 255) : 4 ≤ z1233 ∧ z1233 ≤ 4 := by omega
theorem vc_X12_attributes_38 {z1523 : Int} (h0 : z1523 = 0) (h1 : 0 ≤ z1523 ∧ z1523 ≤ 1) : 0 ≤ z1523 ∧ z1523 ≤ 0 := by omega
theorem vc_X12_attributes_39  : (960 : Int) ≤ (963 : Int) ∧ (964 : Int) ≤ (1000 : Int) := by omega
theorem vc_X12_attributes_40 {z1523 : Int} (h0 : ¬ z1523 = 0) (h1 : 0 ≤ z1523 ∧ z1523 ≤ 1) : 1 ≤ z1523 ∧ z1523 ≤ 1 := by omega
theorem vc_X12_attributes_41 {z1233 : Int} (h0 : z1233 = 2) (h1 : ¬ z1233 = 1) (h2 : 0 ≤ z1233 ∧ z1233 ≤ 255) : 2 ≤ z1233 ∧ z1233 ≤ 2 := by omega
theorem vc_X12_attributes_42 {z1532 : Int} (h0 : z1532 = 0) (h1 : 0 ≤ z1532 ∧ z1532 ≤ 1) : 0 ≤ z1532 ∧ z1532 ≤ 0 := by omega
theorem vc_X12_attributes_43  : (960 : Int) ≤ (964 : Int) ∧ (986 : Int) ≤ (1000 : Int) := by omega
theorem vc_X12_attributes_44 {z1532 : Int} (h0 : ¬ z1532 = 0) (h1 : 0 ≤ z1532 ∧ z1532 ≤ 1) : 1 ≤ z1532 ∧ z1532 ≤ 1 := by omega
theorem vc_X12_attributes_45 {z1233 : Int} (h0 : z1233 = 1) (h1 : 0 ≤ z1233 ∧ z1233 ≤ 255) : 1 ≤ z1233 ∧ z1233 ≤ 1 := by omega
theorem vc_X12_attributes_46 {z1541 : Int} (h0 : z1541 = 0) (h1 : 0 ≤ z1541 ∧ z1541 ≤ 1) : 0 ≤ z1541 ∧ z1541 ≤ 0 := by omega
theorem vc_X12_attributes_47  : (960 : Int) ≤ (962 : Int) ∧ (963 : Int) ≤ (1000 : Int) := by omega
theorem vc_X12_attributes_48 {z1541 : Int} (h0 : ¬ z1541 = 0) (h1 : 0 ≤ z1541 ∧ z1541 ≤ 1) : 1 ≤ z1541 ∧ z1541 ≤ 1 := by omega
theorem vc_X12_attributes_49 {z1233 : Int} (h0 : z1233 = 8) (h1 : ¬ z1233 = 1) (h2 : ¬ z1233 = 2) (h3 : ¬ z1233 = 4) (h4 : 0 ≤ z1233 ∧ z1233 ≤ 255) : 8 ≤ z1233 ∧ z1233 ≤ 8 := by omega
theorem vc_X12_attributes_50 {z1240 : Int} (h0 : ¬ z1240 = 0) (h1 : 0 ≤ z1240 ∧ z1240 ≤ 1) : 1 ≤ z1240 ∧ z1240 ≤ 1 := by omega
theorem vc_X12_attributes_51 {f_c f_size p2 z1177 z1207 z1221 z1238 : Int} (h0 : 3 * f_c ≤ z1177) (h1 : z1177 < p2) (h2 : (z1177 + z1207) ≤ p2) (h3 : ((z1177 + z1207) + z1221) ≤ p2) (h4 : z1238 = z1221) (h5 : p2 ≤ f_size) (h6 : 0 ≤ f_c ∧ f_c ≤ 400) (h7 : 0 ≤ f_size ∧ f_size ≤ 1000) (h8 : 3 ≤ p2 ∧ p2 ≤ 1000) (h9 : 0 ≤ z1177 ∧ z1177 ≤ 997) (h10 : 3 ≤ z1207 ∧ z1207 ≤ 4) (h11 : 0 ≤ z1221 ∧ z1221 ≤ 997) (h12 : 0 ≤ z1238 ∧ z1238 ≤ 997) : 3 * f_c ≤ ((z1177 + z1207) + z1238) := by omega
theorem vc_X12_attributes_52 {z1202 : Int} (h0 : z1202 = 0) (h1 : 0 ≤ z1202 ∧ z1202 ≤ 1) : 0 ≤ z1202 ∧ z1202 ≤ 0 := by omega
theorem vc_X12_attributes_53 {z1202 : Int} (h0 : ¬ z1202 = 0) (h1 : 0 ≤ z1202 ∧ z1202 ≤ 1) : 1 ≤ z1202 ∧ z1202 ≤ 1 := by omega
theorem vc_X12_attributes_54 {z1197 : Int} (h0 : z1197 = 0) (h1 : 0 ≤ z1197 ∧ z1197 ≤ 16) : 0 ≤ z1197 ∧ z1197 ≤ 0 := by omega
theorem vc_X12_attributes_55 {z1197 : Int} (h0 : ¬ z1197 = 0) (h1 : 0 ≤ z1197 ∧ z1197 ≤ 16) : 1 ≤ z1197 ∧ z1197 ≤ 16 := by omega
theorem vc_X12_attributes_56 {f_c0 p1 : Int} (h0 : 3 * f_c0 ≤ p1) (h1 : 0 ≤ f_c0 ∧ f_c0 ≤ 400) (h2 : 0 ≤ p1 ∧ p1 ≤ 1002) : 3 * f_c0 ≤ p1 := by omega
theorem vc_X12_attributes_57 {f_c0 p1 : Int} (h0 : 3 * f_c0 ≤ p1) (h1 : 0 ≤ f_c0 ∧ f_c0 ≤ 400) (h2 : 0 ≤ p1 ∧ p1 ≤ 1002) : (1003 - p1) < ((1004 : Nat) : Int) := by omega
set_option maxRecDepth 4000 in
set_option maxHeartbeats 4000000 in
theorem c_X12_attributes {l : Launch} {D : va_G} {c : Nat → ClassId} {H0 : Heap} {sa : Nat × Nat × (Nat → Int32)} {w : mW} {μ : mM} (hw : mWF w) (hT : mT w μ) {p1 : Int} (hp1 : 0 ≤ p1 ∧ p1 ≤ 1002) {p2 : Int} (hp2 : 0 ≤ p2 ∧ p2 ≤ 1000) {f_size : Int} (q_f_size : μ 106 1 = f_size) {f_c0 : Int} (q_f_c0 : μ 106 93 = f_c0) (hq0 : p2 ≤ f_size) (hq1 : 3 * f_c0 ≤ p1) : sC (gG l D c H0 sa) mX12_attributes 5 0 0 [.ref 106, iv p1, iv p2] (mk w μ) (qV w [106093, 106098, 106099, 106101, 126999, 170999, 171999, 172999, 173999] μ (fun μ1 => mG [(960, 1000)] μ μ1 ∧ True)) := by
  refine sC.of rfl (by decide) (le_t rfl) ?_
  have ht_f_size : (0 ≤ f_size ∧ f_size ≤ 1000) := by rw [← q_f_size]; exact hT 106 106 (A_106 hw) 1
  have ht_f_c0 : (0 ≤ f_c0 ∧ f_c0 ≤ 400) := by rw [← q_f_c0]; exact hT 106 106 (A_106 hw) 93
  refine mr_lvE (lv' := [(0, .ref 106), (1, iv p1), (2, iv p2)]) rfl ?_
  refine mr_iload_n (pc := 0) (z := p1) dX12_attributes_0 rfl rfl ?_
  refine mr_istore_n (pc := 1) (lv' := [(3, iv p1), (0, .ref 106), (1, iv p1), (2, iv p2)]) dX12_attributes_1 rfl (by decide) rfl ?_
  have L1179 : ∀ (nL1179 : Nat) (z1177 : Int) (μ1178 : mM) (f_c : Int), mT w μ1178 → mF [106093, 106098, 106099, 106101, 126999, 170999, 171999, 172999, 173999] w μ μ1178 → mG [(960, 1000)] μ μ1178 → μ1178 106 (93) = f_c → (0 ≤ z1177 ∧ z1177 ≤ 1002) → (3 * f_c ≤ z1177) → (1003 - z1177) < (nL1179 : Int) → sV (gG l D c H0 sa) mX12_attributes (sRm 5 0 0) (sZ (gG l D c H0 sa) 0 0 (qV w [106093, 106098, 106099, 106101, 126999, 170999, 171999, 172999, 173999] μ (fun μ1 => mG [(960, 1000)] μ μ1 ∧ True))) 2 [(0, .ref 106), (2, iv p2), (3, iv z1177)] [] (mk w μ1178) 0 0 := by
    intro nL1179
    induction nL1179 with
    | zero => intro z1177 μ1178 f_c T1181 F1182 G1183 q1186 h1180 h1184 h1185; exact ((vc_X12_attributes_1 h1185 h1184 h1180)).elim
    | succ nL1179 ih1187 =>
      intro z1177 μ1178 f_c T1181 F1182 G1183 q1186 h1180 h1184 h1185
      have h1188 : (0 ≤ f_c ∧ f_c ≤ 400) := by rw [← q1186]; exact T1181 106 106 (A_106 hw) (93)
      refine mr_iload_n (pc := 2) (z := z1177) dX12_attributes_2 rfl rfl ?_
      refine mr_iload_n (pc := 3) (z := p2) dX12_attributes_3 rfl rfl ?_
      refine mr_icmp_ge (pc := 4) (tgt := 345) dX12_attributes_4 (by decide) (r32 h1180 rfl) (r32 hp2 rfl) (fun h1189 => ?_) (fun h1189 => ?_)
      · exact mr_vret dX12_attributes_345 rfl (le_t rfl) (le_t rfl) T1181 (mF.call mF.refl F1182 rfl) ⟨(mG.call mG.refl G1183 (List.forall_mem_cons.mpr ⟨⟨_, List.mem_cons_self, vc_X12_attributes_2⟩, (fun _ h => absurd h List.not_mem_nil)⟩)), trivial⟩
      have h1190 : 0 ≤ z1177 ∧ z1177 ≤ 999 := (vc_X12_attributes_3 h1189 hq0 h1184 h1188 ht_f_size hp2 h1180)
      have h1191 : 1 ≤ p2 ∧ p2 ≤ 1000 := (vc_X12_attributes_4 h1189 hq0 h1184 h1188 ht_f_size hp2 h1190)
      refine sv_aload_n (pc := 7) dX12_attributes_7 rfl rfl ?_
      refine mr_iload_n (pc := 8) (z := z1177) dX12_attributes_8 rfl rfl ?_
      refine mr_cVP (pc := 9) (c_X12_byteAt_f hw T1181 (rW (c := 0) (d := 2147483647) h1190 rfl) (F1182.f (A_106 hw) rfl q_f_size) (vc_X12_attributes_5 hq0 h1184 h1189 h1188 ht_f_size h1191 h1190)) (gOk _ _ _ _ _) dX12_attributes_9 (tX12_byteAt _ _ _ _ _) ⟨wV_X12_byteAt, wL_X12_byteAt⟩ wM_X12_227 (gCX12 _ _ _ _ _) rfl (A_106 hw) rfl ⟨le_t rfl, le_t rfl⟩ ⟨le_t rfl, le_t rfl⟩ rfl (le_t rfl) fun z1196 h1195 => ?_
      refine mr_bipush (pc := 12) (z := 16) dX12_attributes_12 (by decide) ?_
      refine mr_iand (pc := 14) (x := z1196) (y := 16) dX12_attributes_14 ?_
      refine mr_gen (P := fun z => 0 ≤ z ∧ z ≤ 16) (rAndR (rR (x := 16)) rfl) fun z1197 q1198 h1199 => ?_
      have J1204 : ∀ (z1202 : Int), ((0 ≤ z1202 ∧ z1202 ≤ 1)) → sV (gG l D c H0 sa) mX12_attributes (sRm 5 0 0) (sZ (gG l D c H0 sa) 0 0 (qV w [106093, 106098, 106099, 106101, 126999, 170999, 171999, 172999, 173999] μ (fun μ1 => mG [(960, 1000)] μ μ1 ∧ True))) 23 [(0, .ref 106), (2, iv p2), (3, iv z1177)] [iv z1202] (mk w μ1178) 0 0 := by
        intro z1202 h1203
        refine mr_istore (pc := 23) (lv' := [(4, iv z1202), (0, .ref 106), (2, iv p2), (3, iv z1177)]) dX12_attributes_23 (by decide) rfl ?_
        refine mr_iload (pc := 25) (z := z1202) dX12_attributes_25 rfl ?_
        have J1209 : ∀ (z1207 : Int), ((3 ≤ z1207 ∧ z1207 ≤ 4)) → sV (gG l D c H0 sa) mX12_attributes (sRm 5 0 0) (sZ (gG l D c H0 sa) 0 0 (qV w [106093, 106098, 106099, 106101, 126999, 170999, 171999, 172999, 173999] μ (fun μ1 => mG [(960, 1000)] μ μ1 ∧ True))) 35 [(0, .ref 106), (2, iv p2), (3, iv z1177)] [iv z1207] (mk w μ1178) 0 0 := by
          intro z1207 h1208
          refine mr_istore (pc := 35) (lv' := [(5, iv z1207), (0, .ref 106), (2, iv p2), (3, iv z1177)]) dX12_attributes_35 (by decide) rfl ?_
          refine mr_iload_n (pc := 37) (z := z1177) dX12_attributes_37 rfl rfl ?_
          refine mr_iload (pc := 38) (z := z1207) dX12_attributes_38 rfl ?_
          refine mr_iadd (pc := 40) (x := z1177) (y := z1207) dX12_attributes_40 ?_
          refine mr_iload_n (pc := 41) (z := p2) dX12_attributes_41 rfl rfl ?_
          refine mr_icmp_gt (pc := 42) (tgt := 65) dX12_attributes_42 (by decide) (r32 (rAdd (e := 3) (f := 1003) h1190 h1208 rfl) rfl) (r32 h1191 rfl) (fun h1210 => ?_) (fun h1210 => ?_)
          · refine sv_aload_n (pc := 65) dX12_attributes_65 rfl rfl ?_
            refine mr_iconst (pc := 66) (z := 2) dX12_attributes_66 ?_
            refine mr_iload_n (pc := 67) (z := z1177) dX12_attributes_67 rfl rfl ?_
            refine mr_cVV (pc := 68) (c_X12_fails hw T1181 (rW (c := 0) (d := 3) (rR (x := 2)) rfl) (rW (c := (-2147483648)) (d := 2147483647) h1190 rfl)) (gOk _ _ _ _ _) dX12_attributes_68 (tX12_fails _ _ _ _ _) ⟨wV_X12_fails, wL_X12_fails⟩ wM_X12_620 (gCX12 _ _ _ _ _) rfl (A_106 hw) rfl ⟨le_t rfl, le_t rfl⟩ ⟨le_t rfl, le_t rfl⟩ rfl (le_t rfl) fun μ1211 T1212 F1213 h1214 => ?_
            exact mr_vret dX12_attributes_71 rfl (le_t rfl) (le_t rfl) T1212 (mF.call (mF.call mF.refl F1182 rfl) F1213 rfl) ⟨(mG.fr (mG.call mG.refl G1183 (List.forall_mem_cons.mpr ⟨⟨_, List.mem_cons_self, vc_X12_attributes_2⟩, (fun _ h => absurd h List.not_mem_nil)⟩)) F1213 (A_126 hw) rfl), trivial⟩
          have h1215 : 0 ≤ z1177 ∧ z1177 ≤ 997 := (vc_X12_attributes_6 h1210 hq0 h1184 h1189 h1188 ht_f_size h1191 h1190 h1208)
          have h1216 : 3 ≤ p2 ∧ p2 ≤ 1000 := (vc_X12_attributes_7 h1210 hq0 h1184 h1189 h1188 ht_f_size h1191 h1215 h1208)
          refine mr_iload_n (pc := 45) (z := z1177) dX12_attributes_45 rfl rfl ?_
          refine mr_iload (pc := 46) (z := z1207) dX12_attributes_46 rfl ?_
          refine mr_iadd (pc := 48) (x := z1177) (y := z1207) dX12_attributes_48 ?_
          refine sv_aload_n (pc := 49) dX12_attributes_49 rfl rfl ?_
          refine mr_iload_n (pc := 50) (z := z1177) dX12_attributes_50 rfl rfl ?_
          refine mr_iconst (pc := 51) (z := 2) dX12_attributes_51 ?_
          refine mr_iadd (pc := 52) (x := z1177) (y := 2) dX12_attributes_52 ?_
          refine mr_iload (pc := 53) (z := z1207) dX12_attributes_53 rfl ?_
          refine mr_iconst (pc := 55) (z := 2) dX12_attributes_55 ?_
          refine mr_isub (pc := 56) (x := z1207) (y := 2) dX12_attributes_56 ?_
          refine mr_cVP (pc := 57) (c_X12_number_f2 hw T1181 (rW (c := 0) (d := 1000) (rAdd (e := 2) (f := 999) h1215 (rR (x := 2)) rfl) rfl) (rW (c := 0) (d := 2) (rSub (e := 1) (f := 2) h1208 (rR (x := 2)) rfl) rfl) (F1182.f (A_106 hw) rfl q_f_size) (vc_X12_attributes_8 hq0 h1184 h1189 h1210 h1188 ht_f_size h1216 h1215 h1208)) (gOk _ _ _ _ _) dX12_attributes_57 (tX12_number _ _ _ _ _) ⟨wV_X12_number, wL_X12_number⟩ wM_X12_623 (gCX12 _ _ _ _ _) rfl (A_106 hw) rfl ⟨le_t rfl, le_t rfl⟩ ⟨le_t rfl, le_t rfl⟩ rfl (le_t rfl) fun z1221 h1220 => ?_
          refine mr_iadd (pc := 60) (x := (z1177 + z1207)) (y := z1221) dX12_attributes_60 ?_
          refine mr_iload_n (pc := 61) (z := p2) dX12_attributes_61 rfl rfl ?_
          refine mr_icmp_le (pc := 62) (tgt := 72) dX12_attributes_62 (by decide) (r32 (rAdd (e := 3) (f := 66536) (rAdd (e := 3) (f := 1001) h1215 h1208 rfl) h1220.1 rfl) rfl) (r32 h1216 rfl) (fun h1222 => ?_) (fun h1222 => ?_)
          · have h1223 : 0 ≤ z1221 ∧ z1221 ≤ 997 := (vc_X12_attributes_9 h1222 hq0 h1184 h1189 h1210 h1188 ht_f_size h1216 h1215 h1208 h1220.1)
            refine sv_aload_n (pc := 72) dX12_attributes_72 rfl rfl ?_
            refine mr_iload_n (pc := 73) (z := z1177) dX12_attributes_73 rfl rfl ?_
            refine mr_cVP (pc := 74) (c_X12_byteAt_f hw T1181 (rW (c := 0) (d := 2147483647) h1215 rfl) (F1182.f (A_106 hw) rfl q_f_size) (vc_X12_attributes_10 hq0 h1184 h1189 h1210 h1222 h1188 ht_f_size h1216 h1215 h1208 h1223)) (gOk _ _ _ _ _) dX12_attributes_74 (tX12_byteAt _ _ _ _ _) ⟨wV_X12_byteAt, wL_X12_byteAt⟩ wM_X12_227 (gCX12 _ _ _ _ _) rfl (A_106 hw) rfl ⟨le_t rfl, le_t rfl⟩ ⟨le_t rfl, le_t rfl⟩ rfl (le_t rfl) fun z1228 h1227 => ?_
            refine mr_istore (pc := 77) (lv' := [(6, iv z1228), (5, iv z1207), (0, .ref 106), (2, iv p2), (3, iv z1177)]) dX12_attributes_77 (by decide) rfl ?_
            refine sv_aload_n (pc := 79) dX12_attributes_79 rfl rfl ?_
            refine mr_iload_n (pc := 80) (z := z1177) dX12_attributes_80 rfl rfl ?_
            refine mr_iconst (pc := 81) (z := 1) dX12_attributes_81 ?_
            refine mr_iadd (pc := 82) (x := z1177) (y := 1) dX12_attributes_82 ?_
            refine mr_cVP (pc := 83) (c_X12_byteAt_f hw T1181 (rW (c := 0) (d := 2147483647) (rAdd (e := 1) (f := 998) h1215 (rR (x := 1)) rfl) rfl) (F1182.f (A_106 hw) rfl q_f_size) (vc_X12_attributes_11 hq0 h1184 h1189 h1210 h1222 h1188 ht_f_size h1216 h1215 h1208 h1223)) (gOk _ _ _ _ _) dX12_attributes_83 (tX12_byteAt _ _ _ _ _) ⟨wV_X12_byteAt, wL_X12_byteAt⟩ wM_X12_227 (gCX12 _ _ _ _ _) rfl (A_106 hw) rfl ⟨le_t rfl, le_t rfl⟩ ⟨le_t rfl, le_t rfl⟩ rfl (le_t rfl) fun z1233 h1232 => ?_
            refine mr_istore (pc := 86) (lv' := [(7, iv z1233), (6, iv z1228), (5, iv z1207), (0, .ref 106), (2, iv p2), (3, iv z1177)]) dX12_attributes_86 (by decide) rfl ?_
            refine sv_aload_n (pc := 88) dX12_attributes_88 rfl rfl ?_
            refine mr_iload_n (pc := 89) (z := z1177) dX12_attributes_89 rfl rfl ?_
            refine mr_iconst (pc := 90) (z := 2) dX12_attributes_90 ?_
            refine mr_iadd (pc := 91) (x := z1177) (y := 2) dX12_attributes_91 ?_
            refine mr_iload (pc := 92) (z := z1207) dX12_attributes_92 rfl ?_
            refine mr_iconst (pc := 94) (z := 2) dX12_attributes_94 ?_
            refine mr_isub (pc := 95) (x := z1207) (y := 2) dX12_attributes_95 ?_
            refine mr_cVP (pc := 96) (c_X12_number_f2 hw T1181 (rW (c := 0) (d := 1000) (rAdd (e := 2) (f := 999) h1215 (rR (x := 2)) rfl) rfl) (rW (c := 0) (d := 2) (rSub (e := 1) (f := 2) h1208 (rR (x := 2)) rfl) rfl) (F1182.f (A_106 hw) rfl q_f_size) (vc_X12_attributes_12 hq0 h1184 h1189 h1210 h1222 h1188 ht_f_size h1216 h1215 h1208 h1223)) (gOk _ _ _ _ _) dX12_attributes_96 (tX12_number _ _ _ _ _) ⟨wV_X12_number, wL_X12_number⟩ wM_X12_623 (gCX12 _ _ _ _ _) rfl (A_106 hw) rfl ⟨le_t rfl, le_t rfl⟩ ⟨le_t rfl, le_t rfl⟩ rfl (le_t rfl) fun z1238 h1237 => ?_
            have h1239 : 0 ≤ z1238 ∧ z1238 ≤ 997 := (vc_X12_attributes_13 (h1237.2.1.trans h1220.2.1.symm) h1222 h1216 h1215 h1208 h1223 h1237.1)
            refine mr_istore (pc := 99) (lv' := [(8, iv z1238), (7, iv z1233), (6, iv z1228), (5, iv z1207), (0, .ref 106), (2, iv p2), (3, iv z1177)]) dX12_attributes_99 (by decide) rfl ?_
            refine mr_iload_n (pc := 101) (z := z1177) dX12_attributes_101 rfl rfl ?_
            refine mr_iload (pc := 102) (z := z1207) dX12_attributes_102 rfl ?_
            refine mr_iadd (pc := 104) (x := z1177) (y := z1207) dX12_attributes_104 ?_
            refine mr_istore (pc := 105) (lv' := [(9, iv (z1177 + z1207)), (8, iv z1238), (7, iv z1233), (6, iv z1228), (5, iv z1207), (0, .ref 106), (2, iv p2), (3, iv z1177)]) dX12_attributes_105 (by decide) rfl ?_
            refine sv_aload_n (pc := 107) dX12_attributes_107 rfl rfl ?_
            refine gf_X12_94 (pc := 108) dX12_attributes_108 wF_X12_475 (A_106 hw) T1181 ?_
            refine mr_iload (pc := 111) (z := z1233) dX12_attributes_111 rfl ?_
            refine la_171 (pc := 113) dX12_attributes_113 (A_171 hw) T1181 (rIx (n := 256) h1232.1 rfl) fun z1240 q1241 h1242 => ?_
            refine mr_if_eq (pc := 114) (tgt := 126) dX12_attributes_114 (by decide) (r32 h1242 rfl) (fun h1333 => ?_) (fun h1333 => ?_)
            · have h1334 : 0 ≤ z1240 ∧ z1240 ≤ 0 := (vc_X12_attributes_14 h1333 h1242)
              refine sv_aload_n (pc := 126) dX12_attributes_126 rfl rfl ?_
              refine gf_X12_94 (pc := 127) dX12_attributes_127 wF_X12_475 (A_106 hw) T1181 ?_
              refine mr_iload (pc := 130) (z := z1233) dX12_attributes_130 rfl ?_
              refine mr_iconst (pc := 132) (z := 1) dX12_attributes_132 ?_
              refine ss_171 (pc := 133) dX12_attributes_133 (A_171 hw) T1181 (rIx (n := 256) h1232.1 rfl) (rW (c := 0) (d := 1) (rR (x := 1)) rfl) fun μ1335 u1336 T1337 => ?_
              refine mr_iload (pc := 134) (z := z1233) dX12_attributes_134 rfl ?_
              refine mr_iconst (pc := 136) (z := 1) dX12_attributes_136 ?_
              have J1344 : ∀ (z1342 : Int), (((-1) ≤ z1342 ∧ z1342 ≤ 192)) → sV (gG l D c H0 sa) mX12_attributes (sRm 5 0 0) (sZ (gG l D c H0 sa) 0 0 (qV w [106093, 106098, 106099, 106101, 126999, 170999, 171999, 172999, 173999] μ (fun μ1 => mG [(960, 1000)] μ μ1 ∧ True))) 177 [(0, .ref 106), (2, iv p2), (3, iv z1177), (6, iv z1228), (7, iv z1233), (8, iv z1238), (9, iv (z1177 + z1207))] [iv z1342] (mk w μ1335) 0 0 := by
                intro z1342 h1343
                refine mr_istore (pc := 177) (lv' := [(10, iv z1342), (0, .ref 106), (2, iv p2), (3, iv z1177), (6, iv z1228), (7, iv z1233), (8, iv z1238), (9, iv (z1177 + z1207))]) dX12_attributes_177 (by decide) rfl ?_
                refine mr_iload (pc := 179) (z := z1342) dX12_attributes_179 rfl ?_
                have J1414 : ∀ (z1408 : Int) (μ1410 : mM), (mT w μ1410) → (mF [106093, 106098, 106099, 106101, 126999, 170999, 173999] w μ1335 μ1410) → (mG [(960, 1000)] μ1335 μ1410) → ((0 ≤ z1408 ∧ z1408 ≤ 1)) → sV (gG l D c H0 sa) mX12_attributes (sRm 5 0 0) (sZ (gG l D c H0 sa) 0 0 (qV w [106093, 106098, 106099, 106101, 126999, 170999, 171999, 172999, 173999] μ (fun μ1 => mG [(960, 1000)] μ μ1 ∧ True))) 325 [(0, .ref 106), (2, iv p2), (3, iv z1177), (8, iv z1238), (9, iv (z1177 + z1207)), (11, iv z1408)] [] (mk w μ1410) 0 0 := by
                  intro z1408 μ1410 T1411 F1412 G1413 h1409
                  refine mr_iload (pc := 325) (z := z1408) dX12_attributes_325 rfl ?_
                  refine mr_if_ne (pc := 327) (tgt := 336) dX12_attributes_327 (by decide) (r32 h1409 rfl) (fun h1421 => ?_) (fun h1421 => ?_)
                  · have h1422 : 1 ≤ z1408 ∧ z1408 ≤ 1 := (vc_X12_attributes_15 h1421 h1409)
                    refine mr_iload (pc := 336) (z := (z1177 + z1207)) dX12_attributes_336 rfl ?_
                    refine mr_iload (pc := 338) (z := z1238) dX12_attributes_338 rfl ?_
                    refine mr_iadd (pc := 340) (x := (z1177 + z1207)) (y := z1238) dX12_attributes_340 ?_
                    refine mr_istore_n (pc := 341) (lv' := [(3, iv ((z1177 + z1207) + z1238)), (0, .ref 106), (2, iv p2), (8, iv z1238), (9, iv (z1177 + z1207)), (11, iv z1408)]) dX12_attributes_341 rfl (by decide) rfl ?_
                    refine sv_goto (pc := 342) (tgt := 2) dX12_attributes_342 (by decide) ?_
                    obtain ⟨z1423, q1424⟩ : ∃ z, μ1410 106 93 = z := ⟨_, rfl⟩
                    have h1425 : (0 ≤ z1423 ∧ z1423 ≤ 400) := by rw [← q1424]; exact T1411 106 106 (A_106 hw) 93
                    refine mr_lvS (lv' := [(0, .ref 106), (2, iv p2), (3, iv ((z1177 + z1207) + z1238))]) (List.forall_mem_cons.mpr ⟨rfl, List.forall_mem_cons.mpr ⟨rfl, List.forall_mem_cons.mpr ⟨rfl, fun _ h => absurd h List.not_mem_nil⟩⟩⟩) ?_
                    exact ih1187 ((z1177 + z1207) + z1238) μ1410 z1423 T1411 (mF.call (mF.up (mF.call mF.refl F1182 rfl) (A_171 hw) u1336 rfl) F1412 rfl) (mG.call (mG.upO (mG.call mG.refl G1183 (List.forall_mem_cons.mpr ⟨⟨_, List.mem_cons_self, vc_X12_attributes_2⟩, (fun _ h => absurd h List.not_mem_nil)⟩)) u1336 rfl) G1413 (List.forall_mem_cons.mpr ⟨⟨_, List.mem_cons_self, vc_X12_attributes_2⟩, (fun _ h => absurd h List.not_mem_nil)⟩)) q1424 (vc_X12_attributes_16 h1184 h1189 h1210 h1222 (h1237.2.1.trans h1220.2.1.symm) hq0 h1188 ht_f_size h1216 h1215 h1208 h1223 h1239) (vc_X12_attributes_17 h1184 h1189 h1210 h1222 (h1237.2.1.trans h1220.2.1.symm) hq0 h1188 ht_f_size h1216 h1215 h1208 h1223 h1239 h1425) (vc_X12_attributes_18 (nS h1185) h1184 h1189 h1210 h1222 (h1237.2.1.trans h1220.2.1.symm) hq0 h1188 ht_f_size h1216 h1215 h1208 h1223 h1239)
                  have h1426 : 0 ≤ z1408 ∧ z1408 ≤ 0 := (vc_X12_attributes_19 h1421 h1409)
                  refine sv_aload_n (pc := 330) dX12_attributes_330 rfl rfl ?_
                  refine mr_iconst (pc := 331) (z := 2) dX12_attributes_331 ?_
                  refine mr_iload_n (pc := 332) (z := z1177) dX12_attributes_332 rfl rfl ?_
                  refine mr_cVV (pc := 333) (c_X12_fails hw T1411 (rW (c := 0) (d := 3) (rR (x := 2)) rfl) (rW (c := (-2147483648)) (d := 2147483647) h1215 rfl)) (gOk _ _ _ _ _) dX12_attributes_333 (tX12_fails _ _ _ _ _) ⟨wV_X12_fails, wL_X12_fails⟩ wM_X12_620 (gCX12 _ _ _ _ _) rfl (A_106 hw) rfl ⟨le_t rfl, le_t rfl⟩ ⟨le_t rfl, le_t rfl⟩ rfl (le_t rfl) fun μ1427 T1428 F1429 h1430 => ?_
                  refine mr_iload (pc := 336) (z := (z1177 + z1207)) dX12_attributes_336 rfl ?_
                  refine mr_iload (pc := 338) (z := z1238) dX12_attributes_338 rfl ?_
                  refine mr_iadd (pc := 340) (x := (z1177 + z1207)) (y := z1238) dX12_attributes_340 ?_
                  refine mr_istore_n (pc := 341) (lv' := [(3, iv ((z1177 + z1207) + z1238)), (0, .ref 106), (2, iv p2), (8, iv z1238), (9, iv (z1177 + z1207)), (11, iv z1408)]) dX12_attributes_341 rfl (by decide) rfl ?_
                  refine sv_goto (pc := 342) (tgt := 2) dX12_attributes_342 (by decide) ?_
                  obtain ⟨z1431, q1432⟩ : ∃ z, μ1427 106 93 = z := ⟨_, rfl⟩
                  have h1433 : (0 ≤ z1431 ∧ z1431 ≤ 400) := by rw [← q1432]; exact T1428 106 106 (A_106 hw) 93
                  refine mr_lvS (lv' := [(0, .ref 106), (2, iv p2), (3, iv ((z1177 + z1207) + z1238))]) (List.forall_mem_cons.mpr ⟨rfl, List.forall_mem_cons.mpr ⟨rfl, List.forall_mem_cons.mpr ⟨rfl, fun _ h => absurd h List.not_mem_nil⟩⟩⟩) ?_
                  exact ih1187 ((z1177 + z1207) + z1238) μ1427 z1431 T1428 (mF.call (mF.call (mF.up (mF.call mF.refl F1182 rfl) (A_171 hw) u1336 rfl) F1412 rfl) F1429 rfl) (mG.fr (mG.call (mG.upO (mG.call mG.refl G1183 (List.forall_mem_cons.mpr ⟨⟨_, List.mem_cons_self, vc_X12_attributes_2⟩, (fun _ h => absurd h List.not_mem_nil)⟩)) u1336 rfl) G1413 (List.forall_mem_cons.mpr ⟨⟨_, List.mem_cons_self, vc_X12_attributes_2⟩, (fun _ h => absurd h List.not_mem_nil)⟩)) F1429 (A_126 hw) rfl) q1432 (vc_X12_attributes_16 h1184 h1189 h1210 h1222 (h1237.2.1.trans h1220.2.1.symm) hq0 h1188 ht_f_size h1216 h1215 h1208 h1223 h1239) (vc_X12_attributes_20 h1184 h1189 h1210 h1222 (h1237.2.1.trans h1220.2.1.symm) hq0 h1188 ht_f_size h1216 h1215 h1208 h1223 h1239 h1433) (vc_X12_attributes_18 (nS h1185) h1184 h1189 h1210 h1222 (h1237.2.1.trans h1220.2.1.symm) hq0 h1188 ht_f_size h1216 h1215 h1208 h1223 h1239)
                refine mr_if_lt (pc := 181) (tgt := 275) dX12_attributes_181 (by decide) (r32 h1343 rfl) (fun h1434 => ?_) (fun h1434 => ?_)
                · have h1435 : (-1) ≤ z1342 ∧ z1342 ≤ (-1) := (vc_X12_attributes_21 h1434 h1343)
                  refine mr_iload (pc := 275) (z := z1228) dX12_attributes_275 rfl ?_
                  refine mr_sipush (pc := 277) (z := 128) dX12_attributes_277 (by decide) ?_
                  refine mr_iand (pc := 280) (x := z1228) (y := 128) dX12_attributes_280 ?_
                  refine mr_gen (P := fun z => 0 ≤ z ∧ z ≤ 128) (rAndR (rR (x := 128)) rfl) fun z1436 q1437 h1438 => ?_
                  have J1443 : ∀ (z1441 : Int), ((0 ≤ z1441 ∧ z1441 ≤ 1)) → sV (gG l D c H0 sa) mX12_attributes (sRm 5 0 0) (sZ (gG l D c H0 sa) 0 0 (qV w [106093, 106098, 106099, 106101, 126999, 170999, 171999, 172999, 173999] μ (fun μ1 => mG [(960, 1000)] μ μ1 ∧ True))) 289 [(0, .ref 106), (2, iv p2), (3, iv z1177), (6, iv z1228), (7, iv z1233), (8, iv z1238), (9, iv (z1177 + z1207))] [iv z1441] (mk w μ1335) 0 0 := by
                    intro z1441 h1442
                    refine mr_istore (pc := 289) (lv' := [(11, iv z1441), (0, .ref 106), (2, iv p2), (3, iv z1177), (6, iv z1228), (7, iv z1233), (8, iv z1238), (9, iv (z1177 + z1207))]) dX12_attributes_289 (by decide) rfl ?_
                    refine mr_iload (pc := 291) (z := z1441) dX12_attributes_291 rfl ?_
                    refine mr_if_eq (pc := 293) (tgt := 325) dX12_attributes_293 (by decide) (r32 h1442 rfl) (fun h1444 => ?_) (fun h1444 => ?_)
                    · have h1445 : 0 ≤ z1441 ∧ z1441 ≤ 0 := (vc_X12_attributes_22 h1444 h1442)
                      refine mr_lvS (lv' := [(0, .ref 106), (2, iv p2), (3, iv z1177), (8, iv z1238), (9, iv (z1177 + z1207)), (11, iv z1441)]) (List.forall_mem_cons.mpr ⟨rfl, List.forall_mem_cons.mpr ⟨rfl, List.forall_mem_cons.mpr ⟨rfl, List.forall_mem_cons.mpr ⟨rfl, List.forall_mem_cons.mpr ⟨rfl, List.forall_mem_cons.mpr ⟨rfl, fun _ h => absurd h List.not_mem_nil⟩⟩⟩⟩⟩⟩) ?_
                      exact J1414 z1441 μ1335 T1337 mF.refl mG.refl (rW (c := 0) (d := 1) h1445 rfl)
                    have h1446 : 1 ≤ z1441 ∧ z1441 ≤ 1 := (vc_X12_attributes_23 h1444 h1442)
                    refine mr_iload (pc := 296) (z := z1228) dX12_attributes_296 rfl ?_
                    refine mr_bipush (pc := 298) (z := 64) dX12_attributes_298 (by decide) ?_
                    refine mr_iand (pc := 300) (x := z1228) (y := 64) dX12_attributes_300 ?_
                    refine mr_gen (P := fun z => 0 ≤ z ∧ z ≤ 64) (rAndR (rR (x := 64)) rfl) fun z1447 q1448 h1449 => ?_
                    refine mr_if_eq (pc := 301) (tgt := 325) dX12_attributes_301 (by decide) (r32 h1449 rfl) (fun h1450 => ?_) (fun h1450 => ?_)
                    · have h1451 : 0 ≤ z1447 ∧ z1447 ≤ 0 := (vc_X12_attributes_24 h1450 h1449)
                      refine mr_lvS (lv' := [(0, .ref 106), (2, iv p2), (3, iv z1177), (8, iv z1238), (9, iv (z1177 + z1207)), (11, iv z1441)]) (List.forall_mem_cons.mpr ⟨rfl, List.forall_mem_cons.mpr ⟨rfl, List.forall_mem_cons.mpr ⟨rfl, List.forall_mem_cons.mpr ⟨rfl, List.forall_mem_cons.mpr ⟨rfl, List.forall_mem_cons.mpr ⟨rfl, fun _ h => absurd h List.not_mem_nil⟩⟩⟩⟩⟩⟩) ?_
                      exact J1414 z1441 μ1335 T1337 mF.refl mG.refl (rW (c := 0) (d := 1) h1446 rfl)
                    have h1452 : 1 ≤ z1447 ∧ z1447 ≤ 64 := (vc_X12_attributes_25 h1450 h1449)
                    refine sv_aload_n (pc := 304) dX12_attributes_304 rfl rfl ?_
                    refine gf_X12_92 (pc := 305) dX12_attributes_305 wF_X12_472 (A_106 hw) T1337 ?_
                    refine sv_aload_n (pc := 308) dX12_attributes_308 rfl rfl ?_
                    refine gk_X12_93 (pc := 309) dX12_attributes_309 wF_X12_652 (A_106 hw) (u1336.f (Or.inl (mAt.ne (A_171 hw) (A_106 hw) rfl)) q1186) ?_
                    refine mr_iload (pc := 312) (z := z1233) dX12_attributes_312 rfl ?_
                    refine ss_170 (pc := 314) dX12_attributes_314 (A_170 hw) T1337 (vc_X12_attributes_26 h1184 h1189 h1210 h1222 h1188 h1216 h1215 h1208 h1223) (rW (c := (-2147483648)) (d := 2147483647) h1232.1 rfl) fun μ1453 u1454 T1455 => ?_
                    refine sv_aload_n (pc := 315) dX12_attributes_315 rfl rfl ?_
                    refine sv_dup (pc := 316) dX12_attributes_316 rfl ?_
                    refine gk_X12_93 (pc := 317) dX12_attributes_317 wF_X12_652 (A_106 hw) (u1454.f (Or.inl (mAt.ne (A_170 hw) (A_106 hw) rfl)) (u1336.f (Or.inl (mAt.ne (A_171 hw) (A_106 hw) rfl)) q1186)) ?_
                    refine mr_iconst (pc := 320) (z := 1) dX12_attributes_320 ?_
                    refine mr_iadd (pc := 321) (x := f_c) (y := 1) dX12_attributes_321 ?_
                    refine pf_X12_93 (pc := 322) dX12_attributes_322 wF_X12_652 (A_106 hw) T1455 (vc_X12_attributes_27 h1184 h1189 h1210 h1222 h1188 h1216 h1215 h1208 h1223) fun μ1456 u1457 T1458 => ?_
                    refine mr_lvS (lv' := [(0, .ref 106), (2, iv p2), (3, iv z1177), (8, iv z1238), (9, iv (z1177 + z1207)), (11, iv z1441)]) (List.forall_mem_cons.mpr ⟨rfl, List.forall_mem_cons.mpr ⟨rfl, List.forall_mem_cons.mpr ⟨rfl, List.forall_mem_cons.mpr ⟨rfl, List.forall_mem_cons.mpr ⟨rfl, List.forall_mem_cons.mpr ⟨rfl, fun _ h => absurd h List.not_mem_nil⟩⟩⟩⟩⟩⟩) ?_
                    exact J1414 z1441 μ1456 T1458 (mF.up (mF.up mF.refl (A_170 hw) u1454 rfl) (A_106 hw) u1457 rfl) (mG.upO (mG.upO mG.refl u1454 rfl) u1457 rfl) (rW (c := 0) (d := 1) h1446 rfl)
                  refine mr_if_eq (pc := 281) (tgt := 288) dX12_attributes_281 (by decide) (r32 h1438 rfl) (fun h1459 => ?_) (fun h1459 => ?_)
                  · have h1460 : 0 ≤ z1436 ∧ z1436 ≤ 0 := (vc_X12_attributes_28 h1459 h1438)
                    refine mr_iconst (pc := 288) (z := 0) dX12_attributes_288 ?_
                    refine mr_lvS (lv' := [(0, .ref 106), (2, iv p2), (3, iv z1177), (6, iv z1228), (7, iv z1233), (8, iv z1238), (9, iv (z1177 + z1207))]) (List.forall_mem_cons.mpr ⟨rfl, List.forall_mem_cons.mpr ⟨rfl, List.forall_mem_cons.mpr ⟨rfl, List.forall_mem_cons.mpr ⟨rfl, List.forall_mem_cons.mpr ⟨rfl, List.forall_mem_cons.mpr ⟨rfl, List.forall_mem_cons.mpr ⟨rfl, fun _ h => absurd h List.not_mem_nil⟩⟩⟩⟩⟩⟩⟩) ?_
                    exact J1443 0 (rW (c := 0) (d := 1) (rR (x := 0)) rfl)
                  have h1461 : 1 ≤ z1436 ∧ z1436 ≤ 128 := (vc_X12_attributes_29 h1459 h1438)
                  refine mr_iconst (pc := 284) (z := 1) dX12_attributes_284 ?_
                  refine sv_goto (pc := 285) (tgt := 289) dX12_attributes_285 (by decide) ?_
                  refine mr_lvS (lv' := [(0, .ref 106), (2, iv p2), (3, iv z1177), (6, iv z1228), (7, iv z1233), (8, iv z1238), (9, iv (z1177 + z1207))]) (List.forall_mem_cons.mpr ⟨rfl, List.forall_mem_cons.mpr ⟨rfl, List.forall_mem_cons.mpr ⟨rfl, List.forall_mem_cons.mpr ⟨rfl, List.forall_mem_cons.mpr ⟨rfl, List.forall_mem_cons.mpr ⟨rfl, List.forall_mem_cons.mpr ⟨rfl, fun _ h => absurd h List.not_mem_nil⟩⟩⟩⟩⟩⟩⟩) ?_
                  exact J1443 1 (rW (c := 0) (d := 1) (rR (x := 1)) rfl)
                have h1462 : 0 ≤ z1342 ∧ z1342 ≤ 192 := (vc_X12_attributes_30 h1434 h1343)
                refine mr_iload (pc := 184) (z := z1228) dX12_attributes_184 rfl ?_
                refine mr_bipush (pc := 186) (z := (-49)) dX12_attributes_186 (by decide) ?_
                refine mr_iand (pc := 188) (x := z1228) (y := (-49)) dX12_attributes_188 ?_
                refine mr_gen (P := fun z => 0 ≤ z ∧ z ≤ 255) (rAndL h1227.1 rfl) fun z1463 q1464 h1465 => ?_
                refine mr_iload (pc := 189) (z := z1342) dX12_attributes_189 rfl ?_
                have J1504 : ∀ (z1498 : Int) (μ1500 : mM), (mT w μ1500) → (mF [106098, 106099, 106101, 126999, 173999] w μ1335 μ1500) → (mG [(960, 1000)] μ1335 μ1500) → ((0 ≤ z1498 ∧ z1498 ≤ 1)) → sV (gG l D c H0 sa) mX12_attributes (sRm 5 0 0) (sZ (gG l D c H0 sa) 0 0 (qV w [106093, 106098, 106099, 106101, 126999, 170999, 171999, 172999, 173999] μ (fun μ1 => mG [(960, 1000)] μ μ1 ∧ True))) 270 [(0, .ref 106), (2, iv p2), (3, iv z1177), (8, iv z1238), (9, iv (z1177 + z1207))] [iv z1498] (mk w μ1500) 0 0 := by
                  intro z1498 μ1500 T1501 F1502 G1503 h1499
                  refine mr_istore (pc := 270) (lv' := [(11, iv z1498), (0, .ref 106), (2, iv p2), (3, iv z1177), (8, iv z1238), (9, iv (z1177 + z1207))]) dX12_attributes_270 (by decide) rfl ?_
                  refine sv_goto (pc := 272) (tgt := 325) dX12_attributes_272 (by decide) ?_
                  refine mr_lvS (lv' := [(0, .ref 106), (2, iv p2), (3, iv z1177), (8, iv z1238), (9, iv (z1177 + z1207)), (11, iv z1498)]) (List.forall_mem_cons.mpr ⟨rfl, List.forall_mem_cons.mpr ⟨rfl, List.forall_mem_cons.mpr ⟨rfl, List.forall_mem_cons.mpr ⟨rfl, List.forall_mem_cons.mpr ⟨rfl, List.forall_mem_cons.mpr ⟨rfl, fun _ h => absurd h List.not_mem_nil⟩⟩⟩⟩⟩⟩) ?_
                  exact J1414 z1498 μ1500 T1501 (mF.call mF.refl F1502 rfl) (mG.call mG.refl G1503 (List.forall_mem_cons.mpr ⟨⟨_, List.mem_cons_self, vc_X12_attributes_2⟩, (fun _ h => absurd h List.not_mem_nil)⟩)) h1499
                refine mr_icmp_ne (pc := 191) (tgt := 269) dX12_attributes_191 (by decide) (r32 h1465 rfl) (r32 h1462 rfl) (fun h1505 => ?_) (fun h1505 => ?_)
                · refine mr_iconst (pc := 269) (z := 0) dX12_attributes_269 ?_
                  refine mr_lvS (lv' := [(0, .ref 106), (2, iv p2), (3, iv z1177), (8, iv z1238), (9, iv (z1177 + z1207))]) (List.forall_mem_cons.mpr ⟨rfl, List.forall_mem_cons.mpr ⟨rfl, List.forall_mem_cons.mpr ⟨rfl, List.forall_mem_cons.mpr ⟨rfl, List.forall_mem_cons.mpr ⟨rfl, fun _ h => absurd h List.not_mem_nil⟩⟩⟩⟩⟩) ?_
                  exact J1504 0 μ1335 T1337 mF.refl mG.refl (rW (c := 0) (d := 1) (rR (x := 0)) rfl)
                have h1506 : 0 ≤ z1463 ∧ z1463 ≤ 192 := (vc_X12_attributes_31 h1505 h1434 h1462 h1465)
                refine mr_iload (pc := 194) (z := z1233) dX12_attributes_194 rfl ?_
                refine mr_iconst (pc := 196) (z := 1) dX12_attributes_196 ?_
                refine mr_icmp_ne (pc := 197) (tgt := 214) dX12_attributes_197 (by decide) (r32 h1232.1 rfl) (r32 (rR (x := 1)) rfl) (fun h1507 => ?_) (fun h1507 => ?_)
                · refine mr_iload (pc := 214) (z := z1233) dX12_attributes_214 rfl ?_
                  refine mr_iconst (pc := 216) (z := 2) dX12_attributes_216 ?_
                  refine mr_icmp_ne (pc := 217) (tgt := 234) dX12_attributes_217 (by decide) (r32 h1232.1 rfl) (r32 (rR (x := 2)) rfl) (fun h1508 => ?_) (fun h1508 => ?_)
                  · refine mr_iload (pc := 234) (z := z1233) dX12_attributes_234 rfl ?_
                    refine mr_iconst (pc := 236) (z := 4) dX12_attributes_236 ?_
                    refine mr_icmp_ne (pc := 237) (tgt := 254) dX12_attributes_237 (by decide) (r32 h1232.1 rfl) (r32 (rR (x := 4)) rfl) (fun h1509 => ?_) (fun h1509 => ?_)
                    · refine sv_aload_n (pc := 254) dX12_attributes_254 rfl rfl ?_
                      refine mr_iload (pc := 255) (z := (z1177 + z1207)) dX12_attributes_255 rfl ?_
                      refine mr_iload (pc := 257) (z := z1238) dX12_attributes_257 rfl ?_
                      refine mr_cVI (pc := 259) (c_X12_marksRight_f hw T1337 (vc_X12_attributes_32 h1184 h1189 h1210 h1222 hq0 (h1237.2.1.trans h1220.2.1.symm) h1188 ht_f_size h1216 h1215 h1208 h1223 h1239) (rW (c := 0) (d := 1000) h1239 rfl) (u1336.f (Or.inl (mAt.ne (A_171 hw) (A_106 hw) rfl)) (F1182.f (A_106 hw) rfl q_f_size)) (vc_X12_attributes_33 hq0 h1184 h1189 h1210 h1222 (h1237.2.1.trans h1220.2.1.symm) h1188 ht_f_size h1216 h1215 h1208 h1223 h1239)) (gOk _ _ _ _ _) dX12_attributes_259 (tX12_marksRight _ _ _ _ _) ⟨wV_X12_marksRight, wL_X12_marksRight⟩ wM_X12_649 (gCX12 _ _ _ _ _) rfl (A_106 hw) rfl ⟨le_t rfl, le_t rfl⟩ ⟨le_t rfl, le_t rfl⟩ rfl (le_t rfl) fun z1514 μ1510 T1511 F1512 h1513 => ?_
                      refine mr_if_eq (pc := 262) (tgt := 269) dX12_attributes_262 (by decide) (r32 h1513.1 rfl) (fun h1515 => ?_) (fun h1515 => ?_)
                      · have h1516 : 0 ≤ z1514 ∧ z1514 ≤ 0 := (vc_X12_attributes_34 h1515 h1513.1)
                        refine mr_iconst (pc := 269) (z := 0) dX12_attributes_269 ?_
                        refine mr_lvS (lv' := [(0, .ref 106), (2, iv p2), (3, iv z1177), (8, iv z1238), (9, iv (z1177 + z1207))]) (List.forall_mem_cons.mpr ⟨rfl, List.forall_mem_cons.mpr ⟨rfl, List.forall_mem_cons.mpr ⟨rfl, List.forall_mem_cons.mpr ⟨rfl, List.forall_mem_cons.mpr ⟨rfl, fun _ h => absurd h List.not_mem_nil⟩⟩⟩⟩⟩) ?_
                        exact J1504 0 μ1510 T1511 (mF.call mF.refl F1512 rfl) (mG.call mG.refl h1513.2.1 (List.forall_mem_cons.mpr ⟨⟨_, List.mem_cons_self, vc_X12_attributes_35⟩, (fun _ h => absurd h List.not_mem_nil)⟩)) (rW (c := 0) (d := 1) (rR (x := 0)) rfl)
                      have h1517 : 1 ≤ z1514 ∧ z1514 ≤ 1 := (vc_X12_attributes_36 h1515 h1513.1)
                      refine mr_iconst (pc := 265) (z := 1) dX12_attributes_265 ?_
                      refine sv_goto (pc := 266) (tgt := 270) dX12_attributes_266 (by decide) ?_
                      refine mr_lvS (lv' := [(0, .ref 106), (2, iv p2), (3, iv z1177), (8, iv z1238), (9, iv (z1177 + z1207))]) (List.forall_mem_cons.mpr ⟨rfl, List.forall_mem_cons.mpr ⟨rfl, List.forall_mem_cons.mpr ⟨rfl, List.forall_mem_cons.mpr ⟨rfl, List.forall_mem_cons.mpr ⟨rfl, fun _ h => absurd h List.not_mem_nil⟩⟩⟩⟩⟩) ?_
                      exact J1504 1 μ1510 T1511 (mF.call mF.refl F1512 rfl) (mG.call mG.refl h1513.2.1 (List.forall_mem_cons.mpr ⟨⟨_, List.mem_cons_self, vc_X12_attributes_35⟩, (fun _ h => absurd h List.not_mem_nil)⟩)) (rW (c := 0) (d := 1) (rR (x := 1)) rfl)
                    have h1518 : 4 ≤ z1233 ∧ z1233 ≤ 4 := (vc_X12_attributes_37 h1509 h1507 h1508 h1232.1)
                    refine sv_aload_n (pc := 240) dX12_attributes_240 rfl rfl ?_
                    refine mr_iload (pc := 241) (z := (z1177 + z1207)) dX12_attributes_241 rfl ?_
                    refine mr_iload (pc := 243) (z := z1238) dX12_attributes_243 rfl ?_
                    refine mr_cVI (pc := 245) (c_X12_costRight_f hw T1337 (vc_X12_attributes_32 h1184 h1189 h1210 h1222 hq0 (h1237.2.1.trans h1220.2.1.symm) h1188 ht_f_size h1216 h1215 h1208 h1223 h1239) (rW (c := 0) (d := 1000) h1239 rfl) (u1336.f (Or.inl (mAt.ne (A_171 hw) (A_106 hw) rfl)) (F1182.f (A_106 hw) rfl q_f_size)) (vc_X12_attributes_33 hq0 h1184 h1189 h1210 h1222 (h1237.2.1.trans h1220.2.1.symm) h1188 ht_f_size h1216 h1215 h1208 h1223 h1239)) (gOk _ _ _ _ _) dX12_attributes_245 (tX12_costRight _ _ _ _ _) ⟨wV_X12_costRight, wL_X12_costRight⟩ wM_X12_646 (gCX12 _ _ _ _ _) rfl (A_106 hw) rfl ⟨le_t rfl, le_t rfl⟩ ⟨le_t rfl, le_t rfl⟩ rfl (le_t rfl) fun z1523 μ1519 T1520 F1521 h1522 => ?_
                    refine mr_if_eq (pc := 248) (tgt := 269) dX12_attributes_248 (by decide) (r32 h1522.1 rfl) (fun h1524 => ?_) (fun h1524 => ?_)
                    · have h1525 : 0 ≤ z1523 ∧ z1523 ≤ 0 := (vc_X12_attributes_38 h1524 h1522.1)
                      refine mr_iconst (pc := 269) (z := 0) dX12_attributes_269 ?_
                      refine mr_lvS (lv' := [(0, .ref 106), (2, iv p2), (3, iv z1177), (8, iv z1238), (9, iv (z1177 + z1207))]) (List.forall_mem_cons.mpr ⟨rfl, List.forall_mem_cons.mpr ⟨rfl, List.forall_mem_cons.mpr ⟨rfl, List.forall_mem_cons.mpr ⟨rfl, List.forall_mem_cons.mpr ⟨rfl, fun _ h => absurd h List.not_mem_nil⟩⟩⟩⟩⟩) ?_
                      exact J1504 0 μ1519 T1520 (mF.call mF.refl F1521 rfl) (mG.call mG.refl h1522.2.1 (List.forall_mem_cons.mpr ⟨⟨_, List.mem_cons_self, vc_X12_attributes_39⟩, (fun _ h => absurd h List.not_mem_nil)⟩)) (rW (c := 0) (d := 1) (rR (x := 0)) rfl)
                    have h1526 : 1 ≤ z1523 ∧ z1523 ≤ 1 := (vc_X12_attributes_40 h1524 h1522.1)
                    refine sv_goto (pc := 251) (tgt := 265) dX12_attributes_251 (by decide) ?_
                    refine mr_iconst (pc := 265) (z := 1) dX12_attributes_265 ?_
                    refine sv_goto (pc := 266) (tgt := 270) dX12_attributes_266 (by decide) ?_
                    refine mr_lvS (lv' := [(0, .ref 106), (2, iv p2), (3, iv z1177), (8, iv z1238), (9, iv (z1177 + z1207))]) (List.forall_mem_cons.mpr ⟨rfl, List.forall_mem_cons.mpr ⟨rfl, List.forall_mem_cons.mpr ⟨rfl, List.forall_mem_cons.mpr ⟨rfl, List.forall_mem_cons.mpr ⟨rfl, fun _ h => absurd h List.not_mem_nil⟩⟩⟩⟩⟩) ?_
                    exact J1504 1 μ1519 T1520 (mF.call mF.refl F1521 rfl) (mG.call mG.refl h1522.2.1 (List.forall_mem_cons.mpr ⟨⟨_, List.mem_cons_self, vc_X12_attributes_39⟩, (fun _ h => absurd h List.not_mem_nil)⟩)) (rW (c := 0) (d := 1) (rR (x := 1)) rfl)
                  have h1527 : 2 ≤ z1233 ∧ z1233 ≤ 2 := (vc_X12_attributes_41 h1508 h1507 h1232.1)
                  refine sv_aload_n (pc := 220) dX12_attributes_220 rfl rfl ?_
                  refine mr_iload (pc := 221) (z := (z1177 + z1207)) dX12_attributes_221 rfl ?_
                  refine mr_iload (pc := 223) (z := z1238) dX12_attributes_223 rfl ?_
                  refine mr_cVI (pc := 225) (c_X12_wayRight hw T1337 (vc_X12_attributes_32 h1184 h1189 h1210 h1222 hq0 (h1237.2.1.trans h1220.2.1.symm) h1188 ht_f_size h1216 h1215 h1208 h1223 h1239) (rW (c := 0) (d := 1000) h1239 rfl) (u1336.f (Or.inl (mAt.ne (A_171 hw) (A_106 hw) rfl)) (F1182.f (A_106 hw) rfl q_f_size)) (vc_X12_attributes_33 hq0 h1184 h1189 h1210 h1222 (h1237.2.1.trans h1220.2.1.symm) h1188 ht_f_size h1216 h1215 h1208 h1223 h1239)) (gOk _ _ _ _ _) dX12_attributes_225 (tX12_wayRight _ _ _ _ _) ⟨wV_X12_wayRight, wL_X12_wayRight⟩ wM_X12_643 (gCX12 _ _ _ _ _) rfl (A_106 hw) rfl ⟨le_t rfl, le_t rfl⟩ ⟨le_t rfl, le_t rfl⟩ rfl (le_t rfl) fun z1532 μ1528 T1529 F1530 h1531 => ?_
                  refine mr_if_eq (pc := 228) (tgt := 269) dX12_attributes_228 (by decide) (r32 h1531.1 rfl) (fun h1533 => ?_) (fun h1533 => ?_)
                  · have h1534 : 0 ≤ z1532 ∧ z1532 ≤ 0 := (vc_X12_attributes_42 h1533 h1531.1)
                    refine mr_iconst (pc := 269) (z := 0) dX12_attributes_269 ?_
                    refine mr_lvS (lv' := [(0, .ref 106), (2, iv p2), (3, iv z1177), (8, iv z1238), (9, iv (z1177 + z1207))]) (List.forall_mem_cons.mpr ⟨rfl, List.forall_mem_cons.mpr ⟨rfl, List.forall_mem_cons.mpr ⟨rfl, List.forall_mem_cons.mpr ⟨rfl, List.forall_mem_cons.mpr ⟨rfl, fun _ h => absurd h List.not_mem_nil⟩⟩⟩⟩⟩) ?_
                    exact J1504 0 μ1528 T1529 (mF.call mF.refl F1530 rfl) (mG.call mG.refl h1531.2.1 (List.forall_mem_cons.mpr ⟨⟨_, List.mem_cons_self, vc_X12_attributes_43⟩, (fun _ h => absurd h List.not_mem_nil)⟩)) (rW (c := 0) (d := 1) (rR (x := 0)) rfl)
                  have h1535 : 1 ≤ z1532 ∧ z1532 ≤ 1 := (vc_X12_attributes_44 h1533 h1531.1)
                  refine sv_goto (pc := 231) (tgt := 265) dX12_attributes_231 (by decide) ?_
                  refine mr_iconst (pc := 265) (z := 1) dX12_attributes_265 ?_
                  refine sv_goto (pc := 266) (tgt := 270) dX12_attributes_266 (by decide) ?_
                  refine mr_lvS (lv' := [(0, .ref 106), (2, iv p2), (3, iv z1177), (8, iv z1238), (9, iv (z1177 + z1207))]) (List.forall_mem_cons.mpr ⟨rfl, List.forall_mem_cons.mpr ⟨rfl, List.forall_mem_cons.mpr ⟨rfl, List.forall_mem_cons.mpr ⟨rfl, List.forall_mem_cons.mpr ⟨rfl, fun _ h => absurd h List.not_mem_nil⟩⟩⟩⟩⟩) ?_
                  exact J1504 1 μ1528 T1529 (mF.call mF.refl F1530 rfl) (mG.call mG.refl h1531.2.1 (List.forall_mem_cons.mpr ⟨⟨_, List.mem_cons_self, vc_X12_attributes_43⟩, (fun _ h => absurd h List.not_mem_nil)⟩)) (rW (c := 0) (d := 1) (rR (x := 1)) rfl)
                have h1536 : 1 ≤ z1233 ∧ z1233 ≤ 1 := (vc_X12_attributes_45 h1507 h1232.1)
                refine sv_aload_n (pc := 200) dX12_attributes_200 rfl rfl ?_
                refine mr_iload (pc := 201) (z := (z1177 + z1207)) dX12_attributes_201 rfl ?_
                refine mr_iload (pc := 203) (z := z1238) dX12_attributes_203 rfl ?_
                refine mr_cVI (pc := 205) (c_X12_originRight_f hw T1337 (vc_X12_attributes_32 h1184 h1189 h1210 h1222 hq0 (h1237.2.1.trans h1220.2.1.symm) h1188 ht_f_size h1216 h1215 h1208 h1223 h1239) (rW (c := 0) (d := 1000) h1239 rfl) (u1336.f (Or.inl (mAt.ne (A_171 hw) (A_106 hw) rfl)) (F1182.f (A_106 hw) rfl q_f_size)) (vc_X12_attributes_33 hq0 h1184 h1189 h1210 h1222 (h1237.2.1.trans h1220.2.1.symm) h1188 ht_f_size h1216 h1215 h1208 h1223 h1239)) (gOk _ _ _ _ _) dX12_attributes_205 (tX12_originRight _ _ _ _ _) ⟨wV_X12_originRight, wL_X12_originRight⟩ wM_X12_640 (gCX12 _ _ _ _ _) rfl (A_106 hw) rfl ⟨le_t rfl, le_t rfl⟩ ⟨le_t rfl, le_t rfl⟩ rfl (le_t rfl) fun z1541 μ1537 T1538 F1539 h1540 => ?_
                refine mr_if_eq (pc := 208) (tgt := 269) dX12_attributes_208 (by decide) (r32 h1540.1 rfl) (fun h1542 => ?_) (fun h1542 => ?_)
                · have h1543 : 0 ≤ z1541 ∧ z1541 ≤ 0 := (vc_X12_attributes_46 h1542 h1540.1)
                  refine mr_iconst (pc := 269) (z := 0) dX12_attributes_269 ?_
                  refine mr_lvS (lv' := [(0, .ref 106), (2, iv p2), (3, iv z1177), (8, iv z1238), (9, iv (z1177 + z1207))]) (List.forall_mem_cons.mpr ⟨rfl, List.forall_mem_cons.mpr ⟨rfl, List.forall_mem_cons.mpr ⟨rfl, List.forall_mem_cons.mpr ⟨rfl, List.forall_mem_cons.mpr ⟨rfl, fun _ h => absurd h List.not_mem_nil⟩⟩⟩⟩⟩) ?_
                  exact J1504 0 μ1537 T1538 (mF.call mF.refl F1539 rfl) (mG.call mG.refl h1540.2.1 (List.forall_mem_cons.mpr ⟨⟨_, List.mem_cons_self, vc_X12_attributes_47⟩, (fun _ h => absurd h List.not_mem_nil)⟩)) (rW (c := 0) (d := 1) (rR (x := 0)) rfl)
                have h1544 : 1 ≤ z1541 ∧ z1541 ≤ 1 := (vc_X12_attributes_48 h1542 h1540.1)
                refine sv_goto (pc := 211) (tgt := 265) dX12_attributes_211 (by decide) ?_
                refine mr_iconst (pc := 265) (z := 1) dX12_attributes_265 ?_
                refine sv_goto (pc := 266) (tgt := 270) dX12_attributes_266 (by decide) ?_
                refine mr_lvS (lv' := [(0, .ref 106), (2, iv p2), (3, iv z1177), (8, iv z1238), (9, iv (z1177 + z1207))]) (List.forall_mem_cons.mpr ⟨rfl, List.forall_mem_cons.mpr ⟨rfl, List.forall_mem_cons.mpr ⟨rfl, List.forall_mem_cons.mpr ⟨rfl, List.forall_mem_cons.mpr ⟨rfl, fun _ h => absurd h List.not_mem_nil⟩⟩⟩⟩⟩) ?_
                exact J1504 1 μ1537 T1538 (mF.call mF.refl F1539 rfl) (mG.call mG.refl h1540.2.1 (List.forall_mem_cons.mpr ⟨⟨_, List.mem_cons_self, vc_X12_attributes_47⟩, (fun _ h => absurd h List.not_mem_nil)⟩)) (rW (c := 0) (d := 1) (rR (x := 1)) rfl)
              refine mr_icmp_eq (pc := 137) (tgt := 146) dX12_attributes_137 (by decide) (r32 h1232.1 rfl) (r32 (rR (x := 1)) rfl) (fun h1545 => ?_) (fun h1545 => ?_)
              · have h1546 : 1 ≤ z1233 ∧ z1233 ≤ 1 := (vc_X12_attributes_45 h1545 h1232.1)
                refine mr_bipush (pc := 146) (z := 64) dX12_attributes_146 (by decide) ?_
                refine sv_goto (pc := 148) (tgt := 177) dX12_attributes_148 (by decide) ?_
                refine mr_lvS (lv' := [(0, .ref 106), (2, iv p2), (3, iv z1177), (6, iv z1228), (7, iv z1233), (8, iv z1238), (9, iv (z1177 + z1207))]) (List.forall_mem_cons.mpr ⟨rfl, List.forall_mem_cons.mpr ⟨rfl, List.forall_mem_cons.mpr ⟨rfl, List.forall_mem_cons.mpr ⟨rfl, List.forall_mem_cons.mpr ⟨rfl, List.forall_mem_cons.mpr ⟨rfl, List.forall_mem_cons.mpr ⟨rfl, fun _ h => absurd h List.not_mem_nil⟩⟩⟩⟩⟩⟩⟩) ?_
                exact J1344 64 (rW (c := (-1)) (d := 192) (rR (x := 64)) rfl)
              refine mr_iload (pc := 140) (z := z1233) dX12_attributes_140 rfl ?_
              refine mr_iconst (pc := 142) (z := 2) dX12_attributes_142 ?_
              refine mr_icmp_ne (pc := 143) (tgt := 151) dX12_attributes_143 (by decide) (r32 h1232.1 rfl) (r32 (rR (x := 2)) rfl) (fun h1547 => ?_) (fun h1547 => ?_)
              · refine mr_iload (pc := 151) (z := z1233) dX12_attributes_151 rfl ?_
                refine mr_iconst (pc := 153) (z := 4) dX12_attributes_153 ?_
                refine mr_icmp_ne (pc := 154) (tgt := 163) dX12_attributes_154 (by decide) (r32 h1232.1 rfl) (r32 (rR (x := 4)) rfl) (fun h1548 => ?_) (fun h1548 => ?_)
                · refine mr_iload (pc := 163) (z := z1233) dX12_attributes_163 rfl ?_
                  refine mr_bipush (pc := 165) (z := 8) dX12_attributes_165 (by decide) ?_
                  refine mr_icmp_ne (pc := 167) (tgt := 176) dX12_attributes_167 (by decide) (r32 h1232.1 rfl) (r32 (rR (x := 8)) rfl) (fun h1549 => ?_) (fun h1549 => ?_)
                  · refine mr_iconst (pc := 176) (z := (-1)) dX12_attributes_176 ?_
                    refine mr_lvS (lv' := [(0, .ref 106), (2, iv p2), (3, iv z1177), (6, iv z1228), (7, iv z1233), (8, iv z1238), (9, iv (z1177 + z1207))]) (List.forall_mem_cons.mpr ⟨rfl, List.forall_mem_cons.mpr ⟨rfl, List.forall_mem_cons.mpr ⟨rfl, List.forall_mem_cons.mpr ⟨rfl, List.forall_mem_cons.mpr ⟨rfl, List.forall_mem_cons.mpr ⟨rfl, List.forall_mem_cons.mpr ⟨rfl, fun _ h => absurd h List.not_mem_nil⟩⟩⟩⟩⟩⟩⟩) ?_
                    exact J1344 (-1) (rW (c := (-1)) (d := 192) (rR (x := (-1))) rfl)
                  have h1550 : 8 ≤ z1233 ∧ z1233 ≤ 8 := (vc_X12_attributes_49 h1549 h1545 h1547 h1548 h1232.1)
                  refine mr_sipush (pc := 170) (z := 192) dX12_attributes_170 (by decide) ?_
                  refine sv_goto (pc := 173) (tgt := 177) dX12_attributes_173 (by decide) ?_
                  refine mr_lvS (lv' := [(0, .ref 106), (2, iv p2), (3, iv z1177), (6, iv z1228), (7, iv z1233), (8, iv z1238), (9, iv (z1177 + z1207))]) (List.forall_mem_cons.mpr ⟨rfl, List.forall_mem_cons.mpr ⟨rfl, List.forall_mem_cons.mpr ⟨rfl, List.forall_mem_cons.mpr ⟨rfl, List.forall_mem_cons.mpr ⟨rfl, List.forall_mem_cons.mpr ⟨rfl, List.forall_mem_cons.mpr ⟨rfl, fun _ h => absurd h List.not_mem_nil⟩⟩⟩⟩⟩⟩⟩) ?_
                  exact J1344 192 (rW (c := (-1)) (d := 192) (rR (x := 192)) rfl)
                have h1551 : 4 ≤ z1233 ∧ z1233 ≤ 4 := (vc_X12_attributes_37 h1548 h1545 h1547 h1232.1)
                refine mr_sipush (pc := 157) (z := 128) dX12_attributes_157 (by decide) ?_
                refine sv_goto (pc := 160) (tgt := 177) dX12_attributes_160 (by decide) ?_
                refine mr_lvS (lv' := [(0, .ref 106), (2, iv p2), (3, iv z1177), (6, iv z1228), (7, iv z1233), (8, iv z1238), (9, iv (z1177 + z1207))]) (List.forall_mem_cons.mpr ⟨rfl, List.forall_mem_cons.mpr ⟨rfl, List.forall_mem_cons.mpr ⟨rfl, List.forall_mem_cons.mpr ⟨rfl, List.forall_mem_cons.mpr ⟨rfl, List.forall_mem_cons.mpr ⟨rfl, List.forall_mem_cons.mpr ⟨rfl, fun _ h => absurd h List.not_mem_nil⟩⟩⟩⟩⟩⟩⟩) ?_
                exact J1344 128 (rW (c := (-1)) (d := 192) (rR (x := 128)) rfl)
              have h1552 : 2 ≤ z1233 ∧ z1233 ≤ 2 := (vc_X12_attributes_41 h1547 h1545 h1232.1)
              refine mr_bipush (pc := 146) (z := 64) dX12_attributes_146 (by decide) ?_
              refine sv_goto (pc := 148) (tgt := 177) dX12_attributes_148 (by decide) ?_
              refine mr_lvS (lv' := [(0, .ref 106), (2, iv p2), (3, iv z1177), (6, iv z1228), (7, iv z1233), (8, iv z1238), (9, iv (z1177 + z1207))]) (List.forall_mem_cons.mpr ⟨rfl, List.forall_mem_cons.mpr ⟨rfl, List.forall_mem_cons.mpr ⟨rfl, List.forall_mem_cons.mpr ⟨rfl, List.forall_mem_cons.mpr ⟨rfl, List.forall_mem_cons.mpr ⟨rfl, List.forall_mem_cons.mpr ⟨rfl, fun _ h => absurd h List.not_mem_nil⟩⟩⟩⟩⟩⟩⟩) ?_
              exact J1344 64 (rW (c := (-1)) (d := 192) (rR (x := 64)) rfl)
            have h1553 : 1 ≤ z1240 ∧ z1240 ≤ 1 := (vc_X12_attributes_50 h1333 h1242)
            refine sv_aload_n (pc := 117) dX12_attributes_117 rfl rfl ?_
            refine mr_iconst (pc := 118) (z := 3) dX12_attributes_118 ?_
            refine mr_iload_n (pc := 119) (z := z1177) dX12_attributes_119 rfl rfl ?_
            refine mr_cVV (pc := 120) (c_X12_fails hw T1181 (rW (c := 0) (d := 3) (rR (x := 3)) rfl) (rW (c := (-2147483648)) (d := 2147483647) h1215 rfl)) (gOk _ _ _ _ _) dX12_attributes_120 (tX12_fails _ _ _ _ _) ⟨wV_X12_fails, wL_X12_fails⟩ wM_X12_620 (gCX12 _ _ _ _ _) rfl (A_106 hw) rfl ⟨le_t rfl, le_t rfl⟩ ⟨le_t rfl, le_t rfl⟩ rfl (le_t rfl) fun μ1554 T1555 F1556 h1557 => ?_
            refine sv_goto (pc := 123) (tgt := 336) dX12_attributes_123 (by decide) ?_
            refine mr_iload (pc := 336) (z := (z1177 + z1207)) dX12_attributes_336 rfl ?_
            refine mr_iload (pc := 338) (z := z1238) dX12_attributes_338 rfl ?_
            refine mr_iadd (pc := 340) (x := (z1177 + z1207)) (y := z1238) dX12_attributes_340 ?_
            refine mr_istore_n (pc := 341) (lv' := [(3, iv ((z1177 + z1207) + z1238)), (9, iv (z1177 + z1207)), (8, iv z1238), (7, iv z1233), (6, iv z1228), (5, iv z1207), (0, .ref 106), (2, iv p2)]) dX12_attributes_341 rfl (by decide) rfl ?_
            refine sv_goto (pc := 342) (tgt := 2) dX12_attributes_342 (by decide) ?_
            refine mr_lvS (lv' := [(0, .ref 106), (2, iv p2), (3, iv ((z1177 + z1207) + z1238))]) (List.forall_mem_cons.mpr ⟨rfl, List.forall_mem_cons.mpr ⟨rfl, List.forall_mem_cons.mpr ⟨rfl, fun _ h => absurd h List.not_mem_nil⟩⟩⟩) ?_
            exact ih1187 ((z1177 + z1207) + z1238) μ1554 f_c T1555 (mF.call (mF.call mF.refl F1182 rfl) F1556 rfl) (mG.fr (mG.call mG.refl G1183 (List.forall_mem_cons.mpr ⟨⟨_, List.mem_cons_self, vc_X12_attributes_2⟩, (fun _ h => absurd h List.not_mem_nil)⟩)) F1556 (A_126 hw) rfl) (F1556.f (A_106 hw) rfl q1186) (vc_X12_attributes_16 h1184 h1189 h1210 h1222 (h1237.2.1.trans h1220.2.1.symm) hq0 h1188 ht_f_size h1216 h1215 h1208 h1223 h1239) (vc_X12_attributes_51 h1184 h1189 h1210 h1222 (h1237.2.1.trans h1220.2.1.symm) hq0 h1188 ht_f_size h1216 h1215 h1208 h1223 h1239) (vc_X12_attributes_18 (nS h1185) h1184 h1189 h1210 h1222 (h1237.2.1.trans h1220.2.1.symm) hq0 h1188 ht_f_size h1216 h1215 h1208 h1223 h1239)
          refine sv_aload_n (pc := 65) dX12_attributes_65 rfl rfl ?_
          refine mr_iconst (pc := 66) (z := 2) dX12_attributes_66 ?_
          refine mr_iload_n (pc := 67) (z := z1177) dX12_attributes_67 rfl rfl ?_
          refine mr_cVV (pc := 68) (c_X12_fails hw T1181 (rW (c := 0) (d := 3) (rR (x := 2)) rfl) (rW (c := (-2147483648)) (d := 2147483647) h1215 rfl)) (gOk _ _ _ _ _) dX12_attributes_68 (tX12_fails _ _ _ _ _) ⟨wV_X12_fails, wL_X12_fails⟩ wM_X12_620 (gCX12 _ _ _ _ _) rfl (A_106 hw) rfl ⟨le_t rfl, le_t rfl⟩ ⟨le_t rfl, le_t rfl⟩ rfl (le_t rfl) fun μ1558 T1559 F1560 h1561 => ?_
          exact mr_vret dX12_attributes_71 rfl (le_t rfl) (le_t rfl) T1559 (mF.call (mF.call mF.refl F1182 rfl) F1560 rfl) ⟨(mG.fr (mG.call mG.refl G1183 (List.forall_mem_cons.mpr ⟨⟨_, List.mem_cons_self, vc_X12_attributes_2⟩, (fun _ h => absurd h List.not_mem_nil)⟩)) F1560 (A_126 hw) rfl), trivial⟩
        refine mr_if_eq (pc := 27) (tgt := 34) dX12_attributes_27 (by decide) (r32 h1203 rfl) (fun h1562 => ?_) (fun h1562 => ?_)
        · have h1563 : 0 ≤ z1202 ∧ z1202 ≤ 0 := (vc_X12_attributes_52 h1562 h1203)
          refine mr_iconst (pc := 34) (z := 3) dX12_attributes_34 ?_
          refine mr_lvS (lv' := [(0, .ref 106), (2, iv p2), (3, iv z1177)]) (List.forall_mem_cons.mpr ⟨rfl, List.forall_mem_cons.mpr ⟨rfl, List.forall_mem_cons.mpr ⟨rfl, fun _ h => absurd h List.not_mem_nil⟩⟩⟩) ?_
          exact J1209 3 (rW (c := 3) (d := 4) (rR (x := 3)) rfl)
        have h1564 : 1 ≤ z1202 ∧ z1202 ≤ 1 := (vc_X12_attributes_53 h1562 h1203)
        refine mr_iconst (pc := 30) (z := 4) dX12_attributes_30 ?_
        refine sv_goto (pc := 31) (tgt := 35) dX12_attributes_31 (by decide) ?_
        refine mr_lvS (lv' := [(0, .ref 106), (2, iv p2), (3, iv z1177)]) (List.forall_mem_cons.mpr ⟨rfl, List.forall_mem_cons.mpr ⟨rfl, List.forall_mem_cons.mpr ⟨rfl, fun _ h => absurd h List.not_mem_nil⟩⟩⟩) ?_
        exact J1209 4 (rW (c := 3) (d := 4) (rR (x := 4)) rfl)
      refine mr_if_eq (pc := 15) (tgt := 22) dX12_attributes_15 (by decide) (r32 h1199 rfl) (fun h1565 => ?_) (fun h1565 => ?_)
      · have h1566 : 0 ≤ z1197 ∧ z1197 ≤ 0 := (vc_X12_attributes_54 h1565 h1199)
        refine mr_iconst (pc := 22) (z := 0) dX12_attributes_22 ?_
        exact J1204 0 (rW (c := 0) (d := 1) (rR (x := 0)) rfl)
      have h1567 : 1 ≤ z1197 ∧ z1197 ≤ 16 := (vc_X12_attributes_55 h1565 h1199)
      refine mr_iconst (pc := 18) (z := 1) dX12_attributes_18 ?_
      refine sv_goto (pc := 19) (tgt := 23) dX12_attributes_19 (by decide) ?_
      exact J1204 1 (rW (c := 0) (d := 1) (rR (x := 1)) rfl)
  refine mr_lvS (lv' := [(0, .ref 106), (2, iv p2), (3, iv p1)]) (List.forall_mem_cons.mpr ⟨rfl, List.forall_mem_cons.mpr ⟨rfl, List.forall_mem_cons.mpr ⟨rfl, fun _ h => absurd h List.not_mem_nil⟩⟩⟩) ?_
  exact L1179 1004 p1 μ f_c0 hT mF.refl mG.refl q_f_c0 hp1 (vc_X12_attributes_56 hq1 ht_f_c0 hp1) (vc_X12_attributes_57 hq1 ht_f_c0 hp1)
