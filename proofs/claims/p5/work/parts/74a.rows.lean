theorem vc_X12_byteAt_f_1 {f_size p1 : Int} (h0 : p1 < f_size) (h1 : 0 ≤ f_size ∧ f_size ≤ 1000) (h2 : 0 ≤ p1 ∧ p1 ≤ 2147483647) : 0 ≤ p1 ∧ p1 ≤ 999 := by omega
theorem vc_X12_byteAt_f_2 {f_size p1 : Int} (h0 : p1 < f_size) (h1 : 0 ≤ f_size ∧ f_size ≤ 1000) (h2 : 0 ≤ p1 ∧ p1 ≤ 999) : 1 ≤ f_size ∧ f_size ≤ 1000 := by omega
theorem vc_X12_byteAt_f_3 {f_size p1 : Int} (h0 : f_size ≤ p1) (h1 : p1 < f_size) (h2 : 1 ≤ f_size ∧ f_size ≤ 1000) (h3 : 0 ≤ p1 ∧ p1 ≤ 999) : False := by omega
theorem vc_X12_byteAt_f_4 {f_size p1 : Int} (h0 : p1 < f_size) (h1 : 1 ≤ f_size ∧ f_size ≤ 1000) (h2 : 0 ≤ p1 ∧ p1 ≤ 999) : p1 < f_size := by omega
set_option maxRecDepth 4000 in
set_option maxHeartbeats 4000000 in
theorem c_X12_byteAt_f {l : Launch} {D : va_G} {c : Nat → ClassId} {H0 : Heap} {sa : Nat × Nat × (Nat → Int32)} {w : mW} {μ : mM} (hw : mWF w) (hT : mT w μ) {p1 : Int} (hp1 : 0 ≤ p1 ∧ p1 ≤ 2147483647) {f_size : Int} (q_f_size : μ 106 1 = f_size) (hq0 : p1 < f_size) : sC (gG l D c H0 sa) mX12_byteAt 1 0 0 [.ref 106, iv p1] (mk w μ) (qP w μ (fun z => (0 ≤ z ∧ z ≤ 255) ∧ z = byteF μ p1 ∧ True)) := by
  refine sC.of rfl (by decide) (le_t rfl) ?_
  have ht_f_size : (0 ≤ f_size ∧ f_size ≤ 1000) := by rw [← q_f_size]; exact hT 106 106 (A_106 hw) 1
  have h1 : 0 ≤ p1 ∧ p1 ≤ 999 := (vc_X12_byteAt_f_1 hq0 ht_f_size hp1)
  have h2 : 1 ≤ f_size ∧ f_size ≤ 1000 := (vc_X12_byteAt_f_2 hq0 ht_f_size h1)
  refine mr_lvE (lv' := [(0, .ref 106), (1, iv p1)]) rfl ?_
  refine mr_iload_n (pc := 0) (z := p1) dX12_byteAt_0 rfl rfl ?_
  refine sv_aload_n (pc := 1) dX12_byteAt_1 rfl rfl ?_
  refine gk_X12_1 (pc := 2) dX12_byteAt_2 wF_X12_1 (A_106 hw) q_f_size ?_
  refine mr_icmp_ge (pc := 5) (tgt := 21) dX12_byteAt_5 (by decide) (r32 h1 rfl) (r32 h2 rfl) (fun h => ((vc_X12_byteAt_f_3 h hq0 h2 h1)).elim) (fun h24 => ?_)
  refine sv_aload_n (pc := 8) dX12_byteAt_8 rfl rfl ?_
  refine gf_X12_0 (pc := 9) dX12_byteAt_9 wF_X12_7 (A_106 hw) hT ?_
  refine mr_iload_n (pc := 12) (z := p1) dX12_byteAt_12 rfl rfl ?_
  refine la_107 (pc := 13) dX12_byteAt_13 (A_107 hw) hT (rIx (n := 1000) h1 rfl) fun z25 q26 h27 => ?_
  refine mr_sipush (pc := 14) (z := 255) dX12_byteAt_14 (by decide) ?_
  refine mr_iand (pc := 17) (x := z25) (y := 255) dX12_byteAt_17 ?_
  refine mr_gen (P := fun z => 0 ≤ z ∧ z ≤ 255) (rAndR (rR (x := 255)) rfl) fun z28 q29 h30 => ?_
  refine sv_goto (pc := 18) (tgt := 22) dX12_byteAt_18 (by decide) ?_
  exact mr_iretP dX12_byteAt_22 rfl (le_t rfl) (le_t rfl) ⟨h30, (byteF.in q_f_size (vc_X12_byteAt_f_4 hq0 h2 h1) q26 q29), trivial⟩
theorem vc_X12_number_f_1 {f_size p1 p2 : Int} (h0 : p2 ≤ 0) (h1 : p1 + p2 ≤ f_size) (h2 : 0 ≤ f_size ∧ f_size ≤ 1000) (h3 : 0 ≤ p1 ∧ p1 ≤ 1000) (h4 : 0 ≤ p2 ∧ p2 ≤ 4) : 0 ≤ p2 ∧ p2 ≤ 0 := by omega
theorem vc_X12_number_f_2 {f_size p1 p2 : Int} (h0 : p1 + p2 ≤ f_size) (h1 : p2 ≤ 0) (h2 : 0 ≤ f_size ∧ f_size ≤ 1000) (h3 : 0 ≤ p1 ∧ p1 ≤ 1000) (h4 : 0 ≤ p2 ∧ p2 ≤ 0) : p2 = (0 : Int) := by omega
theorem vc_X12_number_f_3 {f_size p1 p2 : Int} (h0 : p1 + p2 ≤ f_size) (h1 : p2 ≤ 0) (h2 : 0 ≤ f_size ∧ f_size ≤ 1000) (h3 : 0 ≤ p1 ∧ p1 ≤ 1000) (h4 : 0 ≤ p2 ∧ p2 ≤ 0) : p2 ≤ 2 → 0 ≤ (0 : Int) ∧ (0 : Int) ≤ 65535 := by omega
theorem vc_X12_number_f_4 {f_size p1 p2 : Int} (h0 : 0 < p2) (h1 : p1 + p2 ≤ f_size) (h2 : 0 ≤ f_size ∧ f_size ≤ 1000) (h3 : 0 ≤ p1 ∧ p1 ≤ 1000) (h4 : 0 ≤ p2 ∧ p2 ≤ 4) : 1 ≤ p2 ∧ p2 ≤ 4 := by omega
theorem vc_X12_number_f_5 {f_size p1 p2 : Int} (h0 : p1 + p2 ≤ f_size) (h1 : 0 < p2) (h2 : 0 ≤ f_size ∧ f_size ≤ 1000) (h3 : 0 ≤ p1 ∧ p1 ≤ 1000) (h4 : 1 ≤ p2 ∧ p2 ≤ 4) : (p1 + 0) < f_size := by omega
theorem vc_X12_number_f_6  : (0 : Int) ≤ ((0 : Int) : Int) := by omega
theorem vc_X12_number_f_7 {f_size p1 p2 : Int} (h0 : p1 + p2 ≤ f_size) (h1 : 0 < p2) (h2 : 0 ≤ f_size ∧ f_size ≤ 1000) (h3 : 0 ≤ p1 ∧ p1 ≤ 1000) (h4 : 1 ≤ p2 ∧ p2 ≤ 4) : (p1 + 0) = p1 + (0 : Int) := by omega
theorem vc_X12_number_f_8 {f_size p1 p2 : Int} (h0 : p2 ≤ 1) (h1 : p1 + p2 ≤ f_size) (h2 : 0 < p2) (h3 : 0 ≤ f_size ∧ f_size ≤ 1000) (h4 : 0 ≤ p1 ∧ p1 ≤ 1000) (h5 : 1 ≤ p2 ∧ p2 ≤ 4) : 1 ≤ p2 ∧ p2 ≤ 1 := by omega
theorem vc_X12_number_f_9 {f_size p1 p2 : Int} (h0 : p1 + p2 ≤ f_size) (h1 : 0 < p2) (h2 : p2 ≤ 1) (h3 : 0 ≤ f_size ∧ f_size ≤ 1000) (h4 : 0 ≤ p1 ∧ p1 ≤ 1000) (h5 : 1 ≤ p2 ∧ p2 ≤ 1) : p2 = (1 : Int) := by omega
theorem vc_X12_number_f_10 {f_size p1 p2 z303 : Int} (h0 : p1 + p2 ≤ f_size) (h1 : 0 < p2) (h2 : p2 ≤ 1) (h3 : 0 ≤ f_size ∧ f_size ≤ 1000) (h4 : 0 ≤ p1 ∧ p1 ≤ 1000) (h5 : 1 ≤ p2 ∧ p2 ≤ 1) (h6 : 0 ≤ z303 ∧ z303 ≤ 255) : p2 ≤ 2 → 0 ≤ z303 ∧ z303 ≤ 65535 := by omega
theorem vc_X12_number_f_11 {f_size p1 p2 : Int} (h0 : 1 < p2) (h1 : p1 + p2 ≤ f_size) (h2 : 0 < p2) (h3 : 0 ≤ f_size ∧ f_size ≤ 1000) (h4 : 0 ≤ p1 ∧ p1 ≤ 1000) (h5 : 1 ≤ p2 ∧ p2 ≤ 4) : 2 ≤ p2 ∧ p2 ≤ 4 := by omega
theorem vc_X12_number_f_12 {f_size p1 p2 : Int} (h0 : p1 + p2 ≤ f_size) (h1 : 0 < p2) (h2 : 1 < p2) (h3 : 0 ≤ f_size ∧ f_size ≤ 1000) (h4 : 0 ≤ p1 ∧ p1 ≤ 1000) (h5 : 2 ≤ p2 ∧ p2 ≤ 4) : (p1 + 1) < f_size := by omega
theorem vc_X12_number_f_13  : (0 : Int) ≤ ((1 : Int) : Int) := by omega
theorem vc_X12_number_f_14 {f_size p1 p2 : Int} (h0 : p1 + p2 ≤ f_size) (h1 : 0 < p2) (h2 : 1 < p2) (h3 : 0 ≤ f_size ∧ f_size ≤ 1000) (h4 : 0 ≤ p1 ∧ p1 ≤ 1000) (h5 : 2 ≤ p2 ∧ p2 ≤ 4) : (p1 + 1) = p1 + (1 : Int) := by omega
theorem vc_X12_number_f_15 {f_size p1 p2 z452 z453 : Int} (h0 : (5 - z452) < ((0 : Nat) : Int)) (h1 : z452 = 2 → 0 ≤ z453 ∧ z453 ≤ 65535) (h2 : z452 ≤ p2) (h3 : p1 + p2 ≤ f_size) (h4 : 0 < p2) (h5 : 1 < p2) (h6 : 0 ≤ f_size ∧ f_size ≤ 1000) (h7 : 0 ≤ p1 ∧ p1 ≤ 1000) (h8 : 2 ≤ p2 ∧ p2 ≤ 4) (h9 : 2 ≤ z452 ∧ z452 ≤ 4) (h10 : (-2147483648) ≤ z453 ∧ z453 ≤ 2147483647) : False := by omega
theorem vc_X12_number_f_16 {f_size p1 p2 z452 z453 : Int} (h0 : p1 + p2 ≤ f_size) (h1 : 0 < p2) (h2 : 1 < p2) (h3 : z452 = 2 → 0 ≤ z453 ∧ z453 ≤ 65535) (h4 : z452 ≤ p2) (h5 : p2 ≤ z452) (h6 : 0 ≤ f_size ∧ f_size ≤ 1000) (h7 : 0 ≤ p1 ∧ p1 ≤ 1000) (h8 : 2 ≤ p2 ∧ p2 ≤ 4) (h9 : 2 ≤ z452 ∧ z452 ≤ 4) (h10 : (-2147483648) ≤ z453 ∧ z453 ≤ 2147483647) : p2 = z452 := by omega
theorem vc_X12_number_f_17 {f_size p1 p2 z452 z453 : Int} (h0 : p1 + p2 ≤ f_size) (h1 : 0 < p2) (h2 : 1 < p2) (h3 : z452 = 2 → 0 ≤ z453 ∧ z453 ≤ 65535) (h4 : z452 ≤ p2) (h5 : p2 ≤ z452) (h6 : 0 ≤ f_size ∧ f_size ≤ 1000) (h7 : 0 ≤ p1 ∧ p1 ≤ 1000) (h8 : 2 ≤ p2 ∧ p2 ≤ 4) (h9 : 2 ≤ z452 ∧ z452 ≤ 4) (h10 : (-2147483648) ≤ z453 ∧ z453 ≤ 2147483647) : p2 ≤ 2 → 0 ≤ z453 ∧ z453 ≤ 65535 := by omega
theorem vc_X12_number_f_18 {f_size p1 p2 z452 z453 : Int} (h0 : z452 < p2) (h1 : p1 + p2 ≤ f_size) (h2 : 0 < p2) (h3 : 1 < p2) (h4 : z452 = 2 → 0 ≤ z453 ∧ z453 ≤ 65535) (h5 : z452 ≤ p2) (h6 : 0 ≤ f_size ∧ f_size ≤ 1000) (h7 : 0 ≤ p1 ∧ p1 ≤ 1000) (h8 : 2 ≤ p2 ∧ p2 ≤ 4) (h9 : 2 ≤ z452 ∧ z452 ≤ 4) (h10 : (-2147483648) ≤ z453 ∧ z453 ≤ 2147483647) : 2 ≤ z452 ∧ z452 ≤ 3 := by omega
theorem vc_X12_number_f_19 {f_size p1 p2 z452 z453 : Int} (h0 : z452 < p2) (h1 : p1 + p2 ≤ f_size) (h2 : 0 < p2) (h3 : 1 < p2) (h4 : z452 = 2 → 0 ≤ z453 ∧ z453 ≤ 65535) (h5 : z452 ≤ p2) (h6 : 0 ≤ f_size ∧ f_size ≤ 1000) (h7 : 0 ≤ p1 ∧ p1 ≤ 1000) (h8 : 2 ≤ p2 ∧ p2 ≤ 4) (h9 : 2 ≤ z452 ∧ z452 ≤ 3) (h10 : (-2147483648) ≤ z453 ∧ z453 ≤ 2147483647) : 3 ≤ p2 ∧ p2 ≤ 4 := by omega
theorem vc_X12_number_f_20 {f_size p1 p2 z452 z453 : Int} (h0 : p1 + p2 ≤ f_size) (h1 : z452 = 2 → 0 ≤ z453 ∧ z453 ≤ 65535) (h2 : z452 ≤ p2) (h3 : z452 < p2) (h4 : 0 < p2) (h5 : 1 < p2) (h6 : 0 ≤ f_size ∧ f_size ≤ 1000) (h7 : 0 ≤ p1 ∧ p1 ≤ 1000) (h8 : 3 ≤ p2 ∧ p2 ≤ 4) (h9 : 2 ≤ z452 ∧ z452 ≤ 3) (h10 : (-2147483648) ≤ z453 ∧ z453 ≤ 2147483647) : (p1 + z452) < f_size := by omega
theorem vc_X12_number_f_21 {f_size p1 p2 z452 z453 : Int} (h0 : z452 = 2 → 0 ≤ z453 ∧ z453 ≤ 65535) (h1 : z452 ≤ p2) (h2 : z452 < p2) (h3 : p1 + p2 ≤ f_size) (h4 : 0 < p2) (h5 : 1 < p2) (h6 : 0 ≤ f_size ∧ f_size ≤ 1000) (h7 : 0 ≤ p1 ∧ p1 ≤ 1000) (h8 : 3 ≤ p2 ∧ p2 ≤ 4) (h9 : 2 ≤ z452 ∧ z452 ≤ 3) (h10 : (-2147483648) ≤ z453 ∧ z453 ≤ 2147483647) : 0 ≤ z452 := by omega
theorem vc_X12_number_f_22 {f_size p1 p2 z452 z453 : Int} (h0 : p1 + p2 ≤ f_size) (h1 : z452 = 2 → 0 ≤ z453 ∧ z453 ≤ 65535) (h2 : z452 ≤ p2) (h3 : z452 < p2) (h4 : 0 < p2) (h5 : 1 < p2) (h6 : 0 ≤ f_size ∧ f_size ≤ 1000) (h7 : 0 ≤ p1 ∧ p1 ≤ 1000) (h8 : 3 ≤ p2 ∧ p2 ≤ 4) (h9 : 2 ≤ z452 ∧ z452 ≤ 3) (h10 : (-2147483648) ≤ z453 ∧ z453 ≤ 2147483647) : (p1 + z452) = p1 + z452 := by omega
theorem vc_X12_number_f_23 {f_size p1 p2 z452 z453 z489 : Int} (h0 : z452 = 2 → 0 ≤ z453 ∧ z453 ≤ 65535) (h1 : z452 ≤ p2) (h2 : z452 < p2) (h3 : p1 + p2 ≤ f_size) (h4 : 0 < p2) (h5 : 1 < p2) (h6 : 0 ≤ f_size ∧ f_size ≤ 1000) (h7 : 0 ≤ p1 ∧ p1 ≤ 1000) (h8 : 3 ≤ p2 ∧ p2 ≤ 4) (h9 : 2 ≤ z452 ∧ z452 ≤ 3) (h10 : (-2147483648) ≤ z453 ∧ z453 ≤ 2147483647) (h11 : (-2147483648) ≤ z489 ∧ z489 ≤ 2147483647) : (z452 + 1) = 2 → 0 ≤ z489 ∧ z489 ≤ 65535 := by omega
theorem vc_X12_number_f_24 {f_size p1 p2 z452 z453 : Int} (h0 : p1 + p2 ≤ f_size) (h1 : 0 < p2) (h2 : 1 < p2) (h3 : z452 = 2 → 0 ≤ z453 ∧ z453 ≤ 65535) (h4 : z452 ≤ p2) (h5 : z452 < p2) (h6 : 0 ≤ f_size ∧ f_size ≤ 1000) (h7 : 0 ≤ p1 ∧ p1 ≤ 1000) (h8 : 3 ≤ p2 ∧ p2 ≤ 4) (h9 : 2 ≤ z452 ∧ z452 ≤ 3) (h10 : (-2147483648) ≤ z453 ∧ z453 ≤ 2147483647) : (z452 + 1) ≤ p2 := by omega
theorem vc_X12_number_f_25 {N f_size p1 p2 z452 z453 : Int} (h0 : (5 - z452) < N + 1) (h1 : z452 = 2 → 0 ≤ z453 ∧ z453 ≤ 65535) (h2 : z452 ≤ p2) (h3 : z452 < p2) (h4 : p1 + p2 ≤ f_size) (h5 : 0 < p2) (h6 : 1 < p2) (h7 : 0 ≤ f_size ∧ f_size ≤ 1000) (h8 : 0 ≤ p1 ∧ p1 ≤ 1000) (h9 : 3 ≤ p2 ∧ p2 ≤ 4) (h10 : 2 ≤ z452 ∧ z452 ≤ 3) (h11 : (-2147483648) ≤ z453 ∧ z453 ≤ 2147483647) : (5 - (z452 + 1)) < N := by omega
theorem vc_X12_number_f_26 {z364 : Int} (h0 : 0 ≤ z364 ∧ z364 ≤ 65535) : (2 : Int) = 2 → 0 ≤ z364 ∧ z364 ≤ 65535 := by omega
theorem vc_X12_number_f_27 {f_size p1 p2 : Int} (h0 : p1 + p2 ≤ f_size) (h1 : 0 < p2) (h2 : 1 < p2) (h3 : 0 ≤ f_size ∧ f_size ≤ 1000) (h4 : 0 ≤ p1 ∧ p1 ≤ 1000) (h5 : 2 ≤ p2 ∧ p2 ≤ 4) : (2 : Int) ≤ p2 := by omega
theorem vc_X12_number_f_28  : (5 - 2) < ((4 : Nat) : Int) := by omega
set_option maxRecDepth 4000 in
set_option maxHeartbeats 4000000 in
theorem c_X12_number_f {l : Launch} {D : va_G} {c : Nat → ClassId} {H0 : Heap} {sa : Nat × Nat × (Nat → Int32)} {w : mW} {μ : mM} (hw : mWF w) (hT : mT w μ) {p1 : Int} (hp1 : 0 ≤ p1 ∧ p1 ≤ 1000) {p2 : Int} (hp2 : 0 ≤ p2 ∧ p2 ≤ 4) {f_size : Int} (q_f_size : μ 106 1 = f_size) (hq0 : p1 + p2 ≤ f_size) : sC (gG l D c H0 sa) mX12_number 2 0 0 [.ref 106, iv p1, iv p2] (mk w μ) (qP w μ (fun z => ((-2147483648) ≤ z ∧ z ≤ 2147483647) ∧ z = numF μ p1 p2 ∧ (p2 ≤ 2 → 0 ≤ z ∧ z ≤ 65535) ∧ True)) := by
  refine sC.of rfl (by decide) (le_t rfl) ?_
  have ht_f_size : (0 ≤ f_size ∧ f_size ≤ 1000) := by rw [← q_f_size]; exact hT 106 106 (A_106 hw) 1
  refine mr_lvE (lv' := [(0, .ref 106), (1, iv p1), (2, iv p2)]) rfl ?_
  refine mr_iconst (pc := 0) (z := 0) dX12_number_0 ?_
  refine mr_istore_n (pc := 1) (lv' := [(3, iv 0), (0, .ref 106), (1, iv p1), (2, iv p2)]) dX12_number_1 rfl (by decide) rfl ?_
  refine mr_iconst (pc := 2) (z := 0) dX12_number_2 ?_
  refine mr_istore (pc := 3) (lv' := [(4, iv 0), (3, iv 0), (0, .ref 106), (1, iv p1), (2, iv p2)]) dX12_number_3 (by decide) rfl ?_
  refine mr_iload (pc := 5) (z := 0) dX12_number_5 rfl ?_
  refine mr_iload_n (pc := 7) (z := p2) dX12_number_7 rfl rfl ?_
  refine mr_icmp_ge (pc := 8) (tgt := 31) dX12_number_8 (by decide) (r32 (rR (x := 0)) rfl) (r32 hp2 rfl) (fun h292 => ?_) (fun h292 => ?_)
  · have h293 : 0 ≤ p2 ∧ p2 ≤ 0 := (vc_X12_number_f_1 h292 hq0 ht_f_size hp1 hp2)
    refine mr_iload_n (pc := 31) (z := 0) dX12_number_31 rfl rfl ?_
    exact mr_iretP dX12_number_32 rfl (le_t rfl) (le_t rfl) ⟨(rW (c := (-2147483648)) (d := 2147483647) (rR (x := 0)) rfl), (numF.fin (k := (0 : Int)) numF.zero (vc_X12_number_f_2 hq0 h292 ht_f_size hp1 h293)), (vc_X12_number_f_3 hq0 h292 ht_f_size hp1 h293), trivial⟩
  have h294 : 1 ≤ p2 ∧ p2 ≤ 4 := (vc_X12_number_f_4 h292 hq0 ht_f_size hp1 hp2)
  refine mr_iload_n (pc := 11) (z := 0) dX12_number_11 rfl rfl ?_
  refine mr_bipush (pc := 12) (z := 8) dX12_number_12 (by decide) ?_
  refine mr_ishl (pc := 14) (x := 0) (y := 8) dX12_number_14 ?_
  refine mr_gen (P := fun z => 0 ≤ z ∧ z ≤ 0) (rShl (k := 8) (rR (x := 0)) rfl) fun z295 q296 h297 => ?_
  refine sv_aload_n (pc := 15) dX12_number_15 rfl rfl ?_
  refine mr_iload_n (pc := 16) (z := p1) dX12_number_16 rfl rfl ?_
  refine mr_iload (pc := 17) (z := 0) dX12_number_17 rfl ?_
  refine mr_iadd (pc := 19) (x := p1) (y := 0) dX12_number_19 ?_
  refine mr_cVP (pc := 20) (c_X12_byteAt_f hw hT (rW (c := 0) (d := 2147483647) (rAdd (e := 0) (f := 1000) hp1 (rR (x := 0)) rfl) rfl) q_f_size (vc_X12_number_f_5 hq0 h292 ht_f_size hp1 h294)) (gOk _ _ _ _ _) dX12_number_20 (tX12_byteAt _ _ _ _ _) ⟨wV_X12_byteAt, wL_X12_byteAt⟩ wM_X12_227 (gCX12 _ _ _ _ _) rfl (A_106 hw) rfl ⟨le_t rfl, le_t rfl⟩ ⟨le_t rfl, le_t rfl⟩ rfl (le_t rfl) fun z302 h301 => ?_
  refine mr_ior (pc := 23) (x := z295) (y := z302) dX12_number_23 ?_
  refine mr_gen (P := fun z => 0 ≤ z ∧ z ≤ 255) (rOr 8 h297 h301.1 rfl) fun z303 q304 h305 => ?_
  refine mr_istore_n (pc := 24) (lv' := [(3, iv z303), (4, iv 0), (0, .ref 106), (1, iv p1), (2, iv p2)]) dX12_number_24 rfl (by decide) rfl ?_
  refine mr_iinc (pc := 25) (lv' := [(4, iv 1), (3, iv z303), (0, .ref 106), (1, iv p1), (2, iv p2)]) dX12_number_25 rfl (by decide) rfl ?_
  refine sv_goto (pc := 28) (tgt := 5) dX12_number_28 (by decide) ?_
  refine mr_iload (pc := 5) (z := 1) dX12_number_5 rfl ?_
  refine mr_iload_n (pc := 7) (z := p2) dX12_number_7 rfl rfl ?_
  refine mr_icmp_ge (pc := 8) (tgt := 31) dX12_number_8 (by decide) (r32 (rR (x := 1)) rfl) (r32 h294 rfl) (fun h353 => ?_) (fun h353 => ?_)
  · have h354 : 1 ≤ p2 ∧ p2 ≤ 1 := (vc_X12_number_f_8 h353 hq0 h292 ht_f_size hp1 h294)
    refine mr_iload_n (pc := 31) (z := z303) dX12_number_31 rfl rfl ?_
    exact mr_iretP dX12_number_32 rfl (le_t rfl) (le_t rfl) ⟨(rW (c := (-2147483648)) (d := 2147483647) h305 rfl), (numF.fin (k := (1 : Int)) (numF.succ (n := (0 : Int)) numF.zero vc_X12_number_f_6 q296 (vc_X12_number_f_7 hq0 h292 ht_f_size hp1 h294) h301.2.1.symm.symm q304) (vc_X12_number_f_9 hq0 h292 h353 ht_f_size hp1 h354)), (vc_X12_number_f_10 hq0 h292 h353 ht_f_size hp1 h354 h305), trivial⟩
  have h355 : 2 ≤ p2 ∧ p2 ≤ 4 := (vc_X12_number_f_11 h353 hq0 h292 ht_f_size hp1 h294)
  refine mr_iload_n (pc := 11) (z := z303) dX12_number_11 rfl rfl ?_
  refine mr_bipush (pc := 12) (z := 8) dX12_number_12 (by decide) ?_
  refine mr_ishl (pc := 14) (x := z303) (y := 8) dX12_number_14 ?_
  refine mr_gen (P := fun z => 0 ≤ z ∧ z ≤ 65280) (rShl (k := 8) h305 rfl) fun z356 q357 h358 => ?_
  refine sv_aload_n (pc := 15) dX12_number_15 rfl rfl ?_
  refine mr_iload_n (pc := 16) (z := p1) dX12_number_16 rfl rfl ?_
  refine mr_iload (pc := 17) (z := 1) dX12_number_17 rfl ?_
  refine mr_iadd (pc := 19) (x := p1) (y := 1) dX12_number_19 ?_
  refine mr_cVP (pc := 20) (c_X12_byteAt_f hw hT (rW (c := 0) (d := 2147483647) (rAdd (e := 1) (f := 1001) hp1 (rR (x := 1)) rfl) rfl) q_f_size (vc_X12_number_f_12 hq0 h292 h353 ht_f_size hp1 h355)) (gOk _ _ _ _ _) dX12_number_20 (tX12_byteAt _ _ _ _ _) ⟨wV_X12_byteAt, wL_X12_byteAt⟩ wM_X12_227 (gCX12 _ _ _ _ _) rfl (A_106 hw) rfl ⟨le_t rfl, le_t rfl⟩ ⟨le_t rfl, le_t rfl⟩ rfl (le_t rfl) fun z363 h362 => ?_
  refine mr_ior (pc := 23) (x := z356) (y := z363) dX12_number_23 ?_
  refine mr_gen (P := fun z => 0 ≤ z ∧ z ≤ 65535) (rOr 16 h358 h362.1 rfl) fun z364 q365 h366 => ?_
  refine mr_istore_n (pc := 24) (lv' := [(3, iv z364), (4, iv 1), (0, .ref 106), (1, iv p1), (2, iv p2)]) dX12_number_24 rfl (by decide) rfl ?_
  refine mr_iinc (pc := 25) (lv' := [(4, iv 2), (3, iv z364), (0, .ref 106), (1, iv p1), (2, iv p2)]) dX12_number_25 rfl (by decide) rfl ?_
  refine sv_goto (pc := 28) (tgt := 5) dX12_number_28 (by decide) ?_
  have L454 : ∀ (nL454 : Nat) (z453 z452 : Int), True → ((-2147483648) ≤ z453 ∧ z453 ≤ 2147483647) → (2 ≤ z452 ∧ z452 ≤ 4) → (z452 = 2 → 0 ≤ z453 ∧ z453 ≤ 65535) → (z452 ≤ p2) → numF μ p1 z452 = z453 → (5 - z452) < (nL454 : Int) → sV (gG l D c H0 sa) mX12_number (sRm 2 0 0) (sZ (gG l D c H0 sa) 0 0 (qP w μ (fun z => ((-2147483648) ≤ z ∧ z ≤ 2147483647) ∧ z = numF μ p1 p2 ∧ (p2 ≤ 2 → 0 ≤ z ∧ z ≤ 65535) ∧ True))) 5 [(0, .ref 106), (1, iv p1), (2, iv p2), (3, iv z453), (4, iv z452)] [] (mk w μ) 0 0 := by
    intro nL454
    induction nL454 with
    | zero => intro z453 z452 _ h455 h456 h460 h461 R462 h463; exact ((vc_X12_number_f_15 h463 h460 h461 hq0 h292 h353 ht_f_size hp1 h355 h456 h455)).elim
    | succ nL454 ih464 =>
      intro z453 z452 _ h455 h456 h460 h461 R462 h463
      refine mr_iload (pc := 5) (z := z452) dX12_number_5 rfl ?_
      refine mr_iload_n (pc := 7) (z := p2) dX12_number_7 rfl rfl ?_
      refine mr_icmp_ge (pc := 8) (tgt := 31) dX12_number_8 (by decide) (r32 h456 rfl) (r32 h355 rfl) (fun h478 => ?_) (fun h478 => ?_)
      · refine mr_iload_n (pc := 31) (z := z453) dX12_number_31 rfl rfl ?_
        exact mr_iretP dX12_number_32 rfl (le_t rfl) (le_t rfl) ⟨h455, (numF.fin (k := z452) R462 (vc_X12_number_f_16 hq0 h292 h353 h460 h461 h478 ht_f_size hp1 h355 h456 h455)), (vc_X12_number_f_17 hq0 h292 h353 h460 h461 h478 ht_f_size hp1 h355 h456 h455), trivial⟩
      have h479 : 2 ≤ z452 ∧ z452 ≤ 3 := (vc_X12_number_f_18 h478 hq0 h292 h353 h460 h461 ht_f_size hp1 h355 h456 h455)
      have h480 : 3 ≤ p2 ∧ p2 ≤ 4 := (vc_X12_number_f_19 h478 hq0 h292 h353 h460 h461 ht_f_size hp1 h355 h479 h455)
      refine mr_iload_n (pc := 11) (z := z453) dX12_number_11 rfl rfl ?_
      refine mr_bipush (pc := 12) (z := 8) dX12_number_12 (by decide) ?_
      refine mr_ishl (pc := 14) (x := z453) (y := 8) dX12_number_14 ?_
      refine mr_gen (P := fun z => (-2147483648) ≤ z ∧ z ≤ 2147483647) (r32i _) fun z481 q482 h483 => ?_
      refine sv_aload_n (pc := 15) dX12_number_15 rfl rfl ?_
      refine mr_iload_n (pc := 16) (z := p1) dX12_number_16 rfl rfl ?_
      refine mr_iload (pc := 17) (z := z452) dX12_number_17 rfl ?_
      refine mr_iadd (pc := 19) (x := p1) (y := z452) dX12_number_19 ?_
      refine mr_cVP (pc := 20) (c_X12_byteAt_f hw hT (rW (c := 0) (d := 2147483647) (rAdd (e := 2) (f := 1003) hp1 h479 rfl) rfl) q_f_size (vc_X12_number_f_20 hq0 h460 h461 h478 h292 h353 ht_f_size hp1 h480 h479 h455)) (gOk _ _ _ _ _) dX12_number_20 (tX12_byteAt _ _ _ _ _) ⟨wV_X12_byteAt, wL_X12_byteAt⟩ wM_X12_227 (gCX12 _ _ _ _ _) rfl (A_106 hw) rfl ⟨le_t rfl, le_t rfl⟩ ⟨le_t rfl, le_t rfl⟩ rfl (le_t rfl) fun z488 h487 => ?_
      refine mr_ior (pc := 23) (x := z481) (y := z488) dX12_number_23 ?_
      refine mr_gen (P := fun z => (-2147483648) ≤ z ∧ z ≤ 2147483647) (r32i _) fun z489 q490 h491 => ?_
      refine mr_istore_n (pc := 24) (lv' := [(3, iv z489), (0, .ref 106), (1, iv p1), (2, iv p2), (4, iv z452)]) dX12_number_24 rfl (by decide) rfl ?_
      refine mr_iinc (pc := 25) (lv' := [(4, iv (z452 + 1)), (3, iv z489), (0, .ref 106), (1, iv p1), (2, iv p2)]) dX12_number_25 rfl (by decide) rfl ?_
      refine sv_goto (pc := 28) (tgt := 5) dX12_number_28 (by decide) ?_
      refine mr_lvS (lv' := [(0, .ref 106), (1, iv p1), (2, iv p2), (3, iv z489), (4, iv (z452 + 1))]) (List.forall_mem_cons.mpr ⟨rfl, List.forall_mem_cons.mpr ⟨rfl, List.forall_mem_cons.mpr ⟨rfl, List.forall_mem_cons.mpr ⟨rfl, List.forall_mem_cons.mpr ⟨rfl, fun _ h => absurd h List.not_mem_nil⟩⟩⟩⟩⟩) ?_
      exact ih464 z489 (z452 + 1) trivial h491 (rW (c := 2) (d := 4) (rAdd (e := 3) (f := 4) h479 (rR (x := 1)) rfl) rfl) (vc_X12_number_f_23 h460 h461 h478 hq0 h292 h353 ht_f_size hp1 h480 h479 h455 h491) (vc_X12_number_f_24 hq0 h292 h353 h460 h461 h478 ht_f_size hp1 h480 h479 h455) (numF.succ (n := z452) R462 (vc_X12_number_f_21 h460 h461 h478 hq0 h292 h353 ht_f_size hp1 h480 h479 h455) q482 (vc_X12_number_f_22 hq0 h460 h461 h478 h292 h353 ht_f_size hp1 h480 h479 h455) h487.2.1.symm.symm q490) (vc_X12_number_f_25 (nS h463) h460 h461 h478 hq0 h292 h353 ht_f_size hp1 h480 h479 h455)
  refine mr_lvS (lv' := [(0, .ref 106), (1, iv p1), (2, iv p2), (3, iv z364), (4, iv 2)]) (List.forall_mem_cons.mpr ⟨rfl, List.forall_mem_cons.mpr ⟨rfl, List.forall_mem_cons.mpr ⟨rfl, List.forall_mem_cons.mpr ⟨rfl, List.forall_mem_cons.mpr ⟨rfl, fun _ h => absurd h List.not_mem_nil⟩⟩⟩⟩⟩) ?_
  exact L454 4 z364 2 trivial (rW (c := (-2147483648)) (d := 2147483647) h366 rfl) (rW (c := 2) (d := 4) (rR (x := 2)) rfl) (vc_X12_number_f_26 h366) (vc_X12_number_f_27 hq0 h292 h353 ht_f_size hp1 h355) (numF.succ (n := (1 : Int)) (numF.succ (n := (0 : Int)) numF.zero vc_X12_number_f_6 q296 (vc_X12_number_f_7 hq0 h292 ht_f_size hp1 h294) h301.2.1.symm.symm q304) vc_X12_number_f_13 q357 (vc_X12_number_f_14 hq0 h292 h353 ht_f_size hp1 h355) h362.2.1.symm.symm q365) vc_X12_number_f_28
theorem vc_X12_number_f2_1 {f_size p1 p2 : Int} (h0 : p2 ≤ 0) (h1 : p1 + p2 ≤ f_size) (h2 : 0 ≤ f_size ∧ f_size ≤ 1000) (h3 : 0 ≤ p1 ∧ p1 ≤ 1000) (h4 : 0 ≤ p2 ∧ p2 ≤ 2) : 0 ≤ p2 ∧ p2 ≤ 0 := by omega
theorem vc_X12_number_f2_2 {f_size p1 p2 : Int} (h0 : p1 + p2 ≤ f_size) (h1 : p2 ≤ 0) (h2 : 0 ≤ f_size ∧ f_size ≤ 1000) (h3 : 0 ≤ p1 ∧ p1 ≤ 1000) (h4 : 0 ≤ p2 ∧ p2 ≤ 0) : p2 = (0 : Int) := by omega
theorem vc_X12_number_f2_3 {f_size p1 p2 : Int} (h0 : 0 < p2) (h1 : p1 + p2 ≤ f_size) (h2 : 0 ≤ f_size ∧ f_size ≤ 1000) (h3 : 0 ≤ p1 ∧ p1 ≤ 1000) (h4 : 0 ≤ p2 ∧ p2 ≤ 2) : 1 ≤ p2 ∧ p2 ≤ 2 := by omega
theorem vc_X12_number_f2_4 {f_size p1 p2 : Int} (h0 : p1 + p2 ≤ f_size) (h1 : 0 < p2) (h2 : 0 ≤ f_size ∧ f_size ≤ 1000) (h3 : 0 ≤ p1 ∧ p1 ≤ 1000) (h4 : 1 ≤ p2 ∧ p2 ≤ 2) : (p1 + 0) < f_size := by omega
theorem vc_X12_number_f2_5  : (0 : Int) ≤ ((0 : Int) : Int) := by omega
theorem vc_X12_number_f2_6 {f_size p1 p2 : Int} (h0 : p1 + p2 ≤ f_size) (h1 : 0 < p2) (h2 : 0 ≤ f_size ∧ f_size ≤ 1000) (h3 : 0 ≤ p1 ∧ p1 ≤ 1000) (h4 : 1 ≤ p2 ∧ p2 ≤ 2) : (p1 + 0) = p1 + (0 : Int) := by omega
theorem vc_X12_number_f2_7 {f_size p1 p2 : Int} (h0 : p2 ≤ 1) (h1 : p1 + p2 ≤ f_size) (h2 : 0 < p2) (h3 : 0 ≤ f_size ∧ f_size ≤ 1000) (h4 : 0 ≤ p1 ∧ p1 ≤ 1000) (h5 : 1 ≤ p2 ∧ p2 ≤ 2) : 1 ≤ p2 ∧ p2 ≤ 1 := by omega
theorem vc_X12_number_f2_8 {f_size p1 p2 : Int} (h0 : p1 + p2 ≤ f_size) (h1 : 0 < p2) (h2 : p2 ≤ 1) (h3 : 0 ≤ f_size ∧ f_size ≤ 1000) (h4 : 0 ≤ p1 ∧ p1 ≤ 1000) (h5 : 1 ≤ p2 ∧ p2 ≤ 1) : p2 = (1 : Int) := by omega
theorem vc_X12_number_f2_9 {f_size p1 p2 : Int} (h0 : 1 < p2) (h1 : p1 + p2 ≤ f_size) (h2 : 0 < p2) (h3 : 0 ≤ f_size ∧ f_size ≤ 1000) (h4 : 0 ≤ p1 ∧ p1 ≤ 1000) (h5 : 1 ≤ p2 ∧ p2 ≤ 2) : 2 ≤ p2 ∧ p2 ≤ 2 := by omega
theorem vc_X12_number_f2_10 {f_size p1 p2 : Int} (h0 : p1 + p2 ≤ f_size) (h1 : 0 < p2) (h2 : 1 < p2) (h3 : 0 ≤ f_size ∧ f_size ≤ 1000) (h4 : 0 ≤ p1 ∧ p1 ≤ 1000) (h5 : 2 ≤ p2 ∧ p2 ≤ 2) : (p1 + 1) < f_size := by omega
theorem vc_X12_number_f2_11  : (0 : Int) ≤ ((1 : Int) : Int) := by omega
theorem vc_X12_number_f2_12 {f_size p1 p2 : Int} (h0 : p1 + p2 ≤ f_size) (h1 : 0 < p2) (h2 : 1 < p2) (h3 : 0 ≤ f_size ∧ f_size ≤ 1000) (h4 : 0 ≤ p1 ∧ p1 ≤ 1000) (h5 : 2 ≤ p2 ∧ p2 ≤ 2) : (p1 + 1) = p1 + (1 : Int) := by omega
theorem vc_X12_number_f2_13 {p2 : Int} (h0 : 2 < p2) (h1 : 2 ≤ p2 ∧ p2 ≤ 2) : False := by omega
theorem vc_X12_number_f2_14 {f_size p1 p2 : Int} (h0 : p1 + p2 ≤ f_size) (h1 : 0 < p2) (h2 : 1 < p2) (h3 : 0 ≤ f_size ∧ f_size ≤ 1000) (h4 : 0 ≤ p1 ∧ p1 ≤ 1000) (h5 : 2 ≤ p2 ∧ p2 ≤ 2) : p2 = (2 : Int) := by omega
set_option maxRecDepth 4000 in
set_option maxHeartbeats 4000000 in
theorem c_X12_number_f2 {l : Launch} {D : va_G} {c : Nat → ClassId} {H0 : Heap} {sa : Nat × Nat × (Nat → Int32)} {w : mW} {μ : mM} (hw : mWF w) (hT : mT w μ) {p1 : Int} (hp1 : 0 ≤ p1 ∧ p1 ≤ 1000) {p2 : Int} (hp2 : 0 ≤ p2 ∧ p2 ≤ 2) {f_size : Int} (q_f_size : μ 106 1 = f_size) (hq0 : p1 + p2 ≤ f_size) : sC (gG l D c H0 sa) mX12_number 2 0 0 [.ref 106, iv p1, iv p2] (mk w μ) (qP w μ (fun z => (0 ≤ z ∧ z ≤ 65535) ∧ z = numF μ p1 p2 ∧ True)) := by
  refine sC.of rfl (by decide) (le_t rfl) ?_
  have ht_f_size : (0 ≤ f_size ∧ f_size ≤ 1000) := by rw [← q_f_size]; exact hT 106 106 (A_106 hw) 1
  refine mr_lvE (lv' := [(0, .ref 106), (1, iv p1), (2, iv p2)]) rfl ?_
  refine mr_iconst (pc := 0) (z := 0) dX12_number_0 ?_
  refine mr_istore_n (pc := 1) (lv' := [(3, iv 0), (0, .ref 106), (1, iv p1), (2, iv p2)]) dX12_number_1 rfl (by decide) rfl ?_
  refine mr_iconst (pc := 2) (z := 0) dX12_number_2 ?_
  refine mr_istore (pc := 3) (lv' := [(4, iv 0), (3, iv 0), (0, .ref 106), (1, iv p1), (2, iv p2)]) dX12_number_3 (by decide) rfl ?_
  refine mr_iload (pc := 5) (z := 0) dX12_number_5 rfl ?_
  refine mr_iload_n (pc := 7) (z := p2) dX12_number_7 rfl rfl ?_
  refine mr_icmp_ge (pc := 8) (tgt := 31) dX12_number_8 (by decide) (r32 (rR (x := 0)) rfl) (r32 hp2 rfl) (fun h105 => ?_) (fun h105 => ?_)
  · have h106 : 0 ≤ p2 ∧ p2 ≤ 0 := (vc_X12_number_f2_1 h105 hq0 ht_f_size hp1 hp2)
    refine mr_iload_n (pc := 31) (z := 0) dX12_number_31 rfl rfl ?_
    exact mr_iretP dX12_number_32 rfl (le_t rfl) (le_t rfl) ⟨(rW (c := 0) (d := 65535) (rR (x := 0)) rfl), (numF.fin (k := (0 : Int)) numF.zero (vc_X12_number_f2_2 hq0 h105 ht_f_size hp1 h106)), trivial⟩
  have h107 : 1 ≤ p2 ∧ p2 ≤ 2 := (vc_X12_number_f2_3 h105 hq0 ht_f_size hp1 hp2)
  refine mr_iload_n (pc := 11) (z := 0) dX12_number_11 rfl rfl ?_
  refine mr_bipush (pc := 12) (z := 8) dX12_number_12 (by decide) ?_
  refine mr_ishl (pc := 14) (x := 0) (y := 8) dX12_number_14 ?_
  refine mr_gen (P := fun z => 0 ≤ z ∧ z ≤ 0) (rShl (k := 8) (rR (x := 0)) rfl) fun z108 q109 h110 => ?_
  refine sv_aload_n (pc := 15) dX12_number_15 rfl rfl ?_
  refine mr_iload_n (pc := 16) (z := p1) dX12_number_16 rfl rfl ?_
  refine mr_iload (pc := 17) (z := 0) dX12_number_17 rfl ?_
  refine mr_iadd (pc := 19) (x := p1) (y := 0) dX12_number_19 ?_
  refine mr_cVP (pc := 20) (c_X12_byteAt_f hw hT (rW (c := 0) (d := 2147483647) (rAdd (e := 0) (f := 1000) hp1 (rR (x := 0)) rfl) rfl) q_f_size (vc_X12_number_f2_4 hq0 h105 ht_f_size hp1 h107)) (gOk _ _ _ _ _) dX12_number_20 (tX12_byteAt _ _ _ _ _) ⟨wV_X12_byteAt, wL_X12_byteAt⟩ wM_X12_227 (gCX12 _ _ _ _ _) rfl (A_106 hw) rfl ⟨le_t rfl, le_t rfl⟩ ⟨le_t rfl, le_t rfl⟩ rfl (le_t rfl) fun z115 h114 => ?_
  refine mr_ior (pc := 23) (x := z108) (y := z115) dX12_number_23 ?_
  refine mr_gen (P := fun z => 0 ≤ z ∧ z ≤ 255) (rOr 8 h110 h114.1 rfl) fun z116 q117 h118 => ?_
  refine mr_istore_n (pc := 24) (lv' := [(3, iv z116), (4, iv 0), (0, .ref 106), (1, iv p1), (2, iv p2)]) dX12_number_24 rfl (by decide) rfl ?_
  refine mr_iinc (pc := 25) (lv' := [(4, iv 1), (3, iv z116), (0, .ref 106), (1, iv p1), (2, iv p2)]) dX12_number_25 rfl (by decide) rfl ?_
  refine sv_goto (pc := 28) (tgt := 5) dX12_number_28 (by decide) ?_
  refine mr_iload (pc := 5) (z := 1) dX12_number_5 rfl ?_
  refine mr_iload_n (pc := 7) (z := p2) dX12_number_7 rfl rfl ?_
  refine mr_icmp_ge (pc := 8) (tgt := 31) dX12_number_8 (by decide) (r32 (rR (x := 1)) rfl) (r32 h107 rfl) (fun h132 => ?_) (fun h132 => ?_)
  · have h133 : 1 ≤ p2 ∧ p2 ≤ 1 := (vc_X12_number_f2_7 h132 hq0 h105 ht_f_size hp1 h107)
    refine mr_iload_n (pc := 31) (z := z116) dX12_number_31 rfl rfl ?_
    exact mr_iretP dX12_number_32 rfl (le_t rfl) (le_t rfl) ⟨(rW (c := 0) (d := 65535) h118 rfl), (numF.fin (k := (1 : Int)) (numF.succ (n := (0 : Int)) numF.zero vc_X12_number_f2_5 q109 (vc_X12_number_f2_6 hq0 h105 ht_f_size hp1 h107) h114.2.1.symm.symm q117) (vc_X12_number_f2_8 hq0 h105 h132 ht_f_size hp1 h133)), trivial⟩
  have h134 : 2 ≤ p2 ∧ p2 ≤ 2 := (vc_X12_number_f2_9 h132 hq0 h105 ht_f_size hp1 h107)
  refine mr_iload_n (pc := 11) (z := z116) dX12_number_11 rfl rfl ?_
  refine mr_bipush (pc := 12) (z := 8) dX12_number_12 (by decide) ?_
  refine mr_ishl (pc := 14) (x := z116) (y := 8) dX12_number_14 ?_
  refine mr_gen (P := fun z => 0 ≤ z ∧ z ≤ 65280) (rShl (k := 8) h118 rfl) fun z135 q136 h137 => ?_
  refine sv_aload_n (pc := 15) dX12_number_15 rfl rfl ?_
  refine mr_iload_n (pc := 16) (z := p1) dX12_number_16 rfl rfl ?_
  refine mr_iload (pc := 17) (z := 1) dX12_number_17 rfl ?_
  refine mr_iadd (pc := 19) (x := p1) (y := 1) dX12_number_19 ?_
  refine mr_cVP (pc := 20) (c_X12_byteAt_f hw hT (rW (c := 0) (d := 2147483647) (rAdd (e := 1) (f := 1001) hp1 (rR (x := 1)) rfl) rfl) q_f_size (vc_X12_number_f2_10 hq0 h105 h132 ht_f_size hp1 h134)) (gOk _ _ _ _ _) dX12_number_20 (tX12_byteAt _ _ _ _ _) ⟨wV_X12_byteAt, wL_X12_byteAt⟩ wM_X12_227 (gCX12 _ _ _ _ _) rfl (A_106 hw) rfl ⟨le_t rfl, le_t rfl⟩ ⟨le_t rfl, le_t rfl⟩ rfl (le_t rfl) fun z142 h141 => ?_
  refine mr_ior (pc := 23) (x := z135) (y := z142) dX12_number_23 ?_
  refine mr_gen (P := fun z => 0 ≤ z ∧ z ≤ 65535) (rOr 16 h137 h141.1 rfl) fun z143 q144 h145 => ?_
  refine mr_istore_n (pc := 24) (lv' := [(3, iv z143), (4, iv 1), (0, .ref 106), (1, iv p1), (2, iv p2)]) dX12_number_24 rfl (by decide) rfl ?_
  refine mr_iinc (pc := 25) (lv' := [(4, iv 2), (3, iv z143), (0, .ref 106), (1, iv p1), (2, iv p2)]) dX12_number_25 rfl (by decide) rfl ?_
  refine sv_goto (pc := 28) (tgt := 5) dX12_number_28 (by decide) ?_
  refine mr_iload (pc := 5) (z := 2) dX12_number_5 rfl ?_
  refine mr_iload_n (pc := 7) (z := p2) dX12_number_7 rfl rfl ?_
  refine mr_icmp_ge (pc := 8) (tgt := 31) dX12_number_8 (by decide) (r32 (rR (x := 2)) rfl) (r32 h134 rfl) (fun _ => ?_) (fun h => ((vc_X12_number_f2_13 h h134)).elim)
  refine mr_iload_n (pc := 31) (z := z143) dX12_number_31 rfl rfl ?_
  exact mr_iretP dX12_number_32 rfl (le_t rfl) (le_t rfl) ⟨h145, (numF.fin (k := (2 : Int)) (numF.succ (n := (1 : Int)) (numF.succ (n := (0 : Int)) numF.zero vc_X12_number_f2_5 q109 (vc_X12_number_f2_6 hq0 h105 ht_f_size hp1 h107) h114.2.1.symm.symm q117) vc_X12_number_f2_11 q136 (vc_X12_number_f2_12 hq0 h105 h132 ht_f_size hp1 h134) h141.2.1.symm.symm q144) (vc_X12_number_f2_14 hq0 h105 h132 ht_f_size hp1 h134)), trivial⟩
theorem vc_X12_wayRight_1 {f_size p1 p2 z4574 z4575 : Int} (h0 : (1001 - z4575) < ((0 : Nat) : Int)) (h1 : 4 * z4574 ≤ z4575 - p1) (h2 : z4575 ≤ p1 + p2) (h3 : p1 + p2 ≤ f_size) (h4 : 0 ≤ f_size ∧ f_size ≤ 1000) (h5 : 0 ≤ p1 ∧ p1 ≤ 1000) (h6 : 0 ≤ p2 ∧ p2 ≤ 1000) (h7 : 0 ≤ z4574 ∧ z4574 ≤ 250) (h8 : 0 ≤ z4575 ∧ z4575 ≤ 1000) : False := by omega
theorem vc_X12_wayRight_2 {p1 z4574 z4575 : Int} (h0 : z4574 ≤ 20) (h1 : 4 * z4574 ≤ z4575 - p1) (h2 : 0 ≤ p1 ∧ p1 ≤ 1000) (h3 : 0 ≤ z4574 ∧ z4574 ≤ 250) (h4 : 0 ≤ z4575 ∧ z4575 ≤ 1000) : 0 ≤ z4574 ∧ z4574 ≤ 20 := by omega
theorem vc_X12_wayRight_3 {f_size p1 p2 z4574 z4575 z5068 : Int} (h0 : (1001 - z5068) < ((0 : Nat) : Int)) (h1 : p1 ≤ z5068) (h2 : p1 + p2 ≤ f_size) (h3 : 4 * z4574 ≤ z4575 - p1) (h4 : z4575 ≤ p1 + p2) (h5 : (p1 + p2) ≤ z4575) (h6 : 0 ≤ f_size ∧ f_size ≤ 1000) (h7 : 0 ≤ p1 ∧ p1 ≤ 1000) (h8 : 0 ≤ p2 ∧ p2 ≤ 1000) (h9 : 0 ≤ z4574 ∧ z4574 ≤ 20) (h10 : 0 ≤ z4575 ∧ z4575 ≤ 1000) (h11 : 0 ≤ z5068 ∧ z5068 ≤ 1000) : False := by omega
theorem vc_X12_wayRight_4 {f_size p1 p2 z4574 z4575 z5068 : Int} (h0 : 4 * z4574 ≤ z4575 - p1) (h1 : z4574 ≤ 20) (h2 : p1 + p2 ≤ f_size) (h3 : z4575 ≤ p1 + p2) (h4 : (p1 + p2) ≤ z4575) (h5 : p1 ≤ z5068) (h6 : (p1 + p2) ≤ z5068) (h7 : 0 ≤ f_size ∧ f_size ≤ 1000) (h8 : 0 ≤ p1 ∧ p1 ≤ 1000) (h9 : 0 ≤ p2 ∧ p2 ≤ 1000) (h10 : 0 ≤ z4574 ∧ z4574 ≤ 20) (h11 : 0 ≤ z4575 ∧ z4575 ≤ 1000) (h12 : 0 ≤ z5068 ∧ z5068 ≤ 1000) : (-2147483648 ≤ z4574 ∧ z4574 ≤ 2147483647) ∧ ((964 : Int) % 40 = 0 → -1 ≤ z4574 ∧ z4574 ≤ 9) ∧ ((964 : Int) % 40 = 4 → 0 ≤ z4574 ∧ z4574 ≤ 20) ∧ ((964 : Int) % 40 = 5 → 0 ≤ z4574 ∧ z4574 ≤ 8) := by omega
theorem vc_X12_wayRight_5  : (964 : Int) ≤ (964 : Int) ∧ (986 : Int) ≤ (986 : Int) := by omega
theorem vc_X12_wayRight_6  : (0 : Int) ≤ (964 : Int) ∧ (964 : Int) ≤ (964 : Int) ∧ (964 : Int) < (986 : Int) := by omega
theorem vc_X12_wayRight_7 {f_size p1 p2 z4574 z4575 z5068 : Int} (h0 : p1 + p2 ≤ f_size) (h1 : 4 * z4574 ≤ z4575 - p1) (h2 : z4575 ≤ p1 + p2) (h3 : (p1 + p2) ≤ z4575) (h4 : p1 ≤ z5068) (h5 : z5068 < (p1 + p2)) (h6 : z4574 ≤ 20) (h7 : 0 ≤ f_size ∧ f_size ≤ 1000) (h8 : 0 ≤ p1 ∧ p1 ≤ 1000) (h9 : 0 ≤ p2 ∧ p2 ≤ 1000) (h10 : 0 ≤ z4574 ∧ z4574 ≤ 20) (h11 : 0 ≤ z4575 ∧ z4575 ≤ 1000) (h12 : 0 ≤ z5068 ∧ z5068 ≤ 1000) : z5068 < p1 + p2 := by omega
theorem vc_X12_wayRight_8 {f_size p1 p2 z4574 z4575 z5068 : Int} (h0 : p1 + p2 ≤ f_size) (h1 : p1 ≤ z5068) (h2 : z5068 < (p1 + p2)) (h3 : z5068 + 2 ≤ p1 + p2) (h4 : 4 * z4574 ≤ z4575 - p1) (h5 : z4575 ≤ p1 + p2) (h6 : (p1 + p2) ≤ z4575) (h7 : 0 ≤ f_size ∧ f_size ≤ 1000) (h8 : 0 ≤ p1 ∧ p1 ≤ 1000) (h9 : 0 ≤ p2 ∧ p2 ≤ 1000) (h10 : 0 ≤ z4574 ∧ z4574 ≤ 20) (h11 : 0 ≤ z4575 ∧ z4575 ≤ 1000) (h12 : 0 ≤ z5068 ∧ z5068 ≤ 1000) : (z5068 + 1) < f_size := by omega
theorem vc_X12_wayRight_9 {f_size p1 p2 z4574 z4575 z5067 z5068 z5241 : Int} (h0 : 4 * z4574 ≤ z4575 - p1) (h1 : z4574 ≤ 20) (h2 : 1 ≤ z5241 ∧ z5068 + 2 + 4 * z5241 ≤ p1 + p2 ∧ z5241 ≤ z4574 - (z5067 - 966)) (h3 : p1 + p2 ≤ f_size) (h4 : z4575 ≤ p1 + p2) (h5 : (p1 + p2) ≤ z4575) (h6 : p1 ≤ z5068) (h7 : z5068 < (p1 + p2)) (h8 : z5068 + 2 ≤ p1 + p2) (h9 : 0 ≤ f_size ∧ f_size ≤ 1000) (h10 : 0 ≤ p1 ∧ p1 ≤ 1000) (h11 : 0 ≤ p2 ∧ p2 ≤ 1000) (h12 : 0 ≤ z4574 ∧ z4574 ≤ 20) (h13 : 0 ≤ z4575 ∧ z4575 ≤ 1000) (h14 : 966 ≤ z5067 ∧ z5067 ≤ 986) (h15 : 0 ≤ z5068 ∧ z5068 ≤ 1000) (h16 : 0 ≤ z5241 ∧ z5241 ≤ 255) : 1 ≤ z5241 ∧ z5241 ≤ 20 := by omega
theorem vc_X12_wayRight_10 {p1 p2 z4574 z5067 z5068 z5241 z6107 z6108 : Int} (h0 : (987 - z6108) < ((0 : Nat) : Int)) (h1 : z6108 = z5067 + z6107) (h2 : 1 ≤ z5241 ∧ z5068 + 2 + 4 * z5241 ≤ p1 + p2 ∧ z5241 ≤ z4574 - (z5067 - 966)) (h3 : z6107 ≤ z5241) (h4 : 0 ≤ p1 ∧ p1 ≤ 1000) (h5 : 0 ≤ p2 ∧ p2 ≤ 1000) (h6 : 0 ≤ z4574 ∧ z4574 ≤ 20) (h7 : 966 ≤ z5067 ∧ z5067 ≤ 986) (h8 : 0 ≤ z5068 ∧ z5068 ≤ 1000) (h9 : 1 ≤ z5241 ∧ z5241 ≤ 20) (h10 : 0 ≤ z6107 ∧ z6107 ≤ 20) (h11 : 966 ≤ z6108 ∧ z6108 ≤ 986) : False := by omega
theorem vc_X12_wayRight_11 {p1 p2 z4574 z5067 z5068 z5241 z6107 z6108 : Int} (h0 : z5241 ≤ z6107) (h1 : 1 ≤ z5241 ∧ z5068 + 2 + 4 * z5241 ≤ p1 + p2 ∧ z5241 ≤ z4574 - (z5067 - 966)) (h2 : z6108 = z5067 + z6107) (h3 : z6107 ≤ z5241) (h4 : 0 ≤ p1 ∧ p1 ≤ 1000) (h5 : 0 ≤ p2 ∧ p2 ≤ 1000) (h6 : 0 ≤ z4574 ∧ z4574 ≤ 20) (h7 : 966 ≤ z5067 ∧ z5067 ≤ 986) (h8 : 0 ≤ z5068 ∧ z5068 ≤ 1000) (h9 : 1 ≤ z5241 ∧ z5241 ≤ 20) (h10 : 0 ≤ z6107 ∧ z6107 ≤ 20) (h11 : 966 ≤ z6108 ∧ z6108 ≤ 986) : 1 ≤ z6107 ∧ z6107 ≤ 20 := by omega
theorem vc_X12_wayRight_12 {f_size p1 p2 z4574 z4575 z5067 z5068 z5241 z6107 z6108 : Int} (h0 : p1 ≤ z5068) (h1 : z5068 < (p1 + p2)) (h2 : z5068 + 2 ≤ p1 + p2) (h3 : 1 ≤ z5241 ∧ z5068 + 2 + 4 * z5241 ≤ p1 + p2 ∧ z5241 ≤ z4574 - (z5067 - 966)) (h4 : z6107 ≤ z5241) (h5 : z5241 ≤ z6107) (h6 : p1 + p2 ≤ f_size) (h7 : 4 * z4574 ≤ z4575 - p1) (h8 : z4575 ≤ p1 + p2) (h9 : (p1 + p2) ≤ z4575) (h10 : z4574 ≤ 20) (h11 : z6108 = z5067 + z6107) (h12 : 0 ≤ f_size ∧ f_size ≤ 1000) (h13 : 0 ≤ p1 ∧ p1 ≤ 1000) (h14 : 0 ≤ p2 ∧ p2 ≤ 1000) (h15 : 0 ≤ z4574 ∧ z4574 ≤ 20) (h16 : 0 ≤ z4575 ∧ z4575 ≤ 1000) (h17 : 966 ≤ z5067 ∧ z5067 ≤ 986) (h18 : 0 ≤ z5068 ∧ z5068 ≤ 1000) (h19 : 1 ≤ z5241 ∧ z5241 ≤ 20) (h20 : 1 ≤ z6107 ∧ z6107 ≤ 20) (h21 : 966 ≤ z6108 ∧ z6108 ≤ 986) : 0 ≤ (z5068 + (2 + (4 * z5241))) ∧ (z5068 + (2 + (4 * z5241))) ≤ 1000 := by omega
theorem vc_X12_wayRight_13 {f_size p1 p2 z4574 z4575 z5067 z5068 z5241 z6107 z6108 : Int} (h0 : p1 + p2 ≤ f_size) (h1 : 4 * z4574 ≤ z4575 - p1) (h2 : z4575 ≤ p1 + p2) (h3 : (p1 + p2) ≤ z4575) (h4 : p1 ≤ z5068) (h5 : z5068 < (p1 + p2)) (h6 : z5068 + 2 ≤ p1 + p2) (h7 : 1 ≤ z5241 ∧ z5068 + 2 + 4 * z5241 ≤ p1 + p2 ∧ z5241 ≤ z4574 - (z5067 - 966)) (h8 : z6107 ≤ z5241) (h9 : z5241 ≤ z6107) (h10 : z4574 ≤ 20) (h11 : z6108 = z5067 + z6107) (h12 : 0 ≤ f_size ∧ f_size ≤ 1000) (h13 : 0 ≤ p1 ∧ p1 ≤ 1000) (h14 : 0 ≤ p2 ∧ p2 ≤ 1000) (h15 : 0 ≤ z4574 ∧ z4574 ≤ 20) (h16 : 0 ≤ z4575 ∧ z4575 ≤ 1000) (h17 : 966 ≤ z5067 ∧ z5067 ≤ 986) (h18 : 0 ≤ z5068 ∧ z5068 ≤ 1000) (h19 : 1 ≤ z5241 ∧ z5241 ≤ 20) (h20 : 1 ≤ z6107 ∧ z6107 ≤ 20) (h21 : 966 ≤ z6108 ∧ z6108 ≤ 986) : p1 ≤ (z5068 + (2 + (4 * z5241))) := by omega
theorem vc_X12_wayRight_14 {N f_size p1 p2 z4574 z4575 z5067 z5068 z5241 z6107 z6108 : Int} (h0 : (1001 - z5068) < N + 1) (h1 : p1 ≤ z5068) (h2 : z5068 < (p1 + p2)) (h3 : z5068 + 2 ≤ p1 + p2) (h4 : 1 ≤ z5241 ∧ z5068 + 2 + 4 * z5241 ≤ p1 + p2 ∧ z5241 ≤ z4574 - (z5067 - 966)) (h5 : z6107 ≤ z5241) (h6 : z5241 ≤ z6107) (h7 : p1 + p2 ≤ f_size) (h8 : 4 * z4574 ≤ z4575 - p1) (h9 : z4575 ≤ p1 + p2) (h10 : (p1 + p2) ≤ z4575) (h11 : z4574 ≤ 20) (h12 : z6108 = z5067 + z6107) (h13 : 0 ≤ f_size ∧ f_size ≤ 1000) (h14 : 0 ≤ p1 ∧ p1 ≤ 1000) (h15 : 0 ≤ p2 ∧ p2 ≤ 1000) (h16 : 0 ≤ z4574 ∧ z4574 ≤ 20) (h17 : 0 ≤ z4575 ∧ z4575 ≤ 1000) (h18 : 966 ≤ z5067 ∧ z5067 ≤ 986) (h19 : 0 ≤ z5068 ∧ z5068 ≤ 1000) (h20 : 1 ≤ z5241 ∧ z5241 ≤ 20) (h21 : 1 ≤ z6107 ∧ z6107 ≤ 20) (h22 : 966 ≤ z6108 ∧ z6108 ≤ 986) : (1001 - (z5068 + (2 + (4 * z5241)))) < N := by omega
theorem vc_X12_wayRight_15 {f_size p1 p2 z4574 z4575 z5067 z5068 z5241 z6107 z6108 : Int} (h0 : p1 ≤ z5068) (h1 : z5068 < (p1 + p2)) (h2 : z5068 + 2 ≤ p1 + p2) (h3 : 1 ≤ z5241 ∧ z5068 + 2 + 4 * z5241 ≤ p1 + p2 ∧ z5241 ≤ z4574 - (z5067 - 966)) (h4 : z6107 ≤ z5241) (h5 : z5241 ≤ z6107) (h6 : p1 + p2 ≤ f_size) (h7 : 4 * z4574 ≤ z4575 - p1) (h8 : z4575 ≤ p1 + p2) (h9 : (p1 + p2) ≤ z4575) (h10 : z4574 ≤ 20) (h11 : z6108 = z5067 + z6107) (h12 : 0 ≤ f_size ∧ f_size ≤ 1000) (h13 : 0 ≤ p1 ∧ p1 ≤ 1000) (h14 : 0 ≤ p2 ∧ p2 ≤ 1000) (h15 : 0 ≤ z4574 ∧ z4574 ≤ 20) (h16 : 0 ≤ z4575 ∧ z4575 ≤ 1000) (h17 : 966 ≤ z5067 ∧ z5067 ≤ 986) (h18 : 0 ≤ z5068 ∧ z5068 ≤ 1000) (h19 : 1 ≤ z5241 ∧ z5241 ≤ 20) (h20 : 1 ≤ z6107 ∧ z6107 ≤ 20) (h21 : 966 ≤ z6108 ∧ z6108 ≤ 986) : (z5068 + (2 + (4 * z5241))) = z5068 + 2 + 4 * z5241 := by omega
theorem vc_X12_wayRight_16 {f_size p1 p2 z4574 z4575 z5067 z5068 z5241 z6107 z6108 : Int} (h0 : p1 + p2 ≤ f_size) (h1 : 4 * z4574 ≤ z4575 - p1) (h2 : z4575 ≤ p1 + p2) (h3 : (p1 + p2) ≤ z4575) (h4 : z4574 ≤ 20) (h5 : p1 ≤ z5068) (h6 : z5068 < (p1 + p2)) (h7 : z5068 + 2 ≤ p1 + p2) (h8 : 1 ≤ z5241 ∧ z5068 + 2 + 4 * z5241 ≤ p1 + p2 ∧ z5241 ≤ z4574 - (z5067 - 966)) (h9 : z6108 = z5067 + z6107) (h10 : z6107 ≤ z5241) (h11 : z5241 ≤ z6107) (h12 : 0 ≤ f_size ∧ f_size ≤ 1000) (h13 : 0 ≤ p1 ∧ p1 ≤ 1000) (h14 : 0 ≤ p2 ∧ p2 ≤ 1000) (h15 : 0 ≤ z4574 ∧ z4574 ≤ 20) (h16 : 0 ≤ z4575 ∧ z4575 ≤ 1000) (h17 : 966 ≤ z5067 ∧ z5067 ≤ 986) (h18 : 0 ≤ z5068 ∧ z5068 ≤ 1000) (h19 : 1 ≤ z5241 ∧ z5241 ≤ 20) (h20 : 1 ≤ z6107 ∧ z6107 ≤ 20) (h21 : 966 ≤ z6108 ∧ z6108 ≤ 986) : z4574 - (z6108 - 966) = z4574 - (z5067 - 966) - z5241 := by omega
theorem vc_X12_wayRight_17 {p1 p2 z4574 z5067 z5068 z5241 z6107 z6108 : Int} (h0 : z6107 < z5241) (h1 : 1 ≤ z5241 ∧ z5068 + 2 + 4 * z5241 ≤ p1 + p2 ∧ z5241 ≤ z4574 - (z5067 - 966)) (h2 : z6108 = z5067 + z6107) (h3 : z6107 ≤ z5241) (h4 : 0 ≤ p1 ∧ p1 ≤ 1000) (h5 : 0 ≤ p2 ∧ p2 ≤ 1000) (h6 : 0 ≤ z4574 ∧ z4574 ≤ 20) (h7 : 966 ≤ z5067 ∧ z5067 ≤ 986) (h8 : 0 ≤ z5068 ∧ z5068 ≤ 1000) (h9 : 1 ≤ z5241 ∧ z5241 ≤ 20) (h10 : 0 ≤ z6107 ∧ z6107 ≤ 20) (h11 : 966 ≤ z6108 ∧ z6108 ≤ 986) : 0 ≤ z6107 ∧ z6107 ≤ 19 := by omega
theorem vc_X12_wayRight_18 {f_size p1 p2 z4574 z4575 z5067 z5068 z5241 z6107 z6108 : Int} (h0 : p1 ≤ z5068) (h1 : z5068 < (p1 + p2)) (h2 : z5068 + 2 ≤ p1 + p2) (h3 : 1 ≤ z5241 ∧ z5068 + 2 + 4 * z5241 ≤ p1 + p2 ∧ z5241 ≤ z4574 - (z5067 - 966)) (h4 : z6108 = z5067 + z6107) (h5 : z6107 ≤ z5241) (h6 : z6107 < z5241) (h7 : p1 + p2 ≤ f_size) (h8 : 4 * z4574 ≤ z4575 - p1) (h9 : z4575 ≤ p1 + p2) (h10 : (p1 + p2) ≤ z4575) (h11 : z4574 ≤ 20) (h12 : 0 ≤ f_size ∧ f_size ≤ 1000) (h13 : 0 ≤ p1 ∧ p1 ≤ 1000) (h14 : 0 ≤ p2 ∧ p2 ≤ 1000) (h15 : 0 ≤ z4574 ∧ z4574 ≤ 20) (h16 : 0 ≤ z4575 ∧ z4575 ≤ 1000) (h17 : 966 ≤ z5067 ∧ z5067 ≤ 986) (h18 : 0 ≤ z5068 ∧ z5068 ≤ 1000) (h19 : 1 ≤ z5241 ∧ z5241 ≤ 20) (h20 : 0 ≤ z6107 ∧ z6107 ≤ 19) (h21 : 966 ≤ z6108 ∧ z6108 ≤ 986) : 0 ≤ ((z5068 + 2) + (4 * z6107)) ∧ ((z5068 + 2) + (4 * z6107)) ≤ 1000 := by omega
theorem vc_X12_wayRight_19 {f_size p1 p2 z4574 z4575 z5067 z5068 z5241 z6107 z6108 : Int} (h0 : p1 + p2 ≤ f_size) (h1 : p1 ≤ z5068) (h2 : z5068 < (p1 + p2)) (h3 : z5068 + 2 ≤ p1 + p2) (h4 : 1 ≤ z5241 ∧ z5068 + 2 + 4 * z5241 ≤ p1 + p2 ∧ z5241 ≤ z4574 - (z5067 - 966)) (h5 : z6108 = z5067 + z6107) (h6 : z6107 ≤ z5241) (h7 : z6107 < z5241) (h8 : 4 * z4574 ≤ z4575 - p1) (h9 : z4575 ≤ p1 + p2) (h10 : (p1 + p2) ≤ z4575) (h11 : z4574 ≤ 20) (h12 : 0 ≤ f_size ∧ f_size ≤ 1000) (h13 : 0 ≤ p1 ∧ p1 ≤ 1000) (h14 : 0 ≤ p2 ∧ p2 ≤ 1000) (h15 : 0 ≤ z4574 ∧ z4574 ≤ 20) (h16 : 0 ≤ z4575 ∧ z4575 ≤ 1000) (h17 : 966 ≤ z5067 ∧ z5067 ≤ 986) (h18 : 0 ≤ z5068 ∧ z5068 ≤ 1000) (h19 : 1 ≤ z5241 ∧ z5241 ≤ 20) (h20 : 0 ≤ z6107 ∧ z6107 ≤ 19) (h21 : 966 ≤ z6108 ∧ z6108 ≤ 986) : ((z5068 + 2) + (4 * z6107)) + (4 : Int) ≤ f_size := by omega
theorem vc_X12_wayRight_20 {p1 p2 z4574 z5067 z5068 z5241 z6107 z6108 z6285 : Int} (h0 : (z6285 - 965) < ((0 : Nat) : Int)) (h1 : z6285 ≤ z6108) (h2 : z5067 ≤ z6285) (h3 : 1 ≤ z5241 ∧ z5068 + 2 + 4 * z5241 ≤ p1 + p2 ∧ z5241 ≤ z4574 - (z5067 - 966)) (h4 : z6108 = z5067 + z6107) (h5 : 0 ≤ p1 ∧ p1 ≤ 1000) (h6 : 0 ≤ p2 ∧ p2 ≤ 1000) (h7 : 0 ≤ z4574 ∧ z4574 ≤ 20) (h8 : 966 ≤ z5067 ∧ z5067 ≤ 986) (h9 : 0 ≤ z5068 ∧ z5068 ≤ 1000) (h10 : 1 ≤ z5241 ∧ z5241 ≤ 20) (h11 : 0 ≤ z6107 ∧ z6107 ≤ 19) (h12 : 966 ≤ z6108 ∧ z6108 ≤ 986) (h13 : 966 ≤ z6285 ∧ z6285 ≤ 985) : False := by omega
theorem vc_X12_wayRight_21 {f_size p1 p2 z4574 z4575 z5067 z5068 z5241 z6107 z6108 z6285 : Int} (h0 : p1 + p2 ≤ f_size) (h1 : p1 ≤ z5068) (h2 : z5068 < (p1 + p2)) (h3 : z5068 + 2 ≤ p1 + p2) (h4 : 1 ≤ z5241 ∧ z5068 + 2 + 4 * z5241 ≤ p1 + p2 ∧ z5241 ≤ z4574 - (z5067 - 966)) (h5 : 4 * z4574 ≤ z4575 - p1) (h6 : z4575 ≤ p1 + p2) (h7 : (p1 + p2) ≤ z4575) (h8 : z4574 ≤ 20) (h9 : z6108 = z5067 + z6107) (h10 : z6107 ≤ z5241) (h11 : z6107 < z5241) (h12 : z5067 ≤ z6285) (h13 : 0 ≤ f_size ∧ f_size ≤ 1000) (h14 : 0 ≤ p1 ∧ p1 ≤ 1000) (h15 : 0 ≤ p2 ∧ p2 ≤ 1000) (h16 : 0 ≤ z4574 ∧ z4574 ≤ 20) (h17 : 0 ≤ z4575 ∧ z4575 ≤ 1000) (h18 : 966 ≤ z5067 ∧ z5067 ≤ 986) (h19 : 0 ≤ z5068 ∧ z5068 ≤ 1000) (h20 : 1 ≤ z5241 ∧ z5241 ≤ 20) (h21 : 0 ≤ z6107 ∧ z6107 ≤ 19) (h22 : 966 ≤ z6108 ∧ z6108 ≤ 986) (h23 : 966 ≤ z6285 ∧ z6285 ≤ 985) : z5068 < f_size := by omega
theorem vc_X12_wayRight_22 {p1 p2 z4574 z5067 z5068 z5241 z6107 z6108 z6194 z6285 : Int} (h0 : (4 : Int) ≤ 2 → 0 ≤ z6194 ∧ z6194 ≤ 65535) (h1 : z6285 ≤ z6108) (h2 : z5067 ≤ z6285) (h3 : 1 ≤ z5241 ∧ z5068 + 2 + 4 * z5241 ≤ p1 + p2 ∧ z5241 ≤ z4574 - (z5067 - 966)) (h4 : z6108 = z5067 + z6107) (h5 : 0 ≤ p1 ∧ p1 ≤ 1000) (h6 : 0 ≤ p2 ∧ p2 ≤ 1000) (h7 : 0 ≤ z4574 ∧ z4574 ≤ 20) (h8 : 966 ≤ z5067 ∧ z5067 ≤ 986) (h9 : 0 ≤ z5068 ∧ z5068 ≤ 1000) (h10 : 1 ≤ z5241 ∧ z5241 ≤ 20) (h11 : 0 ≤ z6107 ∧ z6107 ≤ 19) (h12 : 966 ≤ z6108 ∧ z6108 ≤ 986) (h13 : (-2147483648) ≤ z6194 ∧ z6194 ≤ 2147483647) (h14 : 966 ≤ z6285 ∧ z6285 ≤ 985) : (-2147483648 ≤ z6194 ∧ z6194 ≤ 2147483647) ∧ (z6285 % 40 = 0 → -1 ≤ z6194 ∧ z6194 ≤ 9) ∧ (z6285 % 40 = 4 → 0 ≤ z6194 ∧ z6194 ≤ 20) ∧ (z6285 % 40 = 5 → 0 ≤ z6194 ∧ z6194 ≤ 8) := by omega
theorem vc_X12_wayRight_23 {p1 p2 z4574 z5067 z5068 z5241 z6107 z6108 z6285 : Int} (h0 : z6108 = z5067 + z6107) (h1 : z6285 ≤ z6108) (h2 : 1 ≤ z5241 ∧ z5068 + 2 + 4 * z5241 ≤ p1 + p2 ∧ z5241 ≤ z4574 - (z5067 - 966)) (h3 : z6107 ≤ z5241) (h4 : z6107 < z5241) (h5 : z5067 ≤ z6285) (h6 : 0 ≤ p1 ∧ p1 ≤ 1000) (h7 : 0 ≤ p2 ∧ p2 ≤ 1000) (h8 : 0 ≤ z4574 ∧ z4574 ≤ 20) (h9 : 966 ≤ z5067 ∧ z5067 ≤ 986) (h10 : 0 ≤ z5068 ∧ z5068 ≤ 1000) (h11 : 1 ≤ z5241 ∧ z5241 ≤ 20) (h12 : 0 ≤ z6107 ∧ z6107 ≤ 19) (h13 : 966 ≤ z6108 ∧ z6108 ≤ 986) (h14 : 966 ≤ z6285 ∧ z6285 ≤ 985) : 966 ≤ (z6108 + 1) ∧ (z6108 + 1) ≤ 986 := by omega
theorem vc_X12_wayRight_24 {f_size p1 p2 z4574 z4575 z5067 z5068 z5241 z6107 z6108 z6285 : Int} (h0 : 1 ≤ z5241 ∧ z5068 + 2 + 4 * z5241 ≤ p1 + p2 ∧ z5241 ≤ z4574 - (z5067 - 966)) (h1 : z6108 = z5067 + z6107) (h2 : z6107 ≤ z5241) (h3 : z6107 < z5241) (h4 : z6285 ≤ z6108) (h5 : z5067 ≤ z6285) (h6 : p1 + p2 ≤ f_size) (h7 : 4 * z4574 ≤ z4575 - p1) (h8 : z4575 ≤ p1 + p2) (h9 : (p1 + p2) ≤ z4575) (h10 : z4574 ≤ 20) (h11 : p1 ≤ z5068) (h12 : z5068 < (p1 + p2)) (h13 : z5068 + 2 ≤ p1 + p2) (h14 : 0 ≤ f_size ∧ f_size ≤ 1000) (h15 : 0 ≤ p1 ∧ p1 ≤ 1000) (h16 : 0 ≤ p2 ∧ p2 ≤ 1000) (h17 : 0 ≤ z4574 ∧ z4574 ≤ 20) (h18 : 0 ≤ z4575 ∧ z4575 ≤ 1000) (h19 : 966 ≤ z5067 ∧ z5067 ≤ 986) (h20 : 0 ≤ z5068 ∧ z5068 ≤ 1000) (h21 : 1 ≤ z5241 ∧ z5241 ≤ 20) (h22 : 0 ≤ z6107 ∧ z6107 ≤ 19) (h23 : 966 ≤ z6108 ∧ z6108 ≤ 986) (h24 : 966 ≤ z6285 ∧ z6285 ≤ 985) : (z6108 + 1) = z5067 + (z6107 + 1) := by omega
theorem vc_X12_wayRight_25 {f_size p1 p2 z4574 z4575 z5067 z5068 z5241 z6107 z6108 z6285 : Int} (h0 : 1 ≤ z5241 ∧ z5068 + 2 + 4 * z5241 ≤ p1 + p2 ∧ z5241 ≤ z4574 - (z5067 - 966)) (h1 : z6108 = z5067 + z6107) (h2 : z6107 ≤ z5241) (h3 : z6107 < z5241) (h4 : p1 + p2 ≤ f_size) (h5 : 4 * z4574 ≤ z4575 - p1) (h6 : z4575 ≤ p1 + p2) (h7 : (p1 + p2) ≤ z4575) (h8 : z4574 ≤ 20) (h9 : p1 ≤ z5068) (h10 : z5068 < (p1 + p2)) (h11 : z5068 + 2 ≤ p1 + p2) (h12 : z6285 ≤ z6108) (h13 : z5067 ≤ z6285) (h14 : 0 ≤ f_size ∧ f_size ≤ 1000) (h15 : 0 ≤ p1 ∧ p1 ≤ 1000) (h16 : 0 ≤ p2 ∧ p2 ≤ 1000) (h17 : 0 ≤ z4574 ∧ z4574 ≤ 20) (h18 : 0 ≤ z4575 ∧ z4575 ≤ 1000) (h19 : 966 ≤ z5067 ∧ z5067 ≤ 986) (h20 : 0 ≤ z5068 ∧ z5068 ≤ 1000) (h21 : 1 ≤ z5241 ∧ z5241 ≤ 20) (h22 : 0 ≤ z6107 ∧ z6107 ≤ 19) (h23 : 966 ≤ z6108 ∧ z6108 ≤ 986) (h24 : 966 ≤ z6285 ∧ z6285 ≤ 985) : (z6107 + 1) ≤ z5241 := by omega
theorem vc_X12_wayRight_26 {N p1 p2 z4574 z5067 z5068 z5241 z6107 z6108 z6285 : Int} (h0 : (987 - z6108) < N + 1) (h1 : z6108 = z5067 + z6107) (h2 : z6285 ≤ z6108) (h3 : 1 ≤ z5241 ∧ z5068 + 2 + 4 * z5241 ≤ p1 + p2 ∧ z5241 ≤ z4574 - (z5067 - 966)) (h4 : z6107 ≤ z5241) (h5 : z6107 < z5241) (h6 : z5067 ≤ z6285) (h7 : 0 ≤ p1 ∧ p1 ≤ 1000) (h8 : 0 ≤ p2 ∧ p2 ≤ 1000) (h9 : 0 ≤ z4574 ∧ z4574 ≤ 20) (h10 : 966 ≤ z5067 ∧ z5067 ≤ 986) (h11 : 0 ≤ z5068 ∧ z5068 ≤ 1000) (h12 : 1 ≤ z5241 ∧ z5241 ≤ 20) (h13 : 0 ≤ z6107 ∧ z6107 ≤ 19) (h14 : 966 ≤ z6108 ∧ z6108 ≤ 986) (h15 : 966 ≤ z6285 ∧ z6285 ≤ 985) : (987 - (z6108 + 1)) < N := by omega
theorem vc_X12_wayRight_27 {p1 p2 z4574 z5067 z5068 z5241 z6107 z6108 z6285 : Int} (h0 : z6285 ≤ z6108) (h1 : z5067 ≤ z6285) (h2 : 1 ≤ z5241 ∧ z5068 + 2 + 4 * z5241 ≤ p1 + p2 ∧ z5241 ≤ z4574 - (z5067 - 966)) (h3 : z6108 = z5067 + z6107) (h4 : 0 ≤ p1 ∧ p1 ≤ 1000) (h5 : 0 ≤ p2 ∧ p2 ≤ 1000) (h6 : 0 ≤ z4574 ∧ z4574 ≤ 20) (h7 : 966 ≤ z5067 ∧ z5067 ≤ 986) (h8 : 0 ≤ z5068 ∧ z5068 ≤ 1000) (h9 : 1 ≤ z5241 ∧ z5241 ≤ 20) (h10 : 0 ≤ z6107 ∧ z6107 ≤ 19) (h11 : 966 ≤ z6108 ∧ z6108 ≤ 986) (h12 : 966 ≤ z6285 ∧ z6285 ≤ 985) : 0 ≤ z6285 ∧ 964 ≤ z6285 ∧ z6285 < 986 := by omega
theorem vc_X12_wayRight_28 {z6300 : Int} (h0 : z6300 = 1) (h1 : 0 ≤ z6300 ∧ z6300 ≤ 255) : 1 ≤ z6300 ∧ z6300 ≤ 1 := by omega
theorem vc_X12_wayRight_29 {p1 p2 z4574 z5067 z5068 z5241 z6107 z6108 z6285 : Int} (h0 : z5067 < z6285) (h1 : 1 ≤ z5241 ∧ z5068 + 2 + 4 * z5241 ≤ p1 + p2 ∧ z5241 ≤ z4574 - (z5067 - 966)) (h2 : z6108 = z5067 + z6107) (h3 : z6285 ≤ z6108) (h4 : z5067 ≤ z6285) (h5 : 0 ≤ p1 ∧ p1 ≤ 1000) (h6 : 0 ≤ p2 ∧ p2 ≤ 1000) (h7 : 0 ≤ z4574 ∧ z4574 ≤ 20) (h8 : 966 ≤ z5067 ∧ z5067 ≤ 986) (h9 : 0 ≤ z5068 ∧ z5068 ≤ 1000) (h10 : 1 ≤ z5241 ∧ z5241 ≤ 20) (h11 : 0 ≤ z6107 ∧ z6107 ≤ 19) (h12 : 966 ≤ z6108 ∧ z6108 ≤ 986) (h13 : 966 ≤ z6285 ∧ z6285 ≤ 985) : 967 ≤ z6285 ∧ z6285 ≤ 985 := by omega
theorem vc_X12_wayRight_30 {p1 p2 z4574 z5067 z5068 z5241 z6107 z6108 z6285 : Int} (h0 : z5067 < z6285) (h1 : 1 ≤ z5241 ∧ z5068 + 2 + 4 * z5241 ≤ p1 + p2 ∧ z5241 ≤ z4574 - (z5067 - 966)) (h2 : z6108 = z5067 + z6107) (h3 : z6285 ≤ z6108) (h4 : z5067 ≤ z6285) (h5 : 0 ≤ p1 ∧ p1 ≤ 1000) (h6 : 0 ≤ p2 ∧ p2 ≤ 1000) (h7 : 0 ≤ z4574 ∧ z4574 ≤ 20) (h8 : 966 ≤ z5067 ∧ z5067 ≤ 986) (h9 : 0 ≤ z5068 ∧ z5068 ≤ 1000) (h10 : 1 ≤ z5241 ∧ z5241 ≤ 20) (h11 : 0 ≤ z6107 ∧ z6107 ≤ 19) (h12 : 966 ≤ z6108 ∧ z6108 ≤ 986) (h13 : 967 ≤ z6285 ∧ z6285 ≤ 985) : 966 ≤ z5067 ∧ z5067 ≤ 984 := by omega
theorem vc_X12_wayRight_31 {z6194 z6328 z6335 : Int} (h0 : z6335 = 0) (h1 : (z6335 = 1 → z6194 % 4294967296 < z6328 % 4294967296)) (h2 : (z6335 = 0 → z6328 % 4294967296 ≤ z6194 % 4294967296)) (h3 : (-2147483648) ≤ z6194 ∧ z6194 ≤ 2147483647) (h4 : (-2147483648) ≤ z6328 ∧ z6328 ≤ 2147483647) (h5 : 0 ≤ z6335 ∧ z6335 ≤ 1) : 0 ≤ z6335 ∧ z6335 ≤ 0 := by omega
theorem vc_X12_wayRight_32 {z6194 z6285 z6328 z6335 : Int} (h0 : (z6335 = 1 → z6194 % 4294967296 < z6328 % 4294967296)) (h1 : (z6335 = 0 → z6328 % 4294967296 ≤ z6194 % 4294967296)) (h2 : z6335 = 0) (h3 : (4 : Int) ≤ 2 → 0 ≤ z6194 ∧ z6194 ≤ 65535) (h4 : ((z6285 - 1) % 40 = 0 → -1 ≤ z6328 ∧ z6328 ≤ 9)) (h5 : ((z6285 - 1) % 40 = 4 → 0 ≤ z6328 ∧ z6328 ≤ 20)) (h6 : ((z6285 - 1) % 40 = 5 → 0 ≤ z6328 ∧ z6328 ≤ 8)) (h7 : (-2147483648) ≤ z6194 ∧ z6194 ≤ 2147483647) (h8 : 967 ≤ z6285 ∧ z6285 ≤ 985) (h9 : (-2147483648) ≤ z6328 ∧ z6328 ≤ 2147483647) (h10 : 0 ≤ z6335 ∧ z6335 ≤ 0) : z6335 = 0 := by omega
theorem vc_X12_wayRight_33 {z6194 z6328 z6335 : Int} (h0 : ¬ z6335 = 0) (h1 : (z6335 = 1 → z6194 % 4294967296 < z6328 % 4294967296)) (h2 : (z6335 = 0 → z6328 % 4294967296 ≤ z6194 % 4294967296)) (h3 : (-2147483648) ≤ z6194 ∧ z6194 ≤ 2147483647) (h4 : (-2147483648) ≤ z6328 ∧ z6328 ≤ 2147483647) (h5 : 0 ≤ z6335 ∧ z6335 ≤ 1) : 1 ≤ z6335 ∧ z6335 ≤ 1 := by omega
theorem vc_X12_wayRight_34 {z6194 z6285 z6328 z6335 : Int} (h0 : (z6335 = 1 → z6194 % 4294967296 < z6328 % 4294967296)) (h1 : (z6335 = 0 → z6328 % 4294967296 ≤ z6194 % 4294967296)) (h2 : ¬ z6335 = 0) (h3 : (4 : Int) ≤ 2 → 0 ≤ z6194 ∧ z6194 ≤ 65535) (h4 : ((z6285 - 1) % 40 = 0 → -1 ≤ z6328 ∧ z6328 ≤ 9)) (h5 : ((z6285 - 1) % 40 = 4 → 0 ≤ z6328 ∧ z6328 ≤ 20)) (h6 : ((z6285 - 1) % 40 = 5 → 0 ≤ z6328 ∧ z6328 ≤ 8)) (h7 : (-2147483648) ≤ z6194 ∧ z6194 ≤ 2147483647) (h8 : 967 ≤ z6285 ∧ z6285 ≤ 985) (h9 : (-2147483648) ≤ z6328 ∧ z6328 ≤ 2147483647) (h10 : 1 ≤ z6335 ∧ z6335 ≤ 1) : z6335 = 1 := by omega
theorem vc_X12_wayRight_35 {p1 p2 z4574 z5067 z5068 z5241 z6107 z6108 z6194 z6285 z6328 z6335 : Int} (h0 : z6285 ≤ z6108) (h1 : z5067 ≤ z6285) (h2 : z5067 < z6285) (h3 : ((z6285 - 1) % 40 = 0 → -1 ≤ z6328 ∧ z6328 ≤ 9)) (h4 : ((z6285 - 1) % 40 = 4 → 0 ≤ z6328 ∧ z6328 ≤ 20)) (h5 : ((z6285 - 1) % 40 = 5 → 0 ≤ z6328 ∧ z6328 ≤ 8)) (h6 : (z6335 = 1 → z6194 % 4294967296 < z6328 % 4294967296)) (h7 : (z6335 = 0 → z6328 % 4294967296 ≤ z6194 % 4294967296)) (h8 : z6194 % 4294967296 < z6328 % 4294967296) (h9 : 1 ≤ z5241 ∧ z5068 + 2 + 4 * z5241 ≤ p1 + p2 ∧ z5241 ≤ z4574 - (z5067 - 966)) (h10 : z6108 = z5067 + z6107) (h11 : (4 : Int) ≤ 2 → 0 ≤ z6194 ∧ z6194 ≤ 65535) (h12 : ¬ z6335 = 0) (h13 : 0 ≤ p1 ∧ p1 ≤ 1000) (h14 : 0 ≤ p2 ∧ p2 ≤ 1000) (h15 : 0 ≤ z4574 ∧ z4574 ≤ 20) (h16 : 966 ≤ z5067 ∧ z5067 ≤ 984) (h17 : 0 ≤ z5068 ∧ z5068 ≤ 1000) (h18 : 1 ≤ z5241 ∧ z5241 ≤ 20) (h19 : 0 ≤ z6107 ∧ z6107 ≤ 19) (h20 : 966 ≤ z6108 ∧ z6108 ≤ 986) (h21 : (-2147483648) ≤ z6194 ∧ z6194 ≤ 2147483647) (h22 : 967 ≤ z6285 ∧ z6285 ≤ 985) (h23 : (-2147483648) ≤ z6328 ∧ z6328 ≤ 2147483647) (h24 : 1 ≤ z6335 ∧ z6335 ≤ 1) : (-2147483648 ≤ z6328 ∧ z6328 ≤ 2147483647) ∧ (z6285 % 40 = 0 → -1 ≤ z6328 ∧ z6328 ≤ 9) ∧ (z6285 % 40 = 4 → 0 ≤ z6328 ∧ z6328 ≤ 20) ∧ (z6285 % 40 = 5 → 0 ≤ z6328 ∧ z6328 ≤ 8) := by omega
theorem vc_X12_wayRight_36 {p1 p2 z4574 z5067 z5068 z5241 z6107 z6108 z6194 z6285 z6328 z6335 : Int} (h0 : z6108 = z5067 + z6107) (h1 : z6285 ≤ z6108) (h2 : z5067 ≤ z6285) (h3 : z5067 < z6285) (h4 : ((z6285 - 1) % 40 = 0 → -1 ≤ z6328 ∧ z6328 ≤ 9)) (h5 : ((z6285 - 1) % 40 = 4 → 0 ≤ z6328 ∧ z6328 ≤ 20)) (h6 : ((z6285 - 1) % 40 = 5 → 0 ≤ z6328 ∧ z6328 ≤ 8)) (h7 : 1 ≤ z5241 ∧ z5068 + 2 + 4 * z5241 ≤ p1 + p2 ∧ z5241 ≤ z4574 - (z5067 - 966)) (h8 : z6107 ≤ z5241) (h9 : z6107 < z5241) (h10 : (z6335 = 1 → z6194 % 4294967296 < z6328 % 4294967296)) (h11 : (z6335 = 0 → z6328 % 4294967296 ≤ z6194 % 4294967296)) (h12 : z6194 % 4294967296 < z6328 % 4294967296) (h13 : 0 ≤ p1 ∧ p1 ≤ 1000) (h14 : 0 ≤ p2 ∧ p2 ≤ 1000) (h15 : 0 ≤ z4574 ∧ z4574 ≤ 20) (h16 : 966 ≤ z5067 ∧ z5067 ≤ 984) (h17 : 0 ≤ z5068 ∧ z5068 ≤ 1000) (h18 : 1 ≤ z5241 ∧ z5241 ≤ 20) (h19 : 0 ≤ z6107 ∧ z6107 ≤ 19) (h20 : 966 ≤ z6108 ∧ z6108 ≤ 986) (h21 : (-2147483648) ≤ z6194 ∧ z6194 ≤ 2147483647) (h22 : 967 ≤ z6285 ∧ z6285 ≤ 985) (h23 : (-2147483648) ≤ z6328 ∧ z6328 ≤ 2147483647) (h24 : 1 ≤ z6335 ∧ z6335 ≤ 1) : (z6285 + (-1)) ≤ z6108 := by omega
theorem vc_X12_wayRight_37 {f_size p1 p2 z4574 z4575 z5067 z5068 z5241 z6107 z6108 z6194 z6285 z6328 z6335 : Int} (h0 : 1 ≤ z5241 ∧ z5068 + 2 + 4 * z5241 ≤ p1 + p2 ∧ z5241 ≤ z4574 - (z5067 - 966)) (h1 : z6108 = z5067 + z6107) (h2 : z6285 ≤ z6108) (h3 : z5067 ≤ z6285) (h4 : z5067 < z6285) (h5 : ((z6285 - 1) % 40 = 0 → -1 ≤ z6328 ∧ z6328 ≤ 9)) (h6 : ((z6285 - 1) % 40 = 4 → 0 ≤ z6328 ∧ z6328 ≤ 20)) (h7 : ((z6285 - 1) % 40 = 5 → 0 ≤ z6328 ∧ z6328 ≤ 8)) (h8 : p1 + p2 ≤ f_size) (h9 : 4 * z4574 ≤ z4575 - p1) (h10 : z4575 ≤ p1 + p2) (h11 : (p1 + p2) ≤ z4575) (h12 : z4574 ≤ 20) (h13 : p1 ≤ z5068) (h14 : z5068 < (p1 + p2)) (h15 : z5068 + 2 ≤ p1 + p2) (h16 : z6107 ≤ z5241) (h17 : z6107 < z5241) (h18 : (z6335 = 1 → z6194 % 4294967296 < z6328 % 4294967296)) (h19 : (z6335 = 0 → z6328 % 4294967296 ≤ z6194 % 4294967296)) (h20 : z6194 % 4294967296 < z6328 % 4294967296) (h21 : 0 ≤ f_size ∧ f_size ≤ 1000) (h22 : 0 ≤ p1 ∧ p1 ≤ 1000) (h23 : 0 ≤ p2 ∧ p2 ≤ 1000) (h24 : 0 ≤ z4574 ∧ z4574 ≤ 20) (h25 : 0 ≤ z4575 ∧ z4575 ≤ 1000) (h26 : 966 ≤ z5067 ∧ z5067 ≤ 984) (h27 : 0 ≤ z5068 ∧ z5068 ≤ 1000) (h28 : 1 ≤ z5241 ∧ z5241 ≤ 20) (h29 : 0 ≤ z6107 ∧ z6107 ≤ 19) (h30 : 966 ≤ z6108 ∧ z6108 ≤ 986) (h31 : (-2147483648) ≤ z6194 ∧ z6194 ≤ 2147483647) (h32 : 967 ≤ z6285 ∧ z6285 ≤ 985) (h33 : (-2147483648) ≤ z6328 ∧ z6328 ≤ 2147483647) (h34 : 1 ≤ z6335 ∧ z6335 ≤ 1) : z5067 ≤ (z6285 + (-1)) := by omega
theorem vc_X12_wayRight_38 {N p1 p2 z4574 z5067 z5068 z5241 z6107 z6108 z6194 z6285 z6328 z6335 : Int} (h0 : (z6285 - 965) < N + 1) (h1 : z6285 ≤ z6108) (h2 : z5067 ≤ z6285) (h3 : z5067 < z6285) (h4 : ((z6285 - 1) % 40 = 0 → -1 ≤ z6328 ∧ z6328 ≤ 9)) (h5 : ((z6285 - 1) % 40 = 4 → 0 ≤ z6328 ∧ z6328 ≤ 20)) (h6 : ((z6285 - 1) % 40 = 5 → 0 ≤ z6328 ∧ z6328 ≤ 8)) (h7 : 1 ≤ z5241 ∧ z5068 + 2 + 4 * z5241 ≤ p1 + p2 ∧ z5241 ≤ z4574 - (z5067 - 966)) (h8 : z6108 = z5067 + z6107) (h9 : (z6335 = 1 → z6194 % 4294967296 < z6328 % 4294967296)) (h10 : (z6335 = 0 → z6328 % 4294967296 ≤ z6194 % 4294967296)) (h11 : z6194 % 4294967296 < z6328 % 4294967296) (h12 : 0 ≤ p1 ∧ p1 ≤ 1000) (h13 : 0 ≤ p2 ∧ p2 ≤ 1000) (h14 : 0 ≤ z4574 ∧ z4574 ≤ 20) (h15 : 966 ≤ z5067 ∧ z5067 ≤ 984) (h16 : 0 ≤ z5068 ∧ z5068 ≤ 1000) (h17 : 1 ≤ z5241 ∧ z5241 ≤ 20) (h18 : 0 ≤ z6107 ∧ z6107 ≤ 19) (h19 : 966 ≤ z6108 ∧ z6108 ≤ 986) (h20 : (-2147483648) ≤ z6194 ∧ z6194 ≤ 2147483647) (h21 : 967 ≤ z6285 ∧ z6285 ≤ 985) (h22 : (-2147483648) ≤ z6328 ∧ z6328 ≤ 2147483647) (h23 : 1 ≤ z6335 ∧ z6335 ≤ 1) : ((z6285 + (-1)) - 965) < N := by omega
theorem vc_X12_wayRight_39 {p1 p2 z4574 z5067 z5068 z5241 z6107 z6108 z6194 z6285 z6328 z6335 : Int} (h0 : z6285 ≤ z6108) (h1 : z5067 ≤ z6285) (h2 : z5067 < z6285) (h3 : ((z6285 - 1) % 40 = 0 → -1 ≤ z6328 ∧ z6328 ≤ 9)) (h4 : ((z6285 - 1) % 40 = 4 → 0 ≤ z6328 ∧ z6328 ≤ 20)) (h5 : ((z6285 - 1) % 40 = 5 → 0 ≤ z6328 ∧ z6328 ≤ 8)) (h6 : 1 ≤ z5241 ∧ z5068 + 2 + 4 * z5241 ≤ p1 + p2 ∧ z5241 ≤ z4574 - (z5067 - 966)) (h7 : z6108 = z5067 + z6107) (h8 : (z6335 = 1 → z6194 % 4294967296 < z6328 % 4294967296)) (h9 : (z6335 = 0 → z6328 % 4294967296 ≤ z6194 % 4294967296)) (h10 : z6194 % 4294967296 < z6328 % 4294967296) (h11 : 0 ≤ p1 ∧ p1 ≤ 1000) (h12 : 0 ≤ p2 ∧ p2 ≤ 1000) (h13 : 0 ≤ z4574 ∧ z4574 ≤ 20) (h14 : 966 ≤ z5067 ∧ z5067 ≤ 984) (h15 : 0 ≤ z5068 ∧ z5068 ≤ 1000) (h16 : 1 ≤ z5241 ∧ z5241 ≤ 20) (h17 : 0 ≤ z6107 ∧ z6107 ≤ 19) (h18 : 966 ≤ z6108 ∧ z6108 ≤ 986) (h19 : (-2147483648) ≤ z6194 ∧ z6194 ≤ 2147483647) (h20 : 967 ≤ z6285 ∧ z6285 ≤ 985) (h21 : (-2147483648) ≤ z6328 ∧ z6328 ≤ 2147483647) (h22 : 1 ≤ z6335 ∧ z6335 ≤ 1) : 0 ≤ z6285 ∧ 964 ≤ z6285 ∧ z6285 < 986 := by omega
theorem vc_X12_wayRight_40 {p1 p2 z4574 z5067 z5068 z5241 z6107 z6108 : Int} (h0 : z6108 = z5067 + z6107) (h1 : 1 ≤ z5241 ∧ z5068 + 2 + 4 * z5241 ≤ p1 + p2 ∧ z5241 ≤ z4574 - (z5067 - 966)) (h2 : z6107 ≤ z5241) (h3 : z6107 < z5241) (h4 : 0 ≤ p1 ∧ p1 ≤ 1000) (h5 : 0 ≤ p2 ∧ p2 ≤ 1000) (h6 : 0 ≤ z4574 ∧ z4574 ≤ 20) (h7 : 966 ≤ z5067 ∧ z5067 ≤ 986) (h8 : 0 ≤ z5068 ∧ z5068 ≤ 1000) (h9 : 1 ≤ z5241 ∧ z5241 ≤ 20) (h10 : 0 ≤ z6107 ∧ z6107 ≤ 19) (h11 : 966 ≤ z6108 ∧ z6108 ≤ 986) : 966 ≤ z6108 ∧ z6108 ≤ 985 := by omega
theorem vc_X12_wayRight_41 {p1 p2 z4574 z5067 z5068 z5241 z6107 z6108 : Int} (h0 : z6108 = z5067 + z6107) (h1 : 1 ≤ z5241 ∧ z5068 + 2 + 4 * z5241 ≤ p1 + p2 ∧ z5241 ≤ z4574 - (z5067 - 966)) (h2 : z6107 ≤ z5241) (h3 : z6107 < z5241) (h4 : 0 ≤ p1 ∧ p1 ≤ 1000) (h5 : 0 ≤ p2 ∧ p2 ≤ 1000) (h6 : 0 ≤ z4574 ∧ z4574 ≤ 20) (h7 : 966 ≤ z5067 ∧ z5067 ≤ 986) (h8 : 0 ≤ z5068 ∧ z5068 ≤ 1000) (h9 : 1 ≤ z5241 ∧ z5241 ≤ 20) (h10 : 0 ≤ z6107 ∧ z6107 ≤ 19) (h11 : 966 ≤ z6108 ∧ z6108 ≤ 986) : z6108 ≤ z6108 := by omega
theorem vc_X12_wayRight_42 {f_size p1 p2 z4574 z4575 z5067 z5068 z5241 z6107 z6108 : Int} (h0 : 1 ≤ z5241 ∧ z5068 + 2 + 4 * z5241 ≤ p1 + p2 ∧ z5241 ≤ z4574 - (z5067 - 966)) (h1 : z6108 = z5067 + z6107) (h2 : p1 + p2 ≤ f_size) (h3 : 4 * z4574 ≤ z4575 - p1) (h4 : z4575 ≤ p1 + p2) (h5 : (p1 + p2) ≤ z4575) (h6 : z4574 ≤ 20) (h7 : p1 ≤ z5068) (h8 : z5068 < (p1 + p2)) (h9 : z5068 + 2 ≤ p1 + p2) (h10 : z6107 ≤ z5241) (h11 : z6107 < z5241) (h12 : 0 ≤ f_size ∧ f_size ≤ 1000) (h13 : 0 ≤ p1 ∧ p1 ≤ 1000) (h14 : 0 ≤ p2 ∧ p2 ≤ 1000) (h15 : 0 ≤ z4574 ∧ z4574 ≤ 20) (h16 : 0 ≤ z4575 ∧ z4575 ≤ 1000) (h17 : 966 ≤ z5067 ∧ z5067 ≤ 986) (h18 : 0 ≤ z5068 ∧ z5068 ≤ 1000) (h19 : 1 ≤ z5241 ∧ z5241 ≤ 20) (h20 : 0 ≤ z6107 ∧ z6107 ≤ 19) (h21 : 966 ≤ z6108 ∧ z6108 ≤ 986) : z5067 ≤ z6108 := by omega
theorem vc_X12_wayRight_43 {p1 p2 z4574 z5067 z5068 z5241 z6107 z6108 : Int} (h0 : z6108 = z5067 + z6107) (h1 : 1 ≤ z5241 ∧ z5068 + 2 + 4 * z5241 ≤ p1 + p2 ∧ z5241 ≤ z4574 - (z5067 - 966)) (h2 : z6107 ≤ z5241) (h3 : z6107 < z5241) (h4 : 0 ≤ p1 ∧ p1 ≤ 1000) (h5 : 0 ≤ p2 ∧ p2 ≤ 1000) (h6 : 0 ≤ z4574 ∧ z4574 ≤ 20) (h7 : 966 ≤ z5067 ∧ z5067 ≤ 986) (h8 : 0 ≤ z5068 ∧ z5068 ≤ 1000) (h9 : 1 ≤ z5241 ∧ z5241 ≤ 20) (h10 : 0 ≤ z6107 ∧ z6107 ≤ 19) (h11 : 966 ≤ z6108 ∧ z6108 ≤ 986) : (z6108 - 965) < ((22 : Nat) : Int) := by omega
theorem vc_X12_wayRight_44 {f_size p1 p2 z4574 z4575 z5067 z5068 z5241 : Int} (h0 : 1 ≤ z5241 ∧ z5068 + 2 + 4 * z5241 ≤ p1 + p2 ∧ z5241 ≤ z4574 - (z5067 - 966)) (h1 : p1 + p2 ≤ f_size) (h2 : 4 * z4574 ≤ z4575 - p1) (h3 : z4575 ≤ p1 + p2) (h4 : (p1 + p2) ≤ z4575) (h5 : z4574 ≤ 20) (h6 : p1 ≤ z5068) (h7 : z5068 < (p1 + p2)) (h8 : z5068 + 2 ≤ p1 + p2) (h9 : 0 ≤ f_size ∧ f_size ≤ 1000) (h10 : 0 ≤ p1 ∧ p1 ≤ 1000) (h11 : 0 ≤ p2 ∧ p2 ≤ 1000) (h12 : 0 ≤ z4574 ∧ z4574 ≤ 20) (h13 : 0 ≤ z4575 ∧ z4575 ≤ 1000) (h14 : 966 ≤ z5067 ∧ z5067 ≤ 986) (h15 : 0 ≤ z5068 ∧ z5068 ≤ 1000) (h16 : 1 ≤ z5241 ∧ z5241 ≤ 20) : z5067 = z5067 + (0 : Int) := by omega
theorem vc_X12_wayRight_45 {f_size p1 p2 z4574 z4575 z5067 z5068 z5241 : Int} (h0 : 1 ≤ z5241 ∧ z5068 + 2 + 4 * z5241 ≤ p1 + p2 ∧ z5241 ≤ z4574 - (z5067 - 966)) (h1 : p1 + p2 ≤ f_size) (h2 : 4 * z4574 ≤ z4575 - p1) (h3 : z4575 ≤ p1 + p2) (h4 : (p1 + p2) ≤ z4575) (h5 : z4574 ≤ 20) (h6 : p1 ≤ z5068) (h7 : z5068 < (p1 + p2)) (h8 : z5068 + 2 ≤ p1 + p2) (h9 : 0 ≤ f_size ∧ f_size ≤ 1000) (h10 : 0 ≤ p1 ∧ p1 ≤ 1000) (h11 : 0 ≤ p2 ∧ p2 ≤ 1000) (h12 : 0 ≤ z4574 ∧ z4574 ≤ 20) (h13 : 0 ≤ z4575 ∧ z4575 ≤ 1000) (h14 : 966 ≤ z5067 ∧ z5067 ≤ 986) (h15 : 0 ≤ z5068 ∧ z5068 ≤ 1000) (h16 : 1 ≤ z5241 ∧ z5241 ≤ 20) : (0 : Int) ≤ z5241 := by omega
theorem vc_X12_wayRight_46 {f_size p1 p2 z4574 z4575 z5067 z5068 z5241 : Int} (h0 : 1 ≤ z5241 ∧ z5068 + 2 + 4 * z5241 ≤ p1 + p2 ∧ z5241 ≤ z4574 - (z5067 - 966)) (h1 : p1 + p2 ≤ f_size) (h2 : 4 * z4574 ≤ z4575 - p1) (h3 : z4575 ≤ p1 + p2) (h4 : (p1 + p2) ≤ z4575) (h5 : z4574 ≤ 20) (h6 : p1 ≤ z5068) (h7 : z5068 < (p1 + p2)) (h8 : z5068 + 2 ≤ p1 + p2) (h9 : 0 ≤ f_size ∧ f_size ≤ 1000) (h10 : 0 ≤ p1 ∧ p1 ≤ 1000) (h11 : 0 ≤ p2 ∧ p2 ≤ 1000) (h12 : 0 ≤ z4574 ∧ z4574 ≤ 20) (h13 : 0 ≤ z4575 ∧ z4575 ≤ 1000) (h14 : 966 ≤ z5067 ∧ z5067 ≤ 986) (h15 : 0 ≤ z5068 ∧ z5068 ≤ 1000) (h16 : 1 ≤ z5241 ∧ z5241 ≤ 20) : (987 - z5067) < ((22 : Nat) : Int) := by omega
theorem vc_X12_wayRight_47 {f_size p1 p2 z4574 z4575 : Int} (h0 : p1 + p2 ≤ f_size) (h1 : 4 * z4574 ≤ z4575 - p1) (h2 : z4575 ≤ p1 + p2) (h3 : (p1 + p2) ≤ z4575) (h4 : z4574 ≤ 20) (h5 : 0 ≤ f_size ∧ f_size ≤ 1000) (h6 : 0 ≤ p1 ∧ p1 ≤ 1000) (h7 : 0 ≤ p2 ∧ p2 ≤ 1000) (h8 : 0 ≤ z4574 ∧ z4574 ≤ 20) (h9 : 0 ≤ z4575 ∧ z4575 ≤ 1000) : p1 ≤ p1 := by omega
theorem vc_X12_wayRight_48 {f_size p1 p2 z4574 z4575 : Int} (h0 : p1 + p2 ≤ f_size) (h1 : 4 * z4574 ≤ z4575 - p1) (h2 : z4575 ≤ p1 + p2) (h3 : (p1 + p2) ≤ z4575) (h4 : z4574 ≤ 20) (h5 : 0 ≤ f_size ∧ f_size ≤ 1000) (h6 : 0 ≤ p1 ∧ p1 ≤ 1000) (h7 : 0 ≤ p2 ∧ p2 ≤ 1000) (h8 : 0 ≤ z4574 ∧ z4574 ≤ 20) (h9 : 0 ≤ z4575 ∧ z4575 ≤ 1000) : (1001 - p1) < ((1002 : Nat) : Int) := by omega
theorem vc_X12_wayRight_49 {f_size p1 p2 z4574 z4575 : Int} (h0 : p1 + p2 ≤ f_size) (h1 : 4 * z4574 ≤ z4575 - p1) (h2 : z4575 ≤ p1 + p2) (h3 : (p1 + p2) ≤ z4575) (h4 : z4574 ≤ 20) (h5 : 0 ≤ f_size ∧ f_size ≤ 1000) (h6 : 0 ≤ p1 ∧ p1 ≤ 1000) (h7 : 0 ≤ p2 ∧ p2 ≤ 1000) (h8 : 0 ≤ z4574 ∧ z4574 ≤ 20) (h9 : 0 ≤ z4575 ∧ z4575 ≤ 1000) : p1 + p2 ≤ z4575 := by omega
theorem vc_X12_wayRight_50 {f_size p1 p2 z4574 z4575 : Int} (h0 : p1 + p2 ≤ f_size) (h1 : 4 * z4574 ≤ z4575 - p1) (h2 : z4575 ≤ p1 + p2) (h3 : (p1 + p2) ≤ z4575) (h4 : z4574 ≤ 20) (h5 : 0 ≤ f_size ∧ f_size ≤ 1000) (h6 : 0 ≤ p1 ∧ p1 ≤ 1000) (h7 : 0 ≤ p2 ∧ p2 ≤ 1000) (h8 : 0 ≤ z4574 ∧ z4574 ≤ 20) (h9 : 0 ≤ z4575 ∧ z4575 ≤ 1000) : z4574 - ((966 : Int) - 966) = z4574 := by omega
theorem vc_X12_wayRight_51 {p1 z4574 z4575 : Int} (h0 : 20 < z4574) (h1 : 4 * z4574 ≤ z4575 - p1) (h2 : 0 ≤ p1 ∧ p1 ≤ 1000) (h3 : 0 ≤ z4574 ∧ z4574 ≤ 250) (h4 : 0 ≤ z4575 ∧ z4575 ≤ 1000) : 21 ≤ z4574 ∧ z4574 ≤ 250 := by omega
theorem vc_X12_wayRight_52 {f_size p1 p2 z4574 z4575 : Int} (h0 : p1 + p2 ≤ f_size) (h1 : 4 * z4574 ≤ z4575 - p1) (h2 : z4575 ≤ p1 + p2) (h3 : z4575 < (p1 + p2)) (h4 : (z4575 + 2) ≤ (p1 + p2)) (h5 : 0 ≤ f_size ∧ f_size ≤ 1000) (h6 : 0 ≤ p1 ∧ p1 ≤ 1000) (h7 : 0 ≤ p2 ∧ p2 ≤ 1000) (h8 : 0 ≤ z4574 ∧ z4574 ≤ 250) (h9 : 0 ≤ z4575 ∧ z4575 ≤ 1000) : z4575 < f_size := by omega
theorem vc_X12_wayRight_53 {z6350 z6355 : Int} (h0 : z6355 = 0) (h1 : (z6355 = 1 → (1 : Int) ≤ z6350 ∧ z6350 ≤ (2 : Int))) (h2 : (z6355 = 0 → z6350 < (1 : Int) ∨ (2 : Int) < z6350)) (h3 : 0 ≤ z6350 ∧ z6350 ≤ 255) (h4 : 0 ≤ z6355 ∧ z6355 ≤ 1) : 0 ≤ z6355 ∧ z6355 ≤ 0 := by omega
theorem vc_X12_wayRight_54 {z6350 z6355 : Int} (h0 : (z6355 = 1 → (1 : Int) ≤ z6350 ∧ z6350 ≤ (2 : Int))) (h1 : (z6355 = 0 → z6350 < (1 : Int) ∨ (2 : Int) < z6350)) (h2 : z6355 = 0) (h3 : 0 ≤ z6350 ∧ z6350 ≤ 255) (h4 : 0 ≤ z6355 ∧ z6355 ≤ 0) : z6355 = 0 := by omega
theorem vc_X12_wayRight_55 {z6350 z6355 : Int} (h0 : ¬ z6355 = 0) (h1 : (z6355 = 1 → (1 : Int) ≤ z6350 ∧ z6350 ≤ (2 : Int))) (h2 : (z6355 = 0 → z6350 < (1 : Int) ∨ (2 : Int) < z6350)) (h3 : 0 ≤ z6350 ∧ z6350 ≤ 255) (h4 : 0 ≤ z6355 ∧ z6355 ≤ 1) : 1 ≤ z6355 ∧ z6355 ≤ 1 := by omega
theorem vc_X12_wayRight_56 {z6350 z6355 : Int} (h0 : (z6355 = 1 → (1 : Int) ≤ z6350 ∧ z6350 ≤ (2 : Int))) (h1 : (z6355 = 0 → z6350 < (1 : Int) ∨ (2 : Int) < z6350)) (h2 : ¬ z6355 = 0) (h3 : 0 ≤ z6350 ∧ z6350 ≤ 255) (h4 : 1 ≤ z6355 ∧ z6355 ≤ 1) : z6355 = 1 := by omega
theorem vc_X12_wayRight_57 {z6350 z6355 : Int} (h0 : (1 : Int) ≤ z6350 ∧ z6350 ≤ (2 : Int)) (h1 : (z6355 = 1 → (1 : Int) ≤ z6350 ∧ z6350 ≤ (2 : Int))) (h2 : (z6355 = 0 → z6350 < (1 : Int) ∨ (2 : Int) < z6350)) (h3 : 0 ≤ z6350 ∧ z6350 ≤ 255) (h4 : 1 ≤ z6355 ∧ z6355 ≤ 1) : 1 ≤ z6350 ∧ z6350 ≤ 2 := by omega
theorem vc_X12_wayRight_58 {f_size p1 p2 z4574 z4575 : Int} (h0 : p1 + p2 ≤ f_size) (h1 : 4 * z4574 ≤ z4575 - p1) (h2 : z4575 ≤ p1 + p2) (h3 : z4575 < (p1 + p2)) (h4 : (z4575 + 2) ≤ (p1 + p2)) (h5 : 0 ≤ f_size ∧ f_size ≤ 1000) (h6 : 0 ≤ p1 ∧ p1 ≤ 1000) (h7 : 0 ≤ p2 ∧ p2 ≤ 1000) (h8 : 0 ≤ z4574 ∧ z4574 ≤ 250) (h9 : 0 ≤ z4575 ∧ z4575 ≤ 1000) : (z4575 + 1) < f_size := by omega
theorem vc_X12_wayRight_59 {z6366 : Int} (h0 : z6366 = 0) (h1 : 0 ≤ z6366 ∧ z6366 ≤ 255) : 0 ≤ z6366 ∧ z6366 ≤ 0 := by omega
theorem vc_X12_wayRight_60 {z6366 : Int} (h0 : ¬ z6366 = 0) (h1 : 0 ≤ z6366 ∧ z6366 ≤ 255) : 1 ≤ z6366 ∧ z6366 ≤ 255 := by omega
theorem vc_X12_wayRight_61 {z6366 z6374 : Int} (h0 : z6374 = z6366) (h1 : ¬ z6366 = 0) (h2 : 1 ≤ z6366 ∧ z6366 ≤ 255) (h3 : 0 ≤ z6374 ∧ z6374 ≤ 255) : 1 ≤ z6374 ∧ z6374 ≤ 255 := by omega
theorem vc_X12_wayRight_62 {f_size p1 p2 z4574 z4575 z6366 z6374 : Int} (h0 : p1 + p2 ≤ f_size) (h1 : 4 * z4574 ≤ z4575 - p1) (h2 : z4575 ≤ p1 + p2) (h3 : z4575 < (p1 + p2)) (h4 : (z4575 + 2) ≤ (p1 + p2)) (h5 : ((z4575 + 2) + (4 * z6374)) ≤ (p1 + p2)) (h6 : z6374 = z6366) (h7 : 0 ≤ f_size ∧ f_size ≤ 1000) (h8 : 0 ≤ p1 ∧ p1 ≤ 1000) (h9 : 0 ≤ p2 ∧ p2 ≤ 1000) (h10 : 0 ≤ z4574 ∧ z4574 ≤ 250) (h11 : 0 ≤ z4575 ∧ z4575 ≤ 1000) (h12 : 1 ≤ z6366 ∧ z6366 ≤ 255) (h13 : 1 ≤ z6374 ∧ z6374 ≤ 255) : (z4575 + 1) < f_size := by omega
theorem vc_X12_wayRight_63 {z6366 z6374 z6381 : Int} (h0 : z6381 = z6366) (h1 : ¬ z6366 = 0) (h2 : z6374 = z6366) (h3 : 1 ≤ z6366 ∧ z6366 ≤ 255) (h4 : 1 ≤ z6374 ∧ z6374 ≤ 255) (h5 : 0 ≤ z6381 ∧ z6381 ≤ 255) : 1 ≤ z6381 ∧ z6381 ≤ 255 := by omega
theorem vc_X12_wayRight_64 {z6366 z6374 z6381 z6387 : Int} (h0 : z6387 = z6366) (h1 : ¬ z6366 = 0) (h2 : z6374 = z6366) (h3 : z6381 = z6366) (h4 : 1 ≤ z6366 ∧ z6366 ≤ 255) (h5 : 1 ≤ z6374 ∧ z6374 ≤ 255) (h6 : 1 ≤ z6381 ∧ z6381 ≤ 255) (h7 : 0 ≤ z6387 ∧ z6387 ≤ 255) : 1 ≤ z6387 ∧ z6387 ≤ 255 := by omega
theorem vc_X12_wayRight_65 {f_size p1 p2 z4574 z4575 z6366 z6374 z6381 z6387 : Int} (h0 : 4 * z4574 ≤ z4575 - p1) (h1 : z4575 ≤ p1 + p2) (h2 : z4575 < (p1 + p2)) (h3 : (z4575 + 2) ≤ (p1 + p2)) (h4 : ((z4575 + 2) + (4 * z6374)) ≤ (p1 + p2)) (h5 : z6387 = z6366) (h6 : p1 + p2 ≤ f_size) (h7 : ¬ z6366 = 0) (h8 : z6374 = z6366) (h9 : z6381 = z6366) (h10 : 0 ≤ f_size ∧ f_size ≤ 1000) (h11 : 0 ≤ p1 ∧ p1 ≤ 1000) (h12 : 0 ≤ p2 ∧ p2 ≤ 1000) (h13 : 0 ≤ z4574 ∧ z4574 ≤ 250) (h14 : 0 ≤ z4575 ∧ z4575 ≤ 1000) (h15 : 1 ≤ z6366 ∧ z6366 ≤ 255) (h16 : 1 ≤ z6374 ∧ z6374 ≤ 255) (h17 : 1 ≤ z6381 ∧ z6381 ≤ 255) (h18 : 1 ≤ z6387 ∧ z6387 ≤ 255) : 0 ≤ (z4575 + (2 + (4 * z6387))) ∧ (z4575 + (2 + (4 * z6387))) ≤ 1000 := by omega
theorem vc_X12_wayRight_66 {f_size p1 p2 z4574 z4575 z6366 z6374 z6381 z6387 : Int} (h0 : 4 * z4574 ≤ z4575 - p1) (h1 : z6381 = z6366) (h2 : p1 + p2 ≤ f_size) (h3 : z4575 ≤ p1 + p2) (h4 : z4575 < (p1 + p2)) (h5 : (z4575 + 2) ≤ (p1 + p2)) (h6 : ¬ z6366 = 0) (h7 : z6374 = z6366) (h8 : ((z4575 + 2) + (4 * z6374)) ≤ (p1 + p2)) (h9 : z6387 = z6366) (h10 : 0 ≤ f_size ∧ f_size ≤ 1000) (h11 : 0 ≤ p1 ∧ p1 ≤ 1000) (h12 : 0 ≤ p2 ∧ p2 ≤ 1000) (h13 : 0 ≤ z4574 ∧ z4574 ≤ 250) (h14 : 0 ≤ z4575 ∧ z4575 ≤ 1000) (h15 : 1 ≤ z6366 ∧ z6366 ≤ 255) (h16 : 1 ≤ z6374 ∧ z6374 ≤ 255) (h17 : 1 ≤ z6381 ∧ z6381 ≤ 255) (h18 : 1 ≤ z6387 ∧ z6387 ≤ 255) : 0 ≤ (z4574 + z6381) ∧ (z4574 + z6381) ≤ 250 := by omega
theorem vc_X12_wayRight_67 {f_size p1 p2 z4574 z4575 z6366 z6374 z6381 z6387 : Int} (h0 : p1 + p2 ≤ f_size) (h1 : 4 * z4574 ≤ z4575 - p1) (h2 : z4575 ≤ p1 + p2) (h3 : z4575 < (p1 + p2)) (h4 : (z4575 + 2) ≤ (p1 + p2)) (h5 : ((z4575 + 2) + (4 * z6374)) ≤ (p1 + p2)) (h6 : z6381 = z6366) (h7 : z6387 = z6366) (h8 : ¬ z6366 = 0) (h9 : z6374 = z6366) (h10 : 0 ≤ f_size ∧ f_size ≤ 1000) (h11 : 0 ≤ p1 ∧ p1 ≤ 1000) (h12 : 0 ≤ p2 ∧ p2 ≤ 1000) (h13 : 0 ≤ z4574 ∧ z4574 ≤ 250) (h14 : 0 ≤ z4575 ∧ z4575 ≤ 1000) (h15 : 1 ≤ z6366 ∧ z6366 ≤ 255) (h16 : 1 ≤ z6374 ∧ z6374 ≤ 255) (h17 : 1 ≤ z6381 ∧ z6381 ≤ 255) (h18 : 1 ≤ z6387 ∧ z6387 ≤ 255) : 4 * (z4574 + z6381) ≤ (z4575 + (2 + (4 * z6387))) - p1 := by omega
theorem vc_X12_wayRight_68 {f_size p1 p2 z4574 z4575 z6366 z6374 z6381 z6387 : Int} (h0 : p1 + p2 ≤ f_size) (h1 : 4 * z4574 ≤ z4575 - p1) (h2 : z4575 ≤ p1 + p2) (h3 : z4575 < (p1 + p2)) (h4 : (z4575 + 2) ≤ (p1 + p2)) (h5 : ((z4575 + 2) + (4 * z6374)) ≤ (p1 + p2)) (h6 : z6387 = z6366) (h7 : ¬ z6366 = 0) (h8 : z6374 = z6366) (h9 : z6381 = z6366) (h10 : 0 ≤ f_size ∧ f_size ≤ 1000) (h11 : 0 ≤ p1 ∧ p1 ≤ 1000) (h12 : 0 ≤ p2 ∧ p2 ≤ 1000) (h13 : 0 ≤ z4574 ∧ z4574 ≤ 250) (h14 : 0 ≤ z4575 ∧ z4575 ≤ 1000) (h15 : 1 ≤ z6366 ∧ z6366 ≤ 255) (h16 : 1 ≤ z6374 ∧ z6374 ≤ 255) (h17 : 1 ≤ z6381 ∧ z6381 ≤ 255) (h18 : 1 ≤ z6387 ∧ z6387 ≤ 255) : (z4575 + (2 + (4 * z6387))) ≤ p1 + p2 := by omega
theorem vc_X12_wayRight_69 {N f_size p1 p2 z4574 z4575 z6366 z6374 z6381 z6387 : Int} (h0 : (1001 - z4575) < N + 1) (h1 : 4 * z4574 ≤ z4575 - p1) (h2 : z4575 ≤ p1 + p2) (h3 : z4575 < (p1 + p2)) (h4 : (z4575 + 2) ≤ (p1 + p2)) (h5 : ((z4575 + 2) + (4 * z6374)) ≤ (p1 + p2)) (h6 : z6387 = z6366) (h7 : p1 + p2 ≤ f_size) (h8 : ¬ z6366 = 0) (h9 : z6374 = z6366) (h10 : z6381 = z6366) (h11 : 0 ≤ f_size ∧ f_size ≤ 1000) (h12 : 0 ≤ p1 ∧ p1 ≤ 1000) (h13 : 0 ≤ p2 ∧ p2 ≤ 1000) (h14 : 0 ≤ z4574 ∧ z4574 ≤ 250) (h15 : 0 ≤ z4575 ∧ z4575 ≤ 1000) (h16 : 1 ≤ z6366 ∧ z6366 ≤ 255) (h17 : 1 ≤ z6374 ∧ z6374 ≤ 255) (h18 : 1 ≤ z6381 ∧ z6381 ≤ 255) (h19 : 1 ≤ z6387 ∧ z6387 ≤ 255) : (1001 - (z4575 + (2 + (4 * z6387)))) < N := by omega
theorem vc_X12_wayRight_70 {f_size p1 p2 z4574 z4575 z6366 z6374 : Int} (h0 : p1 + p2 ≤ f_size) (h1 : 4 * z4574 ≤ z4575 - p1) (h2 : z4575 ≤ p1 + p2) (h3 : z4575 < (p1 + p2)) (h4 : (z4575 + 2) ≤ (p1 + p2)) (h5 : ((z4575 + 2) + (4 * z6374)) ≤ (p1 + p2)) (h6 : z6374 = z6366) (h7 : 0 ≤ f_size ∧ f_size ≤ 1000) (h8 : 0 ≤ p1 ∧ p1 ≤ 1000) (h9 : 0 ≤ p2 ∧ p2 ≤ 1000) (h10 : 0 ≤ z4574 ∧ z4574 ≤ 250) (h11 : 0 ≤ z4575 ∧ z4575 ≤ 1000) (h12 : 1 ≤ z6366 ∧ z6366 ≤ 255) (h13 : 1 ≤ z6374 ∧ z6374 ≤ 255) : z4575 < p1 + p2 := by omega
theorem vc_X12_wayRight_71 {f_size p1 p2 z4574 z4575 z6366 z6374 : Int} (h0 : p1 + p2 ≤ f_size) (h1 : 4 * z4574 ≤ z4575 - p1) (h2 : z4575 ≤ p1 + p2) (h3 : z4575 < (p1 + p2)) (h4 : (z4575 + 2) ≤ (p1 + p2)) (h5 : ((z4575 + 2) + (4 * z6374)) ≤ (p1 + p2)) (h6 : z6374 = z6366) (h7 : 0 ≤ f_size ∧ f_size ≤ 1000) (h8 : 0 ≤ p1 ∧ p1 ≤ 1000) (h9 : 0 ≤ p2 ∧ p2 ≤ 1000) (h10 : 0 ≤ z4574 ∧ z4574 ≤ 250) (h11 : 0 ≤ z4575 ∧ z4575 ≤ 1000) (h12 : 1 ≤ z6366 ∧ z6366 ≤ 255) (h13 : 1 ≤ z6374 ∧ z6374 ≤ 255) : z4575 + 2 ≤ p1 + p2 := by omega
theorem vc_X12_wayRight_72 {f_size p1 p2 z4574 z4575 z6366 z6374 z6381 z6387 : Int} (h0 : p1 + p2 ≤ f_size) (h1 : 4 * z4574 ≤ z4575 - p1) (h2 : z4575 ≤ p1 + p2) (h3 : z4575 < (p1 + p2)) (h4 : (z4575 + 2) ≤ (p1 + p2)) (h5 : ¬ z6366 = 0) (h6 : z6374 = z6366) (h7 : ((z4575 + 2) + (4 * z6374)) ≤ (p1 + p2)) (h8 : z6381 = z6366) (h9 : z6387 = z6366) (h10 : 0 ≤ f_size ∧ f_size ≤ 1000) (h11 : 0 ≤ p1 ∧ p1 ≤ 1000) (h12 : 0 ≤ p2 ∧ p2 ≤ 1000) (h13 : 0 ≤ z4574 ∧ z4574 ≤ 250) (h14 : 0 ≤ z4575 ∧ z4575 ≤ 1000) (h15 : 1 ≤ z6366 ∧ z6366 ≤ 255) (h16 : 1 ≤ z6374 ∧ z6374 ≤ 255) (h17 : 1 ≤ z6381 ∧ z6381 ≤ 255) (h18 : 1 ≤ z6387 ∧ z6387 ≤ 255) : 1 ≤ z6366 := by omega
theorem vc_X12_wayRight_73 {f_size p1 p2 z4574 z4575 z6366 z6374 z6381 z6387 : Int} (h0 : p1 + p2 ≤ f_size) (h1 : 4 * z4574 ≤ z4575 - p1) (h2 : z4575 ≤ p1 + p2) (h3 : z4575 < (p1 + p2)) (h4 : (z4575 + 2) ≤ (p1 + p2)) (h5 : ¬ z6366 = 0) (h6 : z6374 = z6366) (h7 : ((z4575 + 2) + (4 * z6374)) ≤ (p1 + p2)) (h8 : z6381 = z6366) (h9 : z6387 = z6366) (h10 : 0 ≤ f_size ∧ f_size ≤ 1000) (h11 : 0 ≤ p1 ∧ p1 ≤ 1000) (h12 : 0 ≤ p2 ∧ p2 ≤ 1000) (h13 : 0 ≤ z4574 ∧ z4574 ≤ 250) (h14 : 0 ≤ z4575 ∧ z4575 ≤ 1000) (h15 : 1 ≤ z6366 ∧ z6366 ≤ 255) (h16 : 1 ≤ z6374 ∧ z6374 ≤ 255) (h17 : 1 ≤ z6381 ∧ z6381 ≤ 255) (h18 : 1 ≤ z6387 ∧ z6387 ≤ 255) : z4575 + 2 + 4 * z6366 ≤ p1 + p2 := by omega
theorem vc_X12_wayRight_74 {f_size p1 p2 z4574 z4575 z6366 z6374 z6381 z6387 : Int} (h0 : p1 + p2 ≤ f_size) (h1 : 4 * z4574 ≤ z4575 - p1) (h2 : z4575 ≤ p1 + p2) (h3 : z4575 < (p1 + p2)) (h4 : (z4575 + 2) ≤ (p1 + p2)) (h5 : ¬ z6366 = 0) (h6 : z6374 = z6366) (h7 : ((z4575 + 2) + (4 * z6374)) ≤ (p1 + p2)) (h8 : z6381 = z6366) (h9 : z6387 = z6366) (h10 : 0 ≤ f_size ∧ f_size ≤ 1000) (h11 : 0 ≤ p1 ∧ p1 ≤ 1000) (h12 : 0 ≤ p2 ∧ p2 ≤ 1000) (h13 : 0 ≤ z4574 ∧ z4574 ≤ 250) (h14 : 0 ≤ z4575 ∧ z4575 ≤ 1000) (h15 : 1 ≤ z6366 ∧ z6366 ≤ 255) (h16 : 1 ≤ z6374 ∧ z6374 ≤ 255) (h17 : 1 ≤ z6381 ∧ z6381 ≤ 255) (h18 : 1 ≤ z6387 ∧ z6387 ≤ 255) : (z4575 + (2 + (4 * z6387))) = z4575 + 2 + 4 * z6366 := by omega
theorem vc_X12_wayRight_75 {f_size p1 p2 z4574 z4575 z6366 z6374 z6381 z6387 : Int} (h0 : p1 + p2 ≤ f_size) (h1 : 4 * z4574 ≤ z4575 - p1) (h2 : z4575 ≤ p1 + p2) (h3 : z4575 < (p1 + p2)) (h4 : (z4575 + 2) ≤ (p1 + p2)) (h5 : ¬ z6366 = 0) (h6 : z6374 = z6366) (h7 : ((z4575 + 2) + (4 * z6374)) ≤ (p1 + p2)) (h8 : z6381 = z6366) (h9 : z6387 = z6366) (h10 : 0 ≤ f_size ∧ f_size ≤ 1000) (h11 : 0 ≤ p1 ∧ p1 ≤ 1000) (h12 : 0 ≤ p2 ∧ p2 ≤ 1000) (h13 : 0 ≤ z4574 ∧ z4574 ≤ 250) (h14 : 0 ≤ z4575 ∧ z4575 ≤ 1000) (h15 : 1 ≤ z6366 ∧ z6366 ≤ 255) (h16 : 1 ≤ z6374 ∧ z6374 ≤ 255) (h17 : 1 ≤ z6381 ∧ z6381 ≤ 255) (h18 : 1 ≤ z6387 ∧ z6387 ≤ 255) : (z4574 + z6381) = z4574 + z6366 := by omega
theorem vc_X12_wayRight_76 {f_size p1 p2 : Int} (h0 : p1 + p2 ≤ f_size) (h1 : 0 ≤ f_size ∧ f_size ≤ 1000) (h2 : 0 ≤ p1 ∧ p1 ≤ 1000) (h3 : 0 ≤ p2 ∧ p2 ≤ 1000) : 4 * (0 : Int) ≤ p1 - p1 := by omega
theorem vc_X12_wayRight_77 {f_size p1 p2 : Int} (h0 : p1 + p2 ≤ f_size) (h1 : 0 ≤ f_size ∧ f_size ≤ 1000) (h2 : 0 ≤ p1 ∧ p1 ≤ 1000) (h3 : 0 ≤ p2 ∧ p2 ≤ 1000) : p1 ≤ p1 + p2 := by omega
theorem vc_X12_wayRight_78 {f_size p1 p2 : Int} (h0 : p1 + p2 ≤ f_size) (h1 : 0 ≤ f_size ∧ f_size ≤ 1000) (h2 : 0 ≤ p1 ∧ p1 ≤ 1000) (h3 : 0 ≤ p2 ∧ p2 ≤ 1000) : (1001 - p1) < ((1002 : Nat) : Int) := by omega
set_option maxRecDepth 4000 in
set_option maxHeartbeats 4000000 in
theorem c_X12_wayRight {l : Launch} {D : va_G} {c : Nat → ClassId} {H0 : Heap} {sa : Nat × Nat × (Nat → Int32)} {w : mW} {μ : mM} (hw : mWF w) (hT : mT w μ) {p1 : Int} (hp1 : 0 ≤ p1 ∧ p1 ≤ 1000) {p2 : Int} (hp2 : 0 ≤ p2 ∧ p2 ≤ 1000) {f_size : Int} (q_f_size : μ 106 1 = f_size) (hq0 : p1 + p2 ≤ f_size) : sC (gG l D c H0 sa) mX12_wayRight 3 0 0 [.ref 106, iv p1, iv p2] (mk w μ) (qI w [106099, 126999] μ (fun z μ1 => (0 ≤ z ∧ z ≤ 1) ∧ mG [(964, 986)] μ μ1 ∧ True)) := by
  refine sC.of rfl (by decide) (le_t rfl) ?_
  have ht_f_size : (0 ≤ f_size ∧ f_size ≤ 1000) := by rw [← q_f_size]; exact hT 106 106 (A_106 hw) 1
  refine mr_lvE (lv' := [(0, .ref 106), (1, iv p1), (2, iv p2)]) rfl ?_
  refine mr_iload_n (pc := 0) (z := p1) dX12_wayRight_0 rfl rfl ?_
  refine mr_istore_n (pc := 1) (lv' := [(3, iv p1), (0, .ref 106), (1, iv p1), (2, iv p2)]) dX12_wayRight_1 rfl (by decide) rfl ?_
  refine mr_iconst (pc := 2) (z := 0) dX12_wayRight_2 ?_
  refine mr_istore (pc := 3) (lv' := [(4, iv 0), (3, iv p1), (0, .ref 106), (1, iv p1), (2, iv p2)]) dX12_wayRight_3 (by decide) rfl ?_
  have L4576 : ∀ (nL4576 : Nat) (z4575 z4574 : Int), True → (0 ≤ z4575 ∧ z4575 ≤ 1000) → (0 ≤ z4574 ∧ z4574 ≤ 250) → (4 * z4574 ≤ z4575 - p1) → (z4575 ≤ p1 + p2) → (∀ s, Chn μ (p1 + p2) z4575 s → Chn μ (p1 + p2) p1 (z4574 + s)) → (1001 - z4575) < (nL4576 : Int) → sV (gG l D c H0 sa) mX12_wayRight (sRm 3 0 0) (sZ (gG l D c H0 sa) 0 0 (qI w [106099, 126999] μ (fun z μ1 => (0 ≤ z ∧ z ≤ 1) ∧ mG [(964, 986)] μ μ1 ∧ True))) 5 [(0, .ref 106), (1, iv p1), (2, iv p2), (3, iv z4575), (4, iv z4574)] [] (mk w μ) 0 0 := by
    intro nL4576
    induction nL4576 with
    | zero => intro z4575 z4574 _ h4577 h4578 h4582 h4583 R4584 h4585; exact ((vc_X12_wayRight_1 h4585 h4582 h4583 hq0 ht_f_size hp1 hp2 h4578 h4577)).elim
    | succ nL4576 ih4586 =>
      intro z4575 z4574 _ h4577 h4578 h4582 h4583 R4584 h4585
      refine mr_iload_n (pc := 5) (z := z4575) dX12_wayRight_5 rfl rfl ?_
      refine mr_iload_n (pc := 6) (z := p1) dX12_wayRight_6 rfl rfl ?_
      refine mr_iload_n (pc := 7) (z := p2) dX12_wayRight_7 rfl rfl ?_
      refine mr_iadd (pc := 8) (x := p1) (y := p2) dX12_wayRight_8 ?_
      refine mr_icmp_ge (pc := 9) (tgt := 94) dX12_wayRight_9 (by decide) (r32 h4577 rfl) (r32 (rAdd (e := 0) (f := 2000) hp1 hp2 rfl) rfl) (fun h4587 => ?_) (fun h4587 => ?_)
      · refine mr_iload (pc := 94) (z := z4574) dX12_wayRight_94 rfl ?_
        refine mr_bipush (pc := 96) (z := 20) dX12_wayRight_96 (by decide) ?_
        refine mr_icmp_le (pc := 98) (tgt := 103) dX12_wayRight_98 (by decide) (r32 h4578 rfl) (r32 (rR (x := 20)) rfl) (fun h4588 => ?_) (fun h4588 => ?_)
        · have h4589 : 0 ≤ z4574 ∧ z4574 ≤ 20 := (vc_X12_wayRight_2 h4588 h4582 hp1 h4578 h4577)
          refine mr_iload_n (pc := 103) (z := p1) dX12_wayRight_103 rfl rfl ?_
          refine mr_istore_n (pc := 104) (lv' := [(3, iv p1), (0, .ref 106), (1, iv p1), (2, iv p2), (4, iv z4574)]) dX12_wayRight_104 rfl (by decide) rfl ?_
          refine mr_sipush (pc := 105) (z := 966) dX12_wayRight_105 (by decide) ?_
          refine mr_istore (pc := 108) (lv' := [(5, iv 966), (3, iv p1), (0, .ref 106), (1, iv p1), (2, iv p2), (4, iv z4574)]) dX12_wayRight_108 (by decide) rfl ?_
          have L5070 : ∀ (nL5070 : Nat) (z5068 z5067 : Int) (μ5069 : mM), mT w μ5069 → mF [126999] w μ μ5069 → mG [(964, 986)] μ μ5069 → (0 ≤ z5068 ∧ z5068 ≤ 1000) → (966 ≤ z5067 ∧ z5067 ≤ 986) → (p1 ≤ z5068) → Chn μ5069 (p1 + p2) z5068 (z4574 - (z5067 - 966)) → (1001 - z5068) < (nL5070 : Int) → sV (gG l D c H0 sa) mX12_wayRight (sRm 3 0 0) (sZ (gG l D c H0 sa) 0 0 (qI w [106099, 126999] μ (fun z μ1 => (0 ≤ z ∧ z ≤ 1) ∧ mG [(964, 986)] μ μ1 ∧ True))) 110 [(0, .ref 106), (1, iv p1), (2, iv p2), (3, iv z5068), (4, iv z4574), (5, iv z5067)] [] (mk w μ5069) 0 0 := by
            intro nL5070
            induction nL5070 with
            | zero => intro z5068 z5067 μ5069 T5073 F5074 G5075 h5071 h5072 h5076 R5077 h5078; exact ((vc_X12_wayRight_3 h5078 h5076 hq0 h4582 h4583 h4587 ht_f_size hp1 hp2 h4589 h4577 h5071)).elim
            | succ nL5070 ih5079 =>
              intro z5068 z5067 μ5069 T5073 F5074 G5075 h5071 h5072 h5076 R5077 h5078
              refine mr_iload_n (pc := 110) (z := z5068) dX12_wayRight_110 rfl rfl ?_
              refine mr_iload_n (pc := 111) (z := p1) dX12_wayRight_111 rfl rfl ?_
              refine mr_iload_n (pc := 112) (z := p2) dX12_wayRight_112 rfl rfl ?_
              refine mr_iadd (pc := 113) (x := p1) (y := p2) dX12_wayRight_113 ?_
              refine mr_icmp_ge (pc := 114) (tgt := 244) dX12_wayRight_114 (by decide) (r32 h5071 rfl) (r32 (rAdd (e := 0) (f := 2000) hp1 hp2 rfl) rfl) (fun h5229 => ?_) (fun h5229 => ?_)
              · refine sv_aload_n (pc := 244) dX12_wayRight_244 rfl rfl ?_
                refine gf_X12_32 (pc := 245) dX12_wayRight_245 wF_X12_148 (A_106 hw) T5073 ?_
                refine mr_sipush (pc := 248) (z := 964) dX12_wayRight_248 (by decide) ?_
                refine mr_iload (pc := 251) (z := z4574) dX12_wayRight_251 rfl ?_
                refine ss_126 (pc := 253) dX12_wayRight_253 (A_126 hw) T5073 (rIx (n := 84000) (rR (x := 964)) rfl) (vc_X12_wayRight_4 h4582 h4588 hq0 h4583 h4587 h5076 h5229 ht_f_size hp1 hp2 h4589 h4577 h5071) fun μ5230 u5231 T5232 => ?_
                refine sv_aload_n (pc := 254) dX12_wayRight_254 rfl rfl ?_
                refine mr_iconst (pc := 255) (z := 1) dX12_wayRight_255 ?_
                refine pf_X12_99 (pc := 256) dX12_wayRight_256 wF_X12_634 (A_106 hw) T5232 (rW (c := 0) (d := 1) (rR (x := 1)) rfl) fun μ5233 u5234 T5235 => ?_
                refine mr_iconst (pc := 259) (z := 1) dX12_wayRight_259 ?_
                exact mr_zret dX12_wayRight_260 rfl (rW (c := 0) (d := 1) (rR (x := 1)) rfl) (le_t rfl) (le_t rfl) T5235 (mF.up (mF.up (mF.call mF.refl F5074 rfl) (A_126 hw) u5231 rfl) (A_106 hw) u5234 rfl) ⟨(rW (c := 0) (d := 1) (rR (x := 1)) rfl), (mG.upO (mG.up (mG.call mG.refl G5075 (List.forall_mem_cons.mpr ⟨⟨_, List.mem_cons_self, vc_X12_wayRight_5⟩, (fun _ h => absurd h List.not_mem_nil)⟩)) u5231 List.mem_cons_self vc_X12_wayRight_6) u5234 rfl), trivial⟩
              have B5236 := Chn.un R5077 (vc_X12_wayRight_7 hq0 h4582 h4583 h4587 h5076 h5229 h4588 ht_f_size hp1 hp2 h4589 h4577 h5071)
              refine sv_aload_n (pc := 117) dX12_wayRight_117 rfl rfl ?_
              refine mr_iload_n (pc := 118) (z := z5068) dX12_wayRight_118 rfl rfl ?_
              refine mr_iconst (pc := 119) (z := 1) dX12_wayRight_119 ?_
              refine mr_iadd (pc := 120) (x := z5068) (y := 1) dX12_wayRight_120 ?_
              refine mr_cVP (pc := 121) (c_X12_byteAt_f hw T5073 (rW (c := 0) (d := 2147483647) (rAdd (e := 1) (f := 1001) h5071 (rR (x := 1)) rfl) rfl) (F5074.f (A_106 hw) rfl q_f_size) (vc_X12_wayRight_8 hq0 h5076 h5229 B5236.1 h4582 h4583 h4587 ht_f_size hp1 hp2 h4589 h4577 h5071)) (gOk _ _ _ _ _) dX12_wayRight_121 (tX12_byteAt _ _ _ _ _) ⟨wV_X12_byteAt, wL_X12_byteAt⟩ wM_X12_227 (gCX12 _ _ _ _ _) rfl (A_106 hw) rfl ⟨le_t rfl, le_t rfl⟩ ⟨le_t rfl, le_t rfl⟩ rfl (le_t rfl) fun z5241 h5240 => ?_
              have B5242 := B5236; rw [h5240.2.1.symm] at B5242
              have h5243 : 1 ≤ z5241 ∧ z5068 + 2 + 4 * z5241 ≤ p1 + p2 ∧ z5241 ≤ z4574 - (z5067 - 966) := ⟨B5242.2.1, B5242.2.2.1, B5242.2.2.2.1⟩
              have h5244 : 1 ≤ z5241 ∧ z5241 ≤ 20 := (vc_X12_wayRight_9 h4582 h4588 h5243 hq0 h4583 h4587 h5076 h5229 B5236.1 ht_f_size hp1 hp2 h4589 h4577 h5072 h5071 h5240.1)
              refine mr_istore (pc := 124) (lv' := [(6, iv z5241), (0, .ref 106), (1, iv p1), (2, iv p2), (3, iv z5068), (4, iv z4574), (5, iv z5067)]) dX12_wayRight_124 (by decide) rfl ?_
              refine mr_iload (pc := 126) (z := z5067) dX12_wayRight_126 rfl ?_
              refine mr_istore (pc := 128) (lv' := [(7, iv z5067), (6, iv z5241), (0, .ref 106), (1, iv p1), (2, iv p2), (3, iv z5068), (4, iv z4574), (5, iv z5067)]) dX12_wayRight_128 (by decide) rfl ?_
              refine mr_iconst (pc := 130) (z := 0) dX12_wayRight_130 ?_
              refine mr_istore (pc := 131) (lv' := [(8, iv 0), (7, iv z5067), (6, iv z5241), (0, .ref 106), (1, iv p1), (2, iv p2), (3, iv z5068), (4, iv z4574), (5, iv z5067)]) dX12_wayRight_131 (by decide) rfl ?_
              have L6110 : ∀ (nL6110 : Nat) (z6108 z6107 : Int) (μ6109 : mM), mT w μ6109 → mF [126999] w μ5069 μ6109 → mG [(964, 986)] μ5069 μ6109 → (966 ≤ z6108 ∧ z6108 ≤ 986) → (0 ≤ z6107 ∧ z6107 ≤ 20) → (z6108 = z5067 + z6107) → (z6107 ≤ z5241) → (987 - z6108) < (nL6110 : Int) → sV (gG l D c H0 sa) mX12_wayRight (sRm 3 0 0) (sZ (gG l D c H0 sa) 0 0 (qI w [106099, 126999] μ (fun z μ1 => (0 ≤ z ∧ z ≤ 1) ∧ mG [(964, 986)] μ μ1 ∧ True))) 133 [(0, .ref 106), (1, iv p1), (2, iv p2), (3, iv z5068), (4, iv z4574), (5, iv z6108), (6, iv z5241), (7, iv z5067), (8, iv z6107)] [] (mk w μ6109) 0 0 := by
                intro nL6110
                induction nL6110 with
                | zero => intro z6108 z6107 μ6109 T6113 F6114 G6115 h6111 h6112 h6116 h6117 h6118; exact ((vc_X12_wayRight_10 h6118 h6116 h5243 h6117 hp1 hp2 h4589 h5072 h5071 h5244 h6112 h6111)).elim
                | succ nL6110 ih6119 =>
                  intro z6108 z6107 μ6109 T6113 F6114 G6115 h6111 h6112 h6116 h6117 h6118
                  refine mr_iload (pc := 133) (z := z6107) dX12_wayRight_133 rfl ?_
                  refine mr_iload (pc := 135) (z := z5241) dX12_wayRight_135 rfl ?_
                  refine mr_icmp_ge (pc := 137) (tgt := 232) dX12_wayRight_137 (by decide) (r32 h6112 rfl) (r32 h5244 rfl) (fun h6187 => ?_) (fun h6187 => ?_)
                  · have h6188 : 1 ≤ z6107 ∧ z6107 ≤ 20 := (vc_X12_wayRight_11 h6187 h5243 h6116 h6117 hp1 hp2 h4589 h5072 h5071 h5244 h6112 h6111)
                    refine mr_iload_n (pc := 232) (z := z5068) dX12_wayRight_232 rfl rfl ?_
                    refine mr_iconst (pc := 233) (z := 2) dX12_wayRight_233 ?_
                    refine mr_iconst (pc := 234) (z := 4) dX12_wayRight_234 ?_
                    refine mr_iload (pc := 235) (z := z5241) dX12_wayRight_235 rfl ?_
                    refine mr_imul (pc := 237) (x := 4) (y := z5241) dX12_wayRight_237 ?_
                    refine mr_iadd (pc := 238) (x := 2) (y := (4 * z5241)) dX12_wayRight_238 ?_
                    refine mr_iadd (pc := 239) (x := z5068) (y := (2 + (4 * z5241))) dX12_wayRight_239 ?_
                    refine mr_istore_n (pc := 240) (lv' := [(3, iv (z5068 + (2 + (4 * z5241)))), (0, .ref 106), (1, iv p1), (2, iv p2), (4, iv z4574), (5, iv z6108), (6, iv z5241), (7, iv z5067), (8, iv z6107)]) dX12_wayRight_240 rfl (by decide) rfl ?_
                    refine sv_goto (pc := 241) (tgt := 110) dX12_wayRight_241 (by decide) ?_
                    refine mr_lvS (lv' := [(0, .ref 106), (1, iv p1), (2, iv p2), (3, iv (z5068 + (2 + (4 * z5241)))), (4, iv z4574), (5, iv z6108)]) (List.forall_mem_cons.mpr ⟨rfl, List.forall_mem_cons.mpr ⟨rfl, List.forall_mem_cons.mpr ⟨rfl, List.forall_mem_cons.mpr ⟨rfl, List.forall_mem_cons.mpr ⟨rfl, List.forall_mem_cons.mpr ⟨rfl, fun _ h => absurd h List.not_mem_nil⟩⟩⟩⟩⟩⟩) ?_
                    exact ih5079 (z5068 + (2 + (4 * z5241))) z6108 μ6109 T6113 (mF.call (mF.call mF.refl F5074 rfl) F6114 rfl) (mG.call (mG.call mG.refl G5075 (List.forall_mem_cons.mpr ⟨⟨_, List.mem_cons_self, vc_X12_wayRight_5⟩, (fun _ h => absurd h List.not_mem_nil)⟩)) G6115 (List.forall_mem_cons.mpr ⟨⟨_, List.mem_cons_self, vc_X12_wayRight_5⟩, (fun _ h => absurd h List.not_mem_nil)⟩)) (vc_X12_wayRight_12 h5076 h5229 B5236.1 h5243 h6117 h6187 hq0 h4582 h4583 h4587 h4588 h6116 ht_f_size hp1 hp2 h4589 h4577 h5072 h5071 h5244 h6188 h6111) h6111 (vc_X12_wayRight_13 hq0 h4582 h4583 h4587 h5076 h5229 B5236.1 h5243 h6117 h6187 h4588 h6116 ht_f_size hp1 hp2 h4589 h4577 h5072 h5071 h5244 h6188 h6111) (Chn.cg (Chn.keep B5242.2.2.2.2 hw ((mF.call mF.refl F6114 rfl) : mF [126999] w μ5069 μ6109) rfl) (vc_X12_wayRight_15 h5076 h5229 B5236.1 h5243 h6117 h6187 hq0 h4582 h4583 h4587 h4588 h6116 ht_f_size hp1 hp2 h4589 h4577 h5072 h5071 h5244 h6188 h6111) (vc_X12_wayRight_16 hq0 h4582 h4583 h4587 h4588 h5076 h5229 B5236.1 h5243 h6116 h6117 h6187 ht_f_size hp1 hp2 h4589 h4577 h5072 h5071 h5244 h6188 h6111)) (vc_X12_wayRight_14 (nS h5078) h5076 h5229 B5236.1 h5243 h6117 h6187 hq0 h4582 h4583 h4587 h4588 h6116 ht_f_size hp1 hp2 h4589 h4577 h5072 h5071 h5244 h6188 h6111)
                  have h6189 : 0 ≤ z6107 ∧ z6107 ≤ 19 := (vc_X12_wayRight_17 h6187 h5243 h6116 h6117 hp1 hp2 h4589 h5072 h5071 h5244 h6112 h6111)
                  refine sv_aload_n (pc := 140) dX12_wayRight_140 rfl rfl ?_
                  refine mr_iload_n (pc := 141) (z := z5068) dX12_wayRight_141 rfl rfl ?_
                  refine mr_iconst (pc := 142) (z := 2) dX12_wayRight_142 ?_
                  refine mr_iadd (pc := 143) (x := z5068) (y := 2) dX12_wayRight_143 ?_
                  refine mr_iconst (pc := 144) (z := 4) dX12_wayRight_144 ?_
                  refine mr_iload (pc := 145) (z := z6107) dX12_wayRight_145 rfl ?_
                  refine mr_imul (pc := 147) (x := 4) (y := z6107) dX12_wayRight_147 ?_
                  refine mr_iadd (pc := 148) (x := (z5068 + 2)) (y := (4 * z6107)) dX12_wayRight_148 ?_
                  refine mr_iconst (pc := 149) (z := 4) dX12_wayRight_149 ?_
                  refine mr_cVP (pc := 150) (c_X12_number_f hw T6113 (vc_X12_wayRight_18 h5076 h5229 B5236.1 h5243 h6116 h6117 h6187 hq0 h4582 h4583 h4587 h4588 ht_f_size hp1 hp2 h4589 h4577 h5072 h5071 h5244 h6189 h6111) (rW (c := 0) (d := 4) (rR (x := 4)) rfl) (F6114.f (A_106 hw) rfl (F5074.f (A_106 hw) rfl q_f_size)) (vc_X12_wayRight_19 hq0 h5076 h5229 B5236.1 h5243 h6116 h6117 h6187 h4582 h4583 h4587 h4588 ht_f_size hp1 hp2 h4589 h4577 h5072 h5071 h5244 h6189 h6111)) (gOk _ _ _ _ _) dX12_wayRight_150 (tX12_number _ _ _ _ _) ⟨wV_X12_number, wL_X12_number⟩ wM_X12_623 (gCX12 _ _ _ _ _) rfl (A_106 hw) rfl ⟨le_t rfl, le_t rfl⟩ ⟨le_t rfl, le_t rfl⟩ rfl (le_t rfl) fun z6194 h6193 => ?_
                  refine mr_istore (pc := 153) (lv' := [(9, iv z6194), (0, .ref 106), (1, iv p1), (2, iv p2), (3, iv z5068), (4, iv z4574), (5, iv z6108), (6, iv z5241), (7, iv z5067), (8, iv z6107)]) dX12_wayRight_153 (by decide) rfl ?_
                  refine mr_iload (pc := 155) (z := z6108) dX12_wayRight_155 rfl ?_
                  refine mr_istore (pc := 157) (lv' := [(10, iv z6108), (9, iv z6194), (0, .ref 106), (1, iv p1), (2, iv p2), (3, iv z5068), (4, iv z4574), (5, iv z6108), (6, iv z5241), (7, iv z5067), (8, iv z6107)]) dX12_wayRight_157 (by decide) rfl ?_
                  have L6287 : ∀ (nL6287 : Nat) (z6285 : Int) (μ6286 : mM), mT w μ6286 → mF [126999] w μ6109 μ6286 → mG [(964, 986)] μ6109 μ6286 → (966 ≤ z6285 ∧ z6285 ≤ 985) → (z6285 ≤ z6108) → (z5067 ≤ z6285) → (z6285 - 965) < (nL6287 : Int) → sV (gG l D c H0 sa) mX12_wayRight (sRm 3 0 0) (sZ (gG l D c H0 sa) 0 0 (qI w [106099, 126999] μ (fun z μ1 => (0 ≤ z ∧ z ≤ 1) ∧ mG [(964, 986)] μ μ1 ∧ True))) 159 [(0, .ref 106), (1, iv p1), (2, iv p2), (3, iv z5068), (4, iv z4574), (5, iv z6108), (6, iv z5241), (7, iv z5067), (8, iv z6107), (9, iv z6194), (10, iv z6285)] [] (mk w μ6286) 0 0 := by
                    intro nL6287
                    induction nL6287 with
                    | zero => intro z6285 μ6286 T6289 F6290 G6291 h6288 h6292 h6293 h6294; exact ((vc_X12_wayRight_20 h6294 h6292 h6293 h5243 h6116 hp1 hp2 h4589 h5072 h5071 h5244 h6189 h6111 h6288)).elim
                    | succ nL6287 ih6295 =>
                      intro z6285 μ6286 T6289 F6290 G6291 h6288 h6292 h6293 h6294
                      refine sv_aload_n (pc := 159) dX12_wayRight_159 rfl rfl ?_
                      refine mr_iload_n (pc := 160) (z := z5068) dX12_wayRight_160 rfl rfl ?_
                      refine mr_cVP (pc := 161) (c_X12_byteAt_f hw T6289 (rW (c := 0) (d := 2147483647) h5071 rfl) (F6290.f (A_106 hw) rfl (F6114.f (A_106 hw) rfl (F5074.f (A_106 hw) rfl q_f_size))) (vc_X12_wayRight_21 hq0 h5076 h5229 B5236.1 h5243 h4582 h4583 h4587 h4588 h6116 h6117 h6187 h6293 ht_f_size hp1 hp2 h4589 h4577 h5072 h5071 h5244 h6189 h6111 h6288)) (gOk _ _ _ _ _) dX12_wayRight_161 (tX12_byteAt _ _ _ _ _) ⟨wV_X12_byteAt, wL_X12_byteAt⟩ wM_X12_227 (gCX12 _ _ _ _ _) rfl (A_106 hw) rfl ⟨le_t rfl, le_t rfl⟩ ⟨le_t rfl, le_t rfl⟩ rfl (le_t rfl) fun z6300 h6299 => ?_
                      refine mr_iconst (pc := 164) (z := 1) dX12_wayRight_164 ?_
                      have J6319 : sV (gG l D c H0 sa) mX12_wayRight (sRm 3 0 0) (sZ (gG l D c H0 sa) 0 0 (qI w [106099, 126999] μ (fun z μ1 => (0 ≤ z ∧ z ≤ 1) ∧ mG [(964, 986)] μ μ1 ∧ True))) 214 [(0, .ref 106), (1, iv p1), (2, iv p2), (3, iv z5068), (4, iv z4574), (5, iv z6108), (6, iv z5241), (7, iv z5067), (8, iv z6107), (9, iv z6194), (10, iv z6285)] [] (mk w μ6286) 0 0 := by
                        refine sv_aload_n (pc := 214) dX12_wayRight_214 rfl rfl ?_
                        refine gf_X12_32 (pc := 215) dX12_wayRight_215 wF_X12_148 (A_106 hw) T6289 ?_
                        refine mr_iload (pc := 218) (z := z6285) dX12_wayRight_218 rfl ?_
                        refine mr_iload (pc := 220) (z := z6194) dX12_wayRight_220 rfl ?_
                        refine ss_126 (pc := 222) dX12_wayRight_222 (A_126 hw) T6289 (rIx (n := 84000) h6288 rfl) (vc_X12_wayRight_22 h6193.2.2.1 h6292 h6293 h5243 h6116 hp1 hp2 h4589 h5072 h5071 h5244 h6189 h6111 h6193.1 h6288) fun μ6320 u6321 T6322 => ?_
                        refine mr_iinc (pc := 223) (lv' := [(5, iv (z6108 + 1)), (0, .ref 106), (1, iv p1), (2, iv p2), (3, iv z5068), (4, iv z4574), (6, iv z5241), (7, iv z5067), (8, iv z6107), (9, iv z6194), (10, iv z6285)]) dX12_wayRight_223 rfl (by decide) rfl ?_
                        refine mr_iinc (pc := 226) (lv' := [(8, iv (z6107 + 1)), (5, iv (z6108 + 1)), (0, .ref 106), (1, iv p1), (2, iv p2), (3, iv z5068), (4, iv z4574), (6, iv z5241), (7, iv z5067), (9, iv z6194), (10, iv z6285)]) dX12_wayRight_226 rfl (by decide) rfl ?_
                        refine sv_goto (pc := 229) (tgt := 133) dX12_wayRight_229 (by decide) ?_
                        refine mr_lvS (lv' := [(0, .ref 106), (1, iv p1), (2, iv p2), (3, iv z5068), (4, iv z4574), (5, iv (z6108 + 1)), (6, iv z5241), (7, iv z5067), (8, iv (z6107 + 1))]) (List.forall_mem_cons.mpr ⟨rfl, List.forall_mem_cons.mpr ⟨rfl, List.forall_mem_cons.mpr ⟨rfl, List.forall_mem_cons.mpr ⟨rfl, List.forall_mem_cons.mpr ⟨rfl, List.forall_mem_cons.mpr ⟨rfl, List.forall_mem_cons.mpr ⟨rfl, List.forall_mem_cons.mpr ⟨rfl, List.forall_mem_cons.mpr ⟨rfl, fun _ h => absurd h List.not_mem_nil⟩⟩⟩⟩⟩⟩⟩⟩⟩) ?_
                        exact ih6119 (z6108 + 1) (z6107 + 1) μ6320 T6322 (mF.up (mF.call (mF.call mF.refl F6114 rfl) F6290 rfl) (A_126 hw) u6321 rfl) (mG.up (mG.call (mG.call mG.refl G6115 (List.forall_mem_cons.mpr ⟨⟨_, List.mem_cons_self, vc_X12_wayRight_5⟩, (fun _ h => absurd h List.not_mem_nil)⟩)) G6291 (List.forall_mem_cons.mpr ⟨⟨_, List.mem_cons_self, vc_X12_wayRight_5⟩, (fun _ h => absurd h List.not_mem_nil)⟩)) u6321 List.mem_cons_self (vc_X12_wayRight_27 h6292 h6293 h5243 h6116 hp1 hp2 h4589 h5072 h5071 h5244 h6189 h6111 h6288)) (vc_X12_wayRight_23 h6116 h6292 h5243 h6117 h6187 h6293 hp1 hp2 h4589 h5072 h5071 h5244 h6189 h6111 h6288) (rW (c := 0) (d := 20) (rAdd (e := 1) (f := 20) h6189 (rR (x := 1)) rfl) rfl) (vc_X12_wayRight_24 h5243 h6116 h6117 h6187 h6292 h6293 hq0 h4582 h4583 h4587 h4588 h5076 h5229 B5236.1 ht_f_size hp1 hp2 h4589 h4577 h5072 h5071 h5244 h6189 h6111 h6288) (vc_X12_wayRight_25 h5243 h6116 h6117 h6187 hq0 h4582 h4583 h4587 h4588 h5076 h5229 B5236.1 h6292 h6293 ht_f_size hp1 hp2 h4589 h4577 h5072 h5071 h5244 h6189 h6111 h6288) (vc_X12_wayRight_26 (nS h6118) h6116 h6292 h5243 h6117 h6187 h6293 hp1 hp2 h4589 h5072 h5071 h5244 h6189 h6111 h6288)
                      refine mr_icmp_ne (pc := 165) (tgt := 214) dX12_wayRight_165 (by decide) (r32 h6299.1 rfl) (r32 (rR (x := 1)) rfl) (fun h6323 => ?_) (fun h6323 => ?_)
                      · exact J6319 
                      have h6324 : 1 ≤ z6300 ∧ z6300 ≤ 1 := (vc_X12_wayRight_28 h6323 h6299.1)
                      refine mr_iload (pc := 168) (z := z6285) dX12_wayRight_168 rfl ?_
                      refine mr_iload (pc := 170) (z := z5067) dX12_wayRight_170 rfl ?_
                      refine mr_icmp_le (pc := 172) (tgt := 214) dX12_wayRight_172 (by decide) (r32 h6288 rfl) (r32 h5072 rfl) (fun h6325 => ?_) (fun h6325 => ?_)
                      · exact J6319 
                      have h6326 : 967 ≤ z6285 ∧ z6285 ≤ 985 := (vc_X12_wayRight_29 h6325 h5243 h6116 h6292 h6293 hp1 hp2 h4589 h5072 h5071 h5244 h6189 h6111 h6288)
                      have h6327 : 966 ≤ z5067 ∧ z5067 ≤ 984 := (vc_X12_wayRight_30 h6325 h5243 h6116 h6292 h6293 hp1 hp2 h4589 h5072 h5071 h5244 h6189 h6111 h6326)
                      refine mr_iload (pc := 175) (z := z6194) dX12_wayRight_175 rfl ?_
                      refine sv_aload_n (pc := 177) dX12_wayRight_177 rfl rfl ?_
                      refine gf_X12_32 (pc := 178) dX12_wayRight_178 wF_X12_148 (A_106 hw) T6289 ?_
                      refine mr_iload (pc := 181) (z := z6285) dX12_wayRight_181 rfl ?_
                      refine mr_iconst (pc := 183) (z := 1) dX12_wayRight_183 ?_
                      refine mr_isub (pc := 184) (x := z6285) (y := 1) dX12_wayRight_184 ?_
                      refine la_126 (pc := 185) dX12_wayRight_185 (A_126 hw) T6289 (rIx (n := 84000) (rSub (e := 966) (f := 984) h6326 (rR (x := 1)) rfl) rfl) fun z6328 q6329 h6330 => ?_
                      refine mr_cSP (pc := 186) (c_X12_isBelow hw T6289 h6193.1 h6330.1) (gOk _ _ _ _ _) dX12_wayRight_186 (tX12_isBelow _ _ _ _ _) wS_X12_isBelow wM_X12_578 ⟨le_t rfl, le_t rfl⟩ ⟨le_t rfl, le_t rfl⟩ rfl (le_t rfl) fun z6335 h6334 => ?_
                      refine mr_if_eq (pc := 189) (tgt := 214) dX12_wayRight_189 (by decide) (r32 h6334.1 rfl) (fun h6336 => ?_) (fun h6336 => ?_)
                      · have h6337 : 0 ≤ z6335 ∧ z6335 ≤ 0 := (vc_X12_wayRight_31 h6336 h6334.2.1 h6334.2.2.1 h6193.1 h6330.1 h6334.1)
                        have h6338 : z6328 % 4294967296 ≤ z6194 % 4294967296 := (h6334.2.2.1 (vc_X12_wayRight_32 h6334.2.1 h6334.2.2.1 h6336 h6193.2.2.1 h6330.2.1 h6330.2.2.1 h6330.2.2.2 h6193.1 h6326 h6330.1 h6337))
                        exact J6319 
                      have h6339 : 1 ≤ z6335 ∧ z6335 ≤ 1 := (vc_X12_wayRight_33 h6336 h6334.2.1 h6334.2.2.1 h6193.1 h6330.1 h6334.1)
                      have h6340 : z6194 % 4294967296 < z6328 % 4294967296 := (h6334.2.1 (vc_X12_wayRight_34 h6334.2.1 h6334.2.2.1 h6336 h6193.2.2.1 h6330.2.1 h6330.2.2.1 h6330.2.2.2 h6193.1 h6326 h6330.1 h6339))
                      refine sv_aload_n (pc := 192) dX12_wayRight_192 rfl rfl ?_
                      refine gf_X12_32 (pc := 193) dX12_wayRight_193 wF_X12_148 (A_106 hw) T6289 ?_
                      refine mr_iload (pc := 196) (z := z6285) dX12_wayRight_196 rfl ?_
                      refine sv_aload_n (pc := 198) dX12_wayRight_198 rfl rfl ?_
                      refine gf_X12_32 (pc := 199) dX12_wayRight_199 wF_X12_148 (A_106 hw) T6289 ?_
                      refine mr_iload (pc := 202) (z := z6285) dX12_wayRight_202 rfl ?_
                      refine mr_iconst (pc := 204) (z := 1) dX12_wayRight_204 ?_
                      refine mr_isub (pc := 205) (x := z6285) (y := 1) dX12_wayRight_205 ?_
                      refine lk_126 (pc := 206) dX12_wayRight_206 (A_126 hw) (rIx (n := 84000) (rSub (e := 966) (f := 984) h6326 (rR (x := 1)) rfl) rfl) q6329 ?_
                      refine ss_126 (pc := 207) dX12_wayRight_207 (A_126 hw) T6289 (rIx (n := 84000) h6326 rfl) (vc_X12_wayRight_35 h6292 h6293 h6325 h6330.2.1 h6330.2.2.1 h6330.2.2.2 h6334.2.1 h6334.2.2.1 h6340 h5243 h6116 h6193.2.2.1 h6336 hp1 hp2 h4589 h6327 h5071 h5244 h6189 h6111 h6193.1 h6326 h6330.1 h6339) fun μ6341 u6342 T6343 => ?_
                      refine mr_iinc (pc := 208) (lv' := [(10, iv (z6285 + (-1))), (0, .ref 106), (1, iv p1), (2, iv p2), (3, iv z5068), (4, iv z4574), (5, iv z6108), (6, iv z5241), (7, iv z5067), (8, iv z6107), (9, iv z6194)]) dX12_wayRight_208 rfl (by decide) rfl ?_
                      refine sv_goto (pc := 211) (tgt := 159) dX12_wayRight_211 (by decide) ?_
                      refine mr_lvS (lv' := [(0, .ref 106), (1, iv p1), (2, iv p2), (3, iv z5068), (4, iv z4574), (5, iv z6108), (6, iv z5241), (7, iv z5067), (8, iv z6107), (9, iv z6194), (10, iv (z6285 + (-1)))]) (List.forall_mem_cons.mpr ⟨rfl, List.forall_mem_cons.mpr ⟨rfl, List.forall_mem_cons.mpr ⟨rfl, List.forall_mem_cons.mpr ⟨rfl, List.forall_mem_cons.mpr ⟨rfl, List.forall_mem_cons.mpr ⟨rfl, List.forall_mem_cons.mpr ⟨rfl, List.forall_mem_cons.mpr ⟨rfl, List.forall_mem_cons.mpr ⟨rfl, List.forall_mem_cons.mpr ⟨rfl, List.forall_mem_cons.mpr ⟨rfl, fun _ h => absurd h List.not_mem_nil⟩⟩⟩⟩⟩⟩⟩⟩⟩⟩⟩) ?_
                      exact ih6295 (z6285 + (-1)) μ6341 T6343 (mF.up (mF.call mF.refl F6290 rfl) (A_126 hw) u6342 rfl) (mG.up (mG.call mG.refl G6291 (List.forall_mem_cons.mpr ⟨⟨_, List.mem_cons_self, vc_X12_wayRight_5⟩, (fun _ h => absurd h List.not_mem_nil)⟩)) u6342 List.mem_cons_self (vc_X12_wayRight_39 h6292 h6293 h6325 h6330.2.1 h6330.2.2.1 h6330.2.2.2 h5243 h6116 h6334.2.1 h6334.2.2.1 h6340 hp1 hp2 h4589 h6327 h5071 h5244 h6189 h6111 h6193.1 h6326 h6330.1 h6339)) (rW (c := 966) (d := 985) (rAdd (e := 966) (f := 984) h6326 (rR (x := (-1))) rfl) rfl) (vc_X12_wayRight_36 h6116 h6292 h6293 h6325 h6330.2.1 h6330.2.2.1 h6330.2.2.2 h5243 h6117 h6187 h6334.2.1 h6334.2.2.1 h6340 hp1 hp2 h4589 h6327 h5071 h5244 h6189 h6111 h6193.1 h6326 h6330.1 h6339) (vc_X12_wayRight_37 h5243 h6116 h6292 h6293 h6325 h6330.2.1 h6330.2.2.1 h6330.2.2.2 hq0 h4582 h4583 h4587 h4588 h5076 h5229 B5236.1 h6117 h6187 h6334.2.1 h6334.2.2.1 h6340 ht_f_size hp1 hp2 h4589 h4577 h6327 h5071 h5244 h6189 h6111 h6193.1 h6326 h6330.1 h6339) (vc_X12_wayRight_38 (nS h6294) h6292 h6293 h6325 h6330.2.1 h6330.2.2.1 h6330.2.2.2 h5243 h6116 h6334.2.1 h6334.2.2.1 h6340 hp1 hp2 h4589 h6327 h5071 h5244 h6189 h6111 h6193.1 h6326 h6330.1 h6339)
                  refine mr_lvS (lv' := [(0, .ref 106), (1, iv p1), (2, iv p2), (3, iv z5068), (4, iv z4574), (5, iv z6108), (6, iv z5241), (7, iv z5067), (8, iv z6107), (9, iv z6194), (10, iv z6108)]) (List.forall_mem_cons.mpr ⟨rfl, List.forall_mem_cons.mpr ⟨rfl, List.forall_mem_cons.mpr ⟨rfl, List.forall_mem_cons.mpr ⟨rfl, List.forall_mem_cons.mpr ⟨rfl, List.forall_mem_cons.mpr ⟨rfl, List.forall_mem_cons.mpr ⟨rfl, List.forall_mem_cons.mpr ⟨rfl, List.forall_mem_cons.mpr ⟨rfl, List.forall_mem_cons.mpr ⟨rfl, List.forall_mem_cons.mpr ⟨rfl, fun _ h => absurd h List.not_mem_nil⟩⟩⟩⟩⟩⟩⟩⟩⟩⟩⟩) ?_
                  exact L6287 22 z6108 μ6109 T6113 mF.refl mG.refl (vc_X12_wayRight_40 h6116 h5243 h6117 h6187 hp1 hp2 h4589 h5072 h5071 h5244 h6189 h6111) (vc_X12_wayRight_41 h6116 h5243 h6117 h6187 hp1 hp2 h4589 h5072 h5071 h5244 h6189 h6111) (vc_X12_wayRight_42 h5243 h6116 hq0 h4582 h4583 h4587 h4588 h5076 h5229 B5236.1 h6117 h6187 ht_f_size hp1 hp2 h4589 h4577 h5072 h5071 h5244 h6189 h6111) (vc_X12_wayRight_43 h6116 h5243 h6117 h6187 hp1 hp2 h4589 h5072 h5071 h5244 h6189 h6111)
              refine mr_lvS (lv' := [(0, .ref 106), (1, iv p1), (2, iv p2), (3, iv z5068), (4, iv z4574), (5, iv z5067), (6, iv z5241), (7, iv z5067), (8, iv 0)]) (List.forall_mem_cons.mpr ⟨rfl, List.forall_mem_cons.mpr ⟨rfl, List.forall_mem_cons.mpr ⟨rfl, List.forall_mem_cons.mpr ⟨rfl, List.forall_mem_cons.mpr ⟨rfl, List.forall_mem_cons.mpr ⟨rfl, List.forall_mem_cons.mpr ⟨rfl, List.forall_mem_cons.mpr ⟨rfl, List.forall_mem_cons.mpr ⟨rfl, fun _ h => absurd h List.not_mem_nil⟩⟩⟩⟩⟩⟩⟩⟩⟩) ?_
              exact L6110 22 z5067 0 μ5069 T5073 mF.refl mG.refl h5072 (rW (c := 0) (d := 20) (rR (x := 0)) rfl) (vc_X12_wayRight_44 h5243 hq0 h4582 h4583 h4587 h4588 h5076 h5229 B5236.1 ht_f_size hp1 hp2 h4589 h4577 h5072 h5071 h5244) (vc_X12_wayRight_45 h5243 hq0 h4582 h4583 h4587 h4588 h5076 h5229 B5236.1 ht_f_size hp1 hp2 h4589 h4577 h5072 h5071 h5244) (vc_X12_wayRight_46 h5243 hq0 h4582 h4583 h4587 h4588 h5076 h5229 B5236.1 ht_f_size hp1 hp2 h4589 h4577 h5072 h5071 h5244)
          refine mr_lvS (lv' := [(0, .ref 106), (1, iv p1), (2, iv p2), (3, iv p1), (4, iv z4574), (5, iv 966)]) (List.forall_mem_cons.mpr ⟨rfl, List.forall_mem_cons.mpr ⟨rfl, List.forall_mem_cons.mpr ⟨rfl, List.forall_mem_cons.mpr ⟨rfl, List.forall_mem_cons.mpr ⟨rfl, List.forall_mem_cons.mpr ⟨rfl, fun _ h => absurd h List.not_mem_nil⟩⟩⟩⟩⟩⟩) ?_
          exact L5070 1002 p1 966 μ hT mF.refl mG.refl hp1 (rW (c := 966) (d := 986) (rR (x := 966)) rfl) (vc_X12_wayRight_47 hq0 h4582 h4583 h4587 h4588 ht_f_size hp1 hp2 h4589 h4577) (Chn.fin R4584 (vc_X12_wayRight_49 hq0 h4582 h4583 h4587 h4588 ht_f_size hp1 hp2 h4589 h4577) (vc_X12_wayRight_50 hq0 h4582 h4583 h4587 h4588 ht_f_size hp1 hp2 h4589 h4577)) (vc_X12_wayRight_48 hq0 h4582 h4583 h4587 h4588 ht_f_size hp1 hp2 h4589 h4577)
        have h6344 : 21 ≤ z4574 ∧ z4574 ≤ 250 := (vc_X12_wayRight_51 h4588 h4582 hp1 h4578 h4577)
        refine mr_iconst (pc := 101) (z := 0) dX12_wayRight_101 ?_
        exact mr_zret dX12_wayRight_102 rfl (rW (c := 0) (d := 1) (rR (x := 0)) rfl) (le_t rfl) (le_t rfl) hT mF.refl ⟨(rW (c := 0) (d := 1) (rR (x := 0)) rfl), mG.refl, trivial⟩
      refine mr_iload_n (pc := 12) (z := z4575) dX12_wayRight_12 rfl rfl ?_
      refine mr_iconst (pc := 13) (z := 2) dX12_wayRight_13 ?_
      refine mr_iadd (pc := 14) (x := z4575) (y := 2) dX12_wayRight_14 ?_
      refine mr_iload_n (pc := 15) (z := p1) dX12_wayRight_15 rfl rfl ?_
      refine mr_iload_n (pc := 16) (z := p2) dX12_wayRight_16 rfl rfl ?_
      refine mr_iadd (pc := 17) (x := p1) (y := p2) dX12_wayRight_17 ?_
      refine mr_icmp_gt (pc := 18) (tgt := 63) dX12_wayRight_18 (by decide) (r32 (rAdd (e := 2) (f := 1002) h4577 (rR (x := 2)) rfl) rfl) (r32 (rAdd (e := 0) (f := 2000) hp1 hp2 rfl) rfl) (fun h6345 => ?_) (fun h6345 => ?_)
      · refine mr_iconst (pc := 63) (z := 0) dX12_wayRight_63 ?_
        exact mr_zret dX12_wayRight_64 rfl (rW (c := 0) (d := 1) (rR (x := 0)) rfl) (le_t rfl) (le_t rfl) hT mF.refl ⟨(rW (c := 0) (d := 1) (rR (x := 0)) rfl), mG.refl, trivial⟩
      refine sv_aload_n (pc := 21) dX12_wayRight_21 rfl rfl ?_
      refine mr_iload_n (pc := 22) (z := z4575) dX12_wayRight_22 rfl rfl ?_
      refine mr_cVP (pc := 23) (c_X12_byteAt_f hw hT (rW (c := 0) (d := 2147483647) h4577 rfl) q_f_size (vc_X12_wayRight_52 hq0 h4582 h4583 h4587 h6345 ht_f_size hp1 hp2 h4578 h4577)) (gOk _ _ _ _ _) dX12_wayRight_23 (tX12_byteAt _ _ _ _ _) ⟨wV_X12_byteAt, wL_X12_byteAt⟩ wM_X12_227 (gCX12 _ _ _ _ _) rfl (A_106 hw) rfl ⟨le_t rfl, le_t rfl⟩ ⟨le_t rfl, le_t rfl⟩ rfl (le_t rfl) fun z6350 h6349 => ?_
      refine mr_iconst (pc := 26) (z := 1) dX12_wayRight_26 ?_
      refine mr_iconst (pc := 27) (z := 2) dX12_wayRight_27 ?_
      refine mr_cSP (pc := 28) (c_X12_in hw hT (rW (c := (-2147483648)) (d := 2147483647) h6349.1 rfl) (rW (c := (-2147483648)) (d := 2147483647) (rR (x := 1)) rfl) (rW (c := (-2147483648)) (d := 2147483647) (rR (x := 2)) rfl)) (gOk _ _ _ _ _) dX12_wayRight_28 (tX12_in _ _ _ _ _) wS_X12_in wM_X12_18 ⟨le_t rfl, le_t rfl⟩ ⟨le_t rfl, le_t rfl⟩ rfl (le_t rfl) fun z6355 h6354 => ?_
      refine mr_if_eq (pc := 31) (tgt := 63) dX12_wayRight_31 (by decide) (r32 h6354.1 rfl) (fun h6356 => ?_) (fun h6356 => ?_)
      · have h6357 : 0 ≤ z6355 ∧ z6355 ≤ 0 := (vc_X12_wayRight_53 h6356 h6354.2.1 h6354.2.2.1 h6349.1 h6354.1)
        have h6358 : z6350 < (1 : Int) ∨ (2 : Int) < z6350 := (h6354.2.2.1 (vc_X12_wayRight_54 h6354.2.1 h6354.2.2.1 h6356 h6349.1 h6357))
        refine mr_iconst (pc := 63) (z := 0) dX12_wayRight_63 ?_
        exact mr_zret dX12_wayRight_64 rfl (rW (c := 0) (d := 1) (rR (x := 0)) rfl) (le_t rfl) (le_t rfl) hT mF.refl ⟨(rW (c := 0) (d := 1) (rR (x := 0)) rfl), mG.refl, trivial⟩
      have h6359 : 1 ≤ z6355 ∧ z6355 ≤ 1 := (vc_X12_wayRight_55 h6356 h6354.2.1 h6354.2.2.1 h6349.1 h6354.1)
      have h6360 : (1 : Int) ≤ z6350 ∧ z6350 ≤ (2 : Int) := (h6354.2.1 (vc_X12_wayRight_56 h6354.2.1 h6354.2.2.1 h6356 h6349.1 h6359))
      have h6361 : 1 ≤ z6350 ∧ z6350 ≤ 2 := (vc_X12_wayRight_57 h6360 h6354.2.1 h6354.2.2.1 h6349.1 h6359)
      refine sv_aload_n (pc := 34) dX12_wayRight_34 rfl rfl ?_
      refine mr_iload_n (pc := 35) (z := z4575) dX12_wayRight_35 rfl rfl ?_
      refine mr_iconst (pc := 36) (z := 1) dX12_wayRight_36 ?_
      refine mr_iadd (pc := 37) (x := z4575) (y := 1) dX12_wayRight_37 ?_
      refine mr_cVP (pc := 38) (c_X12_byteAt_f hw hT (rW (c := 0) (d := 2147483647) (rAdd (e := 1) (f := 1001) h4577 (rR (x := 1)) rfl) rfl) q_f_size (vc_X12_wayRight_58 hq0 h4582 h4583 h4587 h6345 ht_f_size hp1 hp2 h4578 h4577)) (gOk _ _ _ _ _) dX12_wayRight_38 (tX12_byteAt _ _ _ _ _) ⟨wV_X12_byteAt, wL_X12_byteAt⟩ wM_X12_227 (gCX12 _ _ _ _ _) rfl (A_106 hw) rfl ⟨le_t rfl, le_t rfl⟩ ⟨le_t rfl, le_t rfl⟩ rfl (le_t rfl) fun z6366 h6365 => ?_
      refine mr_if_eq (pc := 41) (tgt := 63) dX12_wayRight_41 (by decide) (r32 h6365.1 rfl) (fun h6367 => ?_) (fun h6367 => ?_)
      · have h6368 : 0 ≤ z6366 ∧ z6366 ≤ 0 := (vc_X12_wayRight_59 h6367 h6365.1)
        refine mr_iconst (pc := 63) (z := 0) dX12_wayRight_63 ?_
        exact mr_zret dX12_wayRight_64 rfl (rW (c := 0) (d := 1) (rR (x := 0)) rfl) (le_t rfl) (le_t rfl) hT mF.refl ⟨(rW (c := 0) (d := 1) (rR (x := 0)) rfl), mG.refl, trivial⟩
      have h6369 : 1 ≤ z6366 ∧ z6366 ≤ 255 := (vc_X12_wayRight_60 h6367 h6365.1)
      refine mr_iload_n (pc := 44) (z := z4575) dX12_wayRight_44 rfl rfl ?_
      refine mr_iconst (pc := 45) (z := 2) dX12_wayRight_45 ?_
      refine mr_iadd (pc := 46) (x := z4575) (y := 2) dX12_wayRight_46 ?_
      refine mr_iconst (pc := 47) (z := 4) dX12_wayRight_47 ?_
      refine sv_aload_n (pc := 48) dX12_wayRight_48 rfl rfl ?_
      refine mr_iload_n (pc := 49) (z := z4575) dX12_wayRight_49 rfl rfl ?_
      refine mr_iconst (pc := 50) (z := 1) dX12_wayRight_50 ?_
      refine mr_iadd (pc := 51) (x := z4575) (y := 1) dX12_wayRight_51 ?_
      refine mr_cVP (pc := 52) (c_X12_byteAt_f hw hT (rW (c := 0) (d := 2147483647) (rAdd (e := 1) (f := 1001) h4577 (rR (x := 1)) rfl) rfl) q_f_size (vc_X12_wayRight_58 hq0 h4582 h4583 h4587 h6345 ht_f_size hp1 hp2 h4578 h4577)) (gOk _ _ _ _ _) dX12_wayRight_52 (tX12_byteAt _ _ _ _ _) ⟨wV_X12_byteAt, wL_X12_byteAt⟩ wM_X12_227 (gCX12 _ _ _ _ _) rfl (A_106 hw) rfl ⟨le_t rfl, le_t rfl⟩ ⟨le_t rfl, le_t rfl⟩ rfl (le_t rfl) fun z6374 h6373 => ?_
      have h6375 : 1 ≤ z6374 ∧ z6374 ≤ 255 := (vc_X12_wayRight_61 (h6373.2.1.trans h6365.2.1.symm) h6367 h6369 h6373.1)
      refine mr_imul (pc := 55) (x := 4) (y := z6374) dX12_wayRight_55 ?_
      refine mr_iadd (pc := 56) (x := (z4575 + 2)) (y := (4 * z6374)) dX12_wayRight_56 ?_
      refine mr_iload_n (pc := 57) (z := p1) dX12_wayRight_57 rfl rfl ?_
      refine mr_iload_n (pc := 58) (z := p2) dX12_wayRight_58 rfl rfl ?_
      refine mr_iadd (pc := 59) (x := p1) (y := p2) dX12_wayRight_59 ?_
      refine mr_icmp_le (pc := 60) (tgt := 65) dX12_wayRight_60 (by decide) (r32 (rAdd (e := 6) (f := 2022) (rAdd (e := 2) (f := 1002) h4577 (rR (x := 2)) rfl) (rMulL (n := 4) (e := 4) (f := 1020) h6375 rfl) rfl) rfl) (r32 (rAdd (e := 0) (f := 2000) hp1 hp2 rfl) rfl) (fun h6376 => ?_) (fun h6376 => ?_)
      · refine mr_iload (pc := 65) (z := z4574) dX12_wayRight_65 rfl ?_
        refine sv_aload_n (pc := 67) dX12_wayRight_67 rfl rfl ?_
        refine mr_iload_n (pc := 68) (z := z4575) dX12_wayRight_68 rfl rfl ?_
        refine mr_iconst (pc := 69) (z := 1) dX12_wayRight_69 ?_
        refine mr_iadd (pc := 70) (x := z4575) (y := 1) dX12_wayRight_70 ?_
        refine mr_cVP (pc := 71) (c_X12_byteAt_f hw hT (rW (c := 0) (d := 2147483647) (rAdd (e := 1) (f := 1001) h4577 (rR (x := 1)) rfl) rfl) q_f_size (vc_X12_wayRight_62 hq0 h4582 h4583 h4587 h6345 h6376 (h6373.2.1.trans h6365.2.1.symm) ht_f_size hp1 hp2 h4578 h4577 h6369 h6375)) (gOk _ _ _ _ _) dX12_wayRight_71 (tX12_byteAt _ _ _ _ _) ⟨wV_X12_byteAt, wL_X12_byteAt⟩ wM_X12_227 (gCX12 _ _ _ _ _) rfl (A_106 hw) rfl ⟨le_t rfl, le_t rfl⟩ ⟨le_t rfl, le_t rfl⟩ rfl (le_t rfl) fun z6381 h6380 => ?_
        have h6382 : 1 ≤ z6381 ∧ z6381 ≤ 255 := (vc_X12_wayRight_63 (h6380.2.1.trans h6365.2.1.symm) h6367 (h6373.2.1.trans h6365.2.1.symm) h6369 h6375 h6380.1)
        refine mr_iadd (pc := 74) (x := z4574) (y := z6381) dX12_wayRight_74 ?_
        refine mr_istore (pc := 75) (lv' := [(4, iv (z4574 + z6381)), (0, .ref 106), (1, iv p1), (2, iv p2), (3, iv z4575)]) dX12_wayRight_75 (by decide) rfl ?_
        refine mr_iload_n (pc := 77) (z := z4575) dX12_wayRight_77 rfl rfl ?_
        refine mr_iconst (pc := 78) (z := 2) dX12_wayRight_78 ?_
        refine mr_iconst (pc := 79) (z := 4) dX12_wayRight_79 ?_
        refine sv_aload_n (pc := 80) dX12_wayRight_80 rfl rfl ?_
        refine mr_iload_n (pc := 81) (z := z4575) dX12_wayRight_81 rfl rfl ?_
        refine mr_iconst (pc := 82) (z := 1) dX12_wayRight_82 ?_
        refine mr_iadd (pc := 83) (x := z4575) (y := 1) dX12_wayRight_83 ?_
        refine mr_cVP (pc := 84) (c_X12_byteAt_f hw hT (rW (c := 0) (d := 2147483647) (rAdd (e := 1) (f := 1001) h4577 (rR (x := 1)) rfl) rfl) q_f_size (vc_X12_wayRight_62 hq0 h4582 h4583 h4587 h6345 h6376 (h6373.2.1.trans h6365.2.1.symm) ht_f_size hp1 hp2 h4578 h4577 h6369 h6375)) (gOk _ _ _ _ _) dX12_wayRight_84 (tX12_byteAt _ _ _ _ _) ⟨wV_X12_byteAt, wL_X12_byteAt⟩ wM_X12_227 (gCX12 _ _ _ _ _) rfl (A_106 hw) rfl ⟨le_t rfl, le_t rfl⟩ ⟨le_t rfl, le_t rfl⟩ rfl (le_t rfl) fun z6387 h6386 => ?_
        have h6388 : 1 ≤ z6387 ∧ z6387 ≤ 255 := (vc_X12_wayRight_64 (h6386.2.1.trans h6365.2.1.symm) h6367 (h6373.2.1.trans h6365.2.1.symm) (h6380.2.1.trans h6365.2.1.symm) h6369 h6375 h6382 h6386.1)
        refine mr_imul (pc := 87) (x := 4) (y := z6387) dX12_wayRight_87 ?_
        refine mr_iadd (pc := 88) (x := 2) (y := (4 * z6387)) dX12_wayRight_88 ?_
        refine mr_iadd (pc := 89) (x := z4575) (y := (2 + (4 * z6387))) dX12_wayRight_89 ?_
        refine mr_istore_n (pc := 90) (lv' := [(3, iv (z4575 + (2 + (4 * z6387)))), (4, iv (z4574 + z6381)), (0, .ref 106), (1, iv p1), (2, iv p2)]) dX12_wayRight_90 rfl (by decide) rfl ?_
        refine sv_goto (pc := 91) (tgt := 5) dX12_wayRight_91 (by decide) ?_
        refine mr_lvS (lv' := [(0, .ref 106), (1, iv p1), (2, iv p2), (3, iv (z4575 + (2 + (4 * z6387)))), (4, iv (z4574 + z6381))]) (List.forall_mem_cons.mpr ⟨rfl, List.forall_mem_cons.mpr ⟨rfl, List.forall_mem_cons.mpr ⟨rfl, List.forall_mem_cons.mpr ⟨rfl, List.forall_mem_cons.mpr ⟨rfl, fun _ h => absurd h List.not_mem_nil⟩⟩⟩⟩⟩) ?_
        exact ih4586 (z4575 + (2 + (4 * z6387))) (z4574 + z6381) trivial (vc_X12_wayRight_65 h4582 h4583 h4587 h6345 h6376 (h6386.2.1.trans h6365.2.1.symm) hq0 h6367 (h6373.2.1.trans h6365.2.1.symm) (h6380.2.1.trans h6365.2.1.symm) ht_f_size hp1 hp2 h4578 h4577 h6369 h6375 h6382 h6388) (vc_X12_wayRight_66 h4582 (h6380.2.1.trans h6365.2.1.symm) hq0 h4583 h4587 h6345 h6367 (h6373.2.1.trans h6365.2.1.symm) h6376 (h6386.2.1.trans h6365.2.1.symm) ht_f_size hp1 hp2 h4578 h4577 h6369 h6375 h6382 h6388) (vc_X12_wayRight_67 hq0 h4582 h4583 h4587 h6345 h6376 (h6380.2.1.trans h6365.2.1.symm) (h6386.2.1.trans h6365.2.1.symm) h6367 (h6373.2.1.trans h6365.2.1.symm) ht_f_size hp1 hp2 h4578 h4577 h6369 h6375 h6382 h6388) (vc_X12_wayRight_68 hq0 h4582 h4583 h4587 h6345 h6376 (h6386.2.1.trans h6365.2.1.symm) h6367 (h6373.2.1.trans h6365.2.1.symm) (h6380.2.1.trans h6365.2.1.symm) ht_f_size hp1 hp2 h4578 h4577 h6369 h6375 h6382 h6388) (Chn.step R4584 (vc_X12_wayRight_70 hq0 h4582 h4583 h4587 h6345 h6376 (h6373.2.1.trans h6365.2.1.symm) ht_f_size hp1 hp2 h4578 h4577 h6369 h6375) (vc_X12_wayRight_71 hq0 h4582 h4583 h4587 h6345 h6376 (h6373.2.1.trans h6365.2.1.symm) ht_f_size hp1 hp2 h4578 h4577 h6369 h6375) h6365.2.1.symm (vc_X12_wayRight_72 hq0 h4582 h4583 h4587 h6345 h6367 (h6373.2.1.trans h6365.2.1.symm) h6376 (h6380.2.1.trans h6365.2.1.symm) (h6386.2.1.trans h6365.2.1.symm) ht_f_size hp1 hp2 h4578 h4577 h6369 h6375 h6382 h6388) (vc_X12_wayRight_73 hq0 h4582 h4583 h4587 h6345 h6367 (h6373.2.1.trans h6365.2.1.symm) h6376 (h6380.2.1.trans h6365.2.1.symm) (h6386.2.1.trans h6365.2.1.symm) ht_f_size hp1 hp2 h4578 h4577 h6369 h6375 h6382 h6388) (vc_X12_wayRight_74 hq0 h4582 h4583 h4587 h6345 h6367 (h6373.2.1.trans h6365.2.1.symm) h6376 (h6380.2.1.trans h6365.2.1.symm) (h6386.2.1.trans h6365.2.1.symm) ht_f_size hp1 hp2 h4578 h4577 h6369 h6375 h6382 h6388) (vc_X12_wayRight_75 hq0 h4582 h4583 h4587 h6345 h6367 (h6373.2.1.trans h6365.2.1.symm) h6376 (h6380.2.1.trans h6365.2.1.symm) (h6386.2.1.trans h6365.2.1.symm) ht_f_size hp1 hp2 h4578 h4577 h6369 h6375 h6382 h6388)) (vc_X12_wayRight_69 (nS h4585) h4582 h4583 h4587 h6345 h6376 (h6386.2.1.trans h6365.2.1.symm) hq0 h6367 (h6373.2.1.trans h6365.2.1.symm) (h6380.2.1.trans h6365.2.1.symm) ht_f_size hp1 hp2 h4578 h4577 h6369 h6375 h6382 h6388)
      refine mr_iconst (pc := 63) (z := 0) dX12_wayRight_63 ?_
      exact mr_zret dX12_wayRight_64 rfl (rW (c := 0) (d := 1) (rR (x := 0)) rfl) (le_t rfl) (le_t rfl) hT mF.refl ⟨(rW (c := 0) (d := 1) (rR (x := 0)) rfl), mG.refl, trivial⟩
  refine mr_lvS (lv' := [(0, .ref 106), (1, iv p1), (2, iv p2), (3, iv p1), (4, iv 0)]) (List.forall_mem_cons.mpr ⟨rfl, List.forall_mem_cons.mpr ⟨rfl, List.forall_mem_cons.mpr ⟨rfl, List.forall_mem_cons.mpr ⟨rfl, List.forall_mem_cons.mpr ⟨rfl, fun _ h => absurd h List.not_mem_nil⟩⟩⟩⟩⟩) ?_
  exact L4576 1002 p1 0 trivial hp1 (rW (c := 0) (d := 250) (rR (x := 0)) rfl) (vc_X12_wayRight_76 hq0 ht_f_size hp1 hp2) (vc_X12_wayRight_77 hq0 ht_f_size hp1 hp2) (Chn.id rfl) (vc_X12_wayRight_78 hq0 ht_f_size hp1 hp2)
theorem vc_X12_originRight_f_1 {f_size p1 p2 : Int} (h0 : p2 = 1) (h1 : p1 + p2 ≤ f_size) (h2 : 0 ≤ f_size ∧ f_size ≤ 1000) (h3 : 0 ≤ p1 ∧ p1 ≤ 1000) (h4 : 0 ≤ p2 ∧ p2 ≤ 1000) : 1 ≤ p2 ∧ p2 ≤ 1 := by omega
theorem vc_X12_originRight_f_2 {f_size p1 z64 : Int} (h0 : z64 ≤ 2) (h1 : 0 ≤ z64 → p1 < f_size) (h2 : p1 < f_size → 0 ≤ z64) (h3 : 0 ≤ f_size ∧ f_size ≤ 1000) (h4 : 0 ≤ p1 ∧ p1 ≤ 1000) (h5 : (-1) ≤ z64 ∧ z64 ≤ 255) : (-1) ≤ z64 ∧ z64 ≤ 2 := by omega
theorem vc_X12_originRight_f_3 {f_size p1 p2 z64 z71 : Int} (h0 : 0 ≤ z71 → p1 < f_size) (h1 : p1 < f_size → 0 ≤ z71) (h2 : p1 + p2 ≤ f_size) (h3 : 0 ≤ z64 → p1 < f_size) (h4 : p1 < f_size → 0 ≤ z64) (h5 : 0 ≤ f_size ∧ f_size ≤ 1000) (h6 : 0 ≤ p1 ∧ p1 ≤ 1000) (h7 : 1 ≤ p2 ∧ p2 ≤ 1) (h8 : (-1) ≤ z64 ∧ z64 ≤ 2) (h9 : (-1) ≤ z71 ∧ z71 ≤ 255) : (-2147483648 ≤ z71 ∧ z71 ≤ 2147483647) ∧ ((962 : Int) % 40 = 0 → -1 ≤ z71 ∧ z71 ≤ 9) ∧ ((962 : Int) % 40 = 4 → 0 ≤ z71 ∧ z71 ≤ 20) ∧ ((962 : Int) % 40 = 5 → 0 ≤ z71 ∧ z71 ≤ 8) := by omega
theorem vc_X12_originRight_f_4  : (0 : Int) ≤ (962 : Int) ∧ (962 : Int) ≤ (962 : Int) ∧ (962 : Int) < (963 : Int) := by omega
theorem vc_X12_originRight_f_5 {f_size p1 z64 : Int} (h0 : 2 < z64) (h1 : 0 ≤ z64 → p1 < f_size) (h2 : p1 < f_size → 0 ≤ z64) (h3 : 0 ≤ f_size ∧ f_size ≤ 1000) (h4 : 0 ≤ p1 ∧ p1 ≤ 1000) (h5 : (-1) ≤ z64 ∧ z64 ≤ 255) : 3 ≤ z64 ∧ z64 ≤ 255 := by omega
set_option maxRecDepth 4000 in
set_option maxHeartbeats 4000000 in
theorem c_X12_originRight_f {l : Launch} {D : va_G} {c : Nat → ClassId} {H0 : Heap} {sa : Nat × Nat × (Nat → Int32)} {w : mW} {μ : mM} (hw : mWF w) (hT : mT w μ) {p1 : Int} (hp1 : 0 ≤ p1 ∧ p1 ≤ 1000) {p2 : Int} (hp2 : 0 ≤ p2 ∧ p2 ≤ 1000) {f_size : Int} (q_f_size : μ 106 1 = f_size) (hq0 : p1 + p2 ≤ f_size) : sC (gG l D c H0 sa) mX12_originRight 2 0 0 [.ref 106, iv p1, iv p2] (mk w μ) (qI w [106098, 126999] μ (fun z μ1 => (0 ≤ z ∧ z ≤ 1) ∧ mG [(962, 963)] μ μ1 ∧ True)) := by
  refine sC.of rfl (by decide) (le_t rfl) ?_
  have ht_f_size : (0 ≤ f_size ∧ f_size ≤ 1000) := by rw [← q_f_size]; exact hT 106 106 (A_106 hw) 1
  refine mr_lvE (lv' := [(0, .ref 106), (1, iv p1), (2, iv p2)]) rfl ?_
  refine mr_iload_n (pc := 0) (z := p2) dX12_originRight_0 rfl rfl ?_
  refine mr_iconst (pc := 1) (z := 1) dX12_originRight_1 ?_
  refine mr_icmp_ne (pc := 2) (tgt := 14) dX12_originRight_2 (by decide) (r32 hp2 rfl) (r32 (rR (x := 1)) rfl) (fun h58 => ?_) (fun h58 => ?_)
  · refine mr_iconst (pc := 14) (z := 0) dX12_originRight_14 ?_
    exact mr_zret dX12_originRight_15 rfl (rW (c := 0) (d := 1) (rR (x := 0)) rfl) (le_t rfl) (le_t rfl) hT mF.refl ⟨(rW (c := 0) (d := 1) (rR (x := 0)) rfl), mG.refl, trivial⟩
  have h59 : 1 ≤ p2 ∧ p2 ≤ 1 := (vc_X12_originRight_f_1 h58 hq0 ht_f_size hp1 hp2)
  refine sv_aload_n (pc := 5) dX12_originRight_5 rfl rfl ?_
  refine mr_iload_n (pc := 6) (z := p1) dX12_originRight_6 rfl rfl ?_
  refine mr_cVP (pc := 7) (c_X12_byteAt hw hT (rW (c := 0) (d := 2147483647) hp1 rfl) q_f_size) (gOk _ _ _ _ _) dX12_originRight_7 (tX12_byteAt _ _ _ _ _) ⟨wV_X12_byteAt, wL_X12_byteAt⟩ wM_X12_227 (gCX12 _ _ _ _ _) rfl (A_106 hw) rfl ⟨le_t rfl, le_t rfl⟩ ⟨le_t rfl, le_t rfl⟩ rfl (le_t rfl) fun z64 h63 => ?_
  refine mr_iconst (pc := 10) (z := 2) dX12_originRight_10 ?_
  refine mr_icmp_le (pc := 11) (tgt := 16) dX12_originRight_11 (by decide) (r32 h63.1 rfl) (r32 (rR (x := 2)) rfl) (fun h65 => ?_) (fun h65 => ?_)
  · have h66 : (-1) ≤ z64 ∧ z64 ≤ 2 := (vc_X12_originRight_f_2 h65 h63.2.1 h63.2.2.1 ht_f_size hp1 h63.1)
    refine sv_aload_n (pc := 16) dX12_originRight_16 rfl rfl ?_
    refine gf_X12_32 (pc := 17) dX12_originRight_17 wF_X12_148 (A_106 hw) hT ?_
    refine mr_sipush (pc := 20) (z := 962) dX12_originRight_20 (by decide) ?_
    refine sv_aload_n (pc := 23) dX12_originRight_23 rfl rfl ?_
    refine mr_iload_n (pc := 24) (z := p1) dX12_originRight_24 rfl rfl ?_
    refine mr_cVP (pc := 25) (c_X12_byteAt hw hT (rW (c := 0) (d := 2147483647) hp1 rfl) q_f_size) (gOk _ _ _ _ _) dX12_originRight_25 (tX12_byteAt _ _ _ _ _) ⟨wV_X12_byteAt, wL_X12_byteAt⟩ wM_X12_227 (gCX12 _ _ _ _ _) rfl (A_106 hw) rfl ⟨le_t rfl, le_t rfl⟩ ⟨le_t rfl, le_t rfl⟩ rfl (le_t rfl) fun z71 h70 => ?_
    refine ss_126 (pc := 28) dX12_originRight_28 (A_126 hw) hT (rIx (n := 84000) (rR (x := 962)) rfl) (vc_X12_originRight_f_3 h70.2.1 h70.2.2.1 hq0 h63.2.1 h63.2.2.1 ht_f_size hp1 h59 h66 h70.1) fun μ72 u73 T74 => ?_
    refine sv_aload_n (pc := 29) dX12_originRight_29 rfl rfl ?_
    refine mr_iconst (pc := 30) (z := 1) dX12_originRight_30 ?_
    refine pf_X12_98 (pc := 31) dX12_originRight_31 wF_X12_631 (A_106 hw) T74 (rW (c := 0) (d := 1) (rR (x := 1)) rfl) fun μ75 u76 T77 => ?_
    refine mr_iconst (pc := 34) (z := 1) dX12_originRight_34 ?_
    exact mr_zret dX12_originRight_35 rfl (rW (c := 0) (d := 1) (rR (x := 1)) rfl) (le_t rfl) (le_t rfl) T77 (mF.up (mF.up mF.refl (A_126 hw) u73 rfl) (A_106 hw) u76 rfl) ⟨(rW (c := 0) (d := 1) (rR (x := 1)) rfl), (mG.upO (mG.up mG.refl u73 List.mem_cons_self vc_X12_originRight_f_4) u76 rfl), trivial⟩
  have h78 : 3 ≤ z64 ∧ z64 ≤ 255 := (vc_X12_originRight_f_5 h65 h63.2.1 h63.2.2.1 ht_f_size hp1 h63.1)
  refine mr_iconst (pc := 14) (z := 0) dX12_originRight_14 ?_
  exact mr_zret dX12_originRight_15 rfl (rW (c := 0) (d := 1) (rR (x := 0)) rfl) (le_t rfl) (le_t rfl) hT mF.refl ⟨(rW (c := 0) (d := 1) (rR (x := 0)) rfl), mG.refl, trivial⟩
theorem vc_X12_costRight_f_1 {f_size p1 p2 : Int} (h0 : p2 = 4) (h1 : p1 + p2 ≤ f_size) (h2 : 0 ≤ f_size ∧ f_size ≤ 1000) (h3 : 0 ≤ p1 ∧ p1 ≤ 1000) (h4 : 0 ≤ p2 ∧ p2 ≤ 1000) : 4 ≤ p2 ∧ p2 ≤ 4 := by omega
theorem vc_X12_costRight_f_2 {f_size p1 p2 : Int} (h0 : p1 + p2 ≤ f_size) (h1 : p2 = 4) (h2 : 0 ≤ f_size ∧ f_size ≤ 1000) (h3 : 0 ≤ p1 ∧ p1 ≤ 1000) (h4 : 4 ≤ p2 ∧ p2 ≤ 4) : p1 + (4 : Int) ≤ f_size := by omega
theorem vc_X12_costRight_f_3 {z64 : Int} (h0 : z64 < 0) (h1 : (4 : Int) ≤ 2 → 0 ≤ z64 ∧ z64 ≤ 65535) (h2 : (-2147483648) ≤ z64 ∧ z64 ≤ 2147483647) : (-2147483648) ≤ z64 ∧ z64 ≤ (-1) := by omega
theorem vc_X12_costRight_f_4  : (-(2147483648 : Int) ≤ ((1000000 : Int) : Int) ∧ ((1000000 : Int) : Int) ≤ (2147483647 : Int)) ∧ (((963 : Int) : Int) % (40 : Int) = (0 : Int) → -(1 : Int) ≤ ((1000000 : Int) : Int) ∧ ((1000000 : Int) : Int) ≤ (9 : Int)) ∧ (((963 : Int) : Int) % (40 : Int) = (4 : Int) → (0 : Int) ≤ ((1000000 : Int) : Int) ∧ ((1000000 : Int) : Int) ≤ (20 : Int)) ∧ (((963 : Int) : Int) % (40 : Int) = (5 : Int) → (0 : Int) ≤ ((1000000 : Int) : Int) ∧ ((1000000 : Int) : Int) ≤ (8 : Int)) := by omega
theorem vc_X12_costRight_f_5  : (0 : Int) ≤ (963 : Int) ∧ (963 : Int) ≤ (963 : Int) ∧ (963 : Int) < (964 : Int) := by omega
theorem vc_X12_costRight_f_6 {z64 : Int} (h0 : 0 ≤ z64) (h1 : (4 : Int) ≤ 2 → 0 ≤ z64 ∧ z64 ≤ 65535) (h2 : (-2147483648) ≤ z64 ∧ z64 ≤ 2147483647) : 0 ≤ z64 ∧ z64 ≤ 2147483647 := by omega
theorem vc_X12_costRight_f_7 {z64 : Int} (h0 : z64 ≤ 1000000) (h1 : (4 : Int) ≤ 2 → 0 ≤ z64 ∧ z64 ≤ 65535) (h2 : 0 ≤ z64) (h3 : 0 ≤ z64 ∧ z64 ≤ 2147483647) : 0 ≤ z64 ∧ z64 ≤ 1000000 := by omega
theorem vc_X12_costRight_f_8 {z64 : Int} (h0 : (4 : Int) ≤ 2 → 0 ≤ z64 ∧ z64 ≤ 65535) (h1 : 0 ≤ z64) (h2 : z64 ≤ 1000000) (h3 : 0 ≤ z64 ∧ z64 ≤ 1000000) : (-2147483648 ≤ z64 ∧ z64 ≤ 2147483647) ∧ ((963 : Int) % 40 = 0 → -1 ≤ z64 ∧ z64 ≤ 9) ∧ ((963 : Int) % 40 = 4 → 0 ≤ z64 ∧ z64 ≤ 20) ∧ ((963 : Int) % 40 = 5 → 0 ≤ z64 ∧ z64 ≤ 8) := by omega
theorem vc_X12_costRight_f_9 {z64 : Int} (h0 : 1000000 < z64) (h1 : (4 : Int) ≤ 2 → 0 ≤ z64 ∧ z64 ≤ 65535) (h2 : 0 ≤ z64) (h3 : 0 ≤ z64 ∧ z64 ≤ 2147483647) : 1000001 ≤ z64 ∧ z64 ≤ 2147483647 := by omega
set_option maxRecDepth 4000 in
set_option maxHeartbeats 4000000 in
theorem c_X12_costRight_f {l : Launch} {D : va_G} {c : Nat → ClassId} {H0 : Heap} {sa : Nat × Nat × (Nat → Int32)} {w : mW} {μ : mM} (hw : mWF w) (hT : mT w μ) {p1 : Int} (hp1 : 0 ≤ p1 ∧ p1 ≤ 1000) {p2 : Int} (hp2 : 0 ≤ p2 ∧ p2 ≤ 1000) {f_size : Int} (q_f_size : μ 106 1 = f_size) (hq0 : p1 + p2 ≤ f_size) : sC (gG l D c H0 sa) mX12_costRight 3 0 0 [.ref 106, iv p1, iv p2] (mk w μ) (qI w [126999] μ (fun z μ1 => (0 ≤ z ∧ z ≤ 1) ∧ mG [(963, 964)] μ μ1 ∧ True)) := by
  refine sC.of rfl (by decide) (le_t rfl) ?_
  have ht_f_size : (0 ≤ f_size ∧ f_size ≤ 1000) := by rw [← q_f_size]; exact hT 106 106 (A_106 hw) 1
  refine mr_lvE (lv' := [(0, .ref 106), (1, iv p1), (2, iv p2)]) rfl ?_
  refine mr_iload_n (pc := 0) (z := p2) dX12_costRight_0 rfl rfl ?_
  refine mr_iconst (pc := 1) (z := 4) dX12_costRight_1 ?_
  refine mr_icmp_eq (pc := 2) (tgt := 7) dX12_costRight_2 (by decide) (r32 hp2 rfl) (r32 (rR (x := 4)) rfl) (fun h58 => ?_) (fun h58 => ?_)
  · have h59 : 4 ≤ p2 ∧ p2 ≤ 4 := (vc_X12_costRight_f_1 h58 hq0 ht_f_size hp1 hp2)
    refine sv_aload_n (pc := 7) dX12_costRight_7 rfl rfl ?_
    refine mr_iload_n (pc := 8) (z := p1) dX12_costRight_8 rfl rfl ?_
    refine mr_iconst (pc := 9) (z := 4) dX12_costRight_9 ?_
    refine mr_cVP (pc := 10) (c_X12_number hw hT hp1 (rW (c := 0) (d := 4) (rR (x := 4)) rfl) q_f_size (vc_X12_costRight_f_2 hq0 h58 ht_f_size hp1 h59)) (gOk _ _ _ _ _) dX12_costRight_10 (tX12_number _ _ _ _ _) ⟨wV_X12_number, wL_X12_number⟩ wM_X12_623 (gCX12 _ _ _ _ _) rfl (A_106 hw) rfl ⟨le_t rfl, le_t rfl⟩ ⟨le_t rfl, le_t rfl⟩ rfl (le_t rfl) fun z64 h63 => ?_
    refine mr_istore_n (pc := 13) (lv' := [(3, iv z64), (0, .ref 106), (1, iv p1), (2, iv p2)]) dX12_costRight_13 rfl (by decide) rfl ?_
    refine sv_aload_n (pc := 14) dX12_costRight_14 rfl rfl ?_
    refine gf_X12_32 (pc := 15) dX12_costRight_15 wF_X12_148 (A_106 hw) hT ?_
    refine mr_sipush (pc := 18) (z := 963) dX12_costRight_18 (by decide) ?_
    refine mr_iload_n (pc := 21) (z := z64) dX12_costRight_21 rfl rfl ?_
    refine mr_if_lt (pc := 22) (tgt := 32) dX12_costRight_22 (by decide) h63.1 (fun h69 => ?_) (fun h69 => ?_)
    · have h70 : (-2147483648) ≤ z64 ∧ z64 ≤ (-1) := (vc_X12_costRight_f_3 h69 h63.2.1 h63.1)
      refine mr_ldcw (pc := 32) (z := 1000000) dX12_costRight_32 wG_X12_291 (by decide) ?_
      refine sv_goto (pc := 35) (tgt := 39) dX12_costRight_35 (by decide) ?_
      refine ss_126 (pc := 39) dX12_costRight_39 (A_126 hw) hT (rIx (n := 84000) (rR (x := 963)) rfl) vc_X12_costRight_f_4 fun μ71 u72 T73 => ?_
      refine mr_iconst (pc := 40) (z := 1) dX12_costRight_40 ?_
      exact mr_zret dX12_costRight_41 rfl (rW (c := 0) (d := 1) (rR (x := 1)) rfl) (le_t rfl) (le_t rfl) T73 (mF.up mF.refl (A_126 hw) u72 rfl) ⟨(rW (c := 0) (d := 1) (rR (x := 1)) rfl), (mG.up mG.refl u72 List.mem_cons_self vc_X12_costRight_f_5), trivial⟩
    have h74 : 0 ≤ z64 ∧ z64 ≤ 2147483647 := (vc_X12_costRight_f_6 h69 h63.2.1 h63.1)
    refine mr_iload_n (pc := 25) (z := z64) dX12_costRight_25 rfl rfl ?_
    refine mr_ldcw (pc := 26) (z := 1000000) dX12_costRight_26 wG_X12_291 (by decide) ?_
    refine mr_icmp_le (pc := 29) (tgt := 38) dX12_costRight_29 (by decide) (r32 h74 rfl) (r32 (rR (x := 1000000)) rfl) (fun h77 => ?_) (fun h77 => ?_)
    · have h78 : 0 ≤ z64 ∧ z64 ≤ 1000000 := (vc_X12_costRight_f_7 h77 h63.2.1 h69 h74)
      refine mr_iload_n (pc := 38) (z := z64) dX12_costRight_38 rfl rfl ?_
      refine ss_126 (pc := 39) dX12_costRight_39 (A_126 hw) hT (rIx (n := 84000) (rR (x := 963)) rfl) (vc_X12_costRight_f_8 h63.2.1 h69 h77 h78) fun μ79 u80 T81 => ?_
      refine mr_iconst (pc := 40) (z := 1) dX12_costRight_40 ?_
      exact mr_zret dX12_costRight_41 rfl (rW (c := 0) (d := 1) (rR (x := 1)) rfl) (le_t rfl) (le_t rfl) T81 (mF.up mF.refl (A_126 hw) u80 rfl) ⟨(rW (c := 0) (d := 1) (rR (x := 1)) rfl), (mG.up mG.refl u80 List.mem_cons_self vc_X12_costRight_f_5), trivial⟩
    have h82 : 1000001 ≤ z64 ∧ z64 ≤ 2147483647 := (vc_X12_costRight_f_9 h77 h63.2.1 h69 h74)
    refine mr_ldcw (pc := 32) (z := 1000000) dX12_costRight_32 wG_X12_291 (by decide) ?_
    refine sv_goto (pc := 35) (tgt := 39) dX12_costRight_35 (by decide) ?_
    refine ss_126 (pc := 39) dX12_costRight_39 (A_126 hw) hT (rIx (n := 84000) (rR (x := 963)) rfl) vc_X12_costRight_f_4 fun μ83 u84 T85 => ?_
    refine mr_iconst (pc := 40) (z := 1) dX12_costRight_40 ?_
    exact mr_zret dX12_costRight_41 rfl (rW (c := 0) (d := 1) (rR (x := 1)) rfl) (le_t rfl) (le_t rfl) T85 (mF.up mF.refl (A_126 hw) u84 rfl) ⟨(rW (c := 0) (d := 1) (rR (x := 1)) rfl), (mG.up mG.refl u84 List.mem_cons_self vc_X12_costRight_f_5), trivial⟩
  refine mr_iconst (pc := 5) (z := 0) dX12_costRight_5 ?_
  exact mr_zret dX12_costRight_6 rfl (rW (c := 0) (d := 1) (rR (x := 0)) rfl) (le_t rfl) (le_t rfl) hT mF.refl ⟨(rW (c := 0) (d := 1) (rR (x := 0)) rfl), mG.refl, trivial⟩
theorem vc_X12_marksRight_f_1  : (0 : Int) < (4 : Int) ∧ (4 : Int) ≤ (2147483647 : Int) := by omega
theorem vc_X12_marksRight_f_2 {p2 z432 : Int} (h0 : z432 = 0) (h1 : p2 % 4 = z432) (h2 : 0 ≤ p2 ∧ p2 ≤ 1000) (h3 : 0 ≤ z432 ∧ z432 ≤ 3) : 0 ≤ z432 ∧ z432 ≤ 0 := by omega
theorem vc_X12_marksRight_f_3 {z725 : Int} (h0 : (1004 - z725) < ((0 : Nat) : Int)) (h1 : z725 % 4 = 0) (h2 : 0 ≤ z725 ∧ z725 ≤ 1003) : False := by omega
theorem vc_X12_marksRight_f_4  : (961 : Int) ≤ (961 : Int) ∧ (1000 : Int) ≤ (1000 : Int) := by omega
theorem vc_X12_marksRight_f_5 {f_size p1 p2 z432 z725 : Int} (h0 : z725 < p2) (h1 : p1 + p2 ≤ f_size) (h2 : p2 % 4 = z432) (h3 : z725 % 4 = 0) (h4 : 0 ≤ f_size ∧ f_size ≤ 1000) (h5 : 0 ≤ p1 ∧ p1 ≤ 1000) (h6 : 0 ≤ p2 ∧ p2 ≤ 1000) (h7 : 0 ≤ z432 ∧ z432 ≤ 0) (h8 : 0 ≤ z725 ∧ z725 ≤ 1003) : 0 ≤ z725 ∧ z725 ≤ 999 := by omega
theorem vc_X12_marksRight_f_6 {f_size p1 p2 z432 z725 : Int} (h0 : z725 < p2) (h1 : p1 + p2 ≤ f_size) (h2 : p2 % 4 = z432) (h3 : z725 % 4 = 0) (h4 : 0 ≤ f_size ∧ f_size ≤ 1000) (h5 : 0 ≤ p1 ∧ p1 ≤ 1000) (h6 : 0 ≤ p2 ∧ p2 ≤ 1000) (h7 : 0 ≤ z432 ∧ z432 ≤ 0) (h8 : 0 ≤ z725 ∧ z725 ≤ 999) : 1 ≤ p2 ∧ p2 ≤ 1000 := by omega
theorem vc_X12_marksRight_f_7 {f_size p1 p2 z432 z725 : Int} (h0 : p1 + p2 ≤ f_size) (h1 : z725 % 4 = 0) (h2 : z725 < p2) (h3 : p2 % 4 = z432) (h4 : 0 ≤ f_size ∧ f_size ≤ 1000) (h5 : 0 ≤ p1 ∧ p1 ≤ 1000) (h6 : 1 ≤ p2 ∧ p2 ≤ 1000) (h7 : 0 ≤ z432 ∧ z432 ≤ 0) (h8 : 0 ≤ z725 ∧ z725 ≤ 999) : 0 ≤ ((p1 + z725) + 2) ∧ ((p1 + z725) + 2) ≤ 1000 := by omega
theorem vc_X12_marksRight_f_8 {f_size p1 p2 z432 z725 : Int} (h0 : p1 + p2 ≤ f_size) (h1 : z725 % 4 = 0) (h2 : z725 < p2) (h3 : p2 % 4 = z432) (h4 : 0 ≤ f_size ∧ f_size ≤ 1000) (h5 : 0 ≤ p1 ∧ p1 ≤ 1000) (h6 : 1 ≤ p2 ∧ p2 ≤ 1000) (h7 : 0 ≤ z432 ∧ z432 ≤ 0) (h8 : 0 ≤ z725 ∧ z725 ≤ 999) : ((p1 + z725) + 2) + (2 : Int) ≤ f_size := by omega
theorem vc_X12_marksRight_f_9 {z772 : Int} (h0 : 8 ≤ z772) (h1 : 0 ≤ z772 ∧ z772 ≤ 8) : 8 ≤ z772 ∧ z772 ≤ 8 := by omega
theorem vc_X12_marksRight_f_10 {f_size p1 p2 z432 z725 : Int} (h0 : z725 % 4 = 0) (h1 : z725 < p2) (h2 : p1 + p2 ≤ f_size) (h3 : p2 % 4 = z432) (h4 : 0 ≤ f_size ∧ f_size ≤ 1000) (h5 : 0 ≤ p1 ∧ p1 ≤ 1000) (h6 : 1 ≤ p2 ∧ p2 ≤ 1000) (h7 : 0 ≤ z432 ∧ z432 ≤ 0) (h8 : 0 ≤ z725 ∧ z725 ≤ 999) : (z725 + 4) % 4 = 0 := by omega
theorem vc_X12_marksRight_f_11 {N f_size p1 p2 z432 z725 : Int} (h0 : (1004 - z725) < N + 1) (h1 : z725 % 4 = 0) (h2 : z725 < p2) (h3 : p1 + p2 ≤ f_size) (h4 : p2 % 4 = z432) (h5 : 0 ≤ f_size ∧ f_size ≤ 1000) (h6 : 0 ≤ p1 ∧ p1 ≤ 1000) (h7 : 1 ≤ p2 ∧ p2 ≤ 1000) (h8 : 0 ≤ z432 ∧ z432 ≤ 0) (h9 : 0 ≤ z725 ∧ z725 ≤ 999) : (1004 - (z725 + 4)) < N := by omega
theorem vc_X12_marksRight_f_12 {z772 : Int} (h0 : z772 < 8) (h1 : 0 ≤ z772 ∧ z772 ≤ 8) : 0 ≤ z772 ∧ z772 ≤ 7 := by omega
theorem vc_X12_marksRight_f_13 {z801 : Int} (h0 : ¬ z801 = 0) (h1 : 0 ≤ z801 ∧ z801 ≤ 1) : 1 ≤ z801 ∧ z801 ≤ 1 := by omega
theorem vc_X12_marksRight_f_14 {z801 : Int} (h0 : z801 = 0) (h1 : 0 ≤ z801 ∧ z801 ≤ 1) : 0 ≤ z801 ∧ z801 ≤ 0 := by omega
theorem vc_X12_marksRight_f_15  : (961 : Int) ≤ (((40 : Int) * (24 : Int)) + (1 : Int)) ∧ (((40 : Int) * (24 : Int)) + (40 : Int)) ≤ (1000 : Int) := by omega
theorem vc_X12_marksRight_f_16  : ((0 : Int) : Int) % (4 : Int) = (0 : Int) := by omega
theorem vc_X12_marksRight_f_17  : (1004 - 0) < ((1005 : Nat) : Int) := by omega
theorem vc_X12_marksRight_f_18 {p2 z432 : Int} (h0 : ¬ z432 = 0) (h1 : p2 % 4 = z432) (h2 : 0 ≤ p2 ∧ p2 ≤ 1000) (h3 : 0 ≤ z432 ∧ z432 ≤ 3) : 1 ≤ z432 ∧ z432 ≤ 3 := by omega
set_option maxRecDepth 4000 in
set_option maxHeartbeats 4000000 in
theorem c_X12_marksRight_f {l : Launch} {D : va_G} {c : Nat → ClassId} {H0 : Heap} {sa : Nat × Nat × (Nat → Int32)} {w : mW} {μ : mM} (hw : mWF w) (hT : mT w μ) {p1 : Int} (hp1 : 0 ≤ p1 ∧ p1 ≤ 1000) {p2 : Int} (hp2 : 0 ≤ p2 ∧ p2 ≤ 1000) {f_size : Int} (q_f_size : μ 106 1 = f_size) (hq0 : p1 + p2 ≤ f_size) : sC (gG l D c H0 sa) mX12_marksRight 3 0 0 [.ref 106, iv p1, iv p2] (mk w μ) (qI w [106101, 126999, 173999] μ (fun z μ1 => (0 ≤ z ∧ z ≤ 1) ∧ mG [(961, 1000)] μ μ1 ∧ True)) := by
  refine sC.of rfl (by decide) (le_t rfl) ?_
  have ht_f_size : (0 ≤ f_size ∧ f_size ≤ 1000) := by rw [← q_f_size]; exact hT 106 106 (A_106 hw) 1
  refine mr_lvE (lv' := [(0, .ref 106), (1, iv p1), (2, iv p2)]) rfl ?_
  refine mr_iload_n (pc := 0) (z := p2) dX12_marksRight_0 rfl rfl ?_
  refine mr_iconst (pc := 1) (z := 4) dX12_marksRight_1 ?_
  refine mr_irem (pc := 2) (x := p2) (y := 4) dX12_marksRight_2 (rW (c := 0) (d := 2147483647) hp2 rfl) vc_X12_marksRight_f_1 ?_
  refine mr_gen (P := fun z => 0 ≤ z ∧ z ≤ 3) (rMod hp2 rfl) fun z432 q433 h434 => ?_
  refine mr_if_eq (pc := 3) (tgt := 8) dX12_marksRight_3 (by decide) (r32 h434 rfl) (fun h435 => ?_) (fun h435 => ?_)
  · have h436 : 0 ≤ z432 ∧ z432 ≤ 0 := (vc_X12_marksRight_f_2 h435 q433 hp2 h434)
    refine mr_iconst (pc := 8) (z := 0) dX12_marksRight_8 ?_
    refine mr_istore_n (pc := 9) (lv' := [(3, iv 0), (0, .ref 106), (1, iv p1), (2, iv p2)]) dX12_marksRight_9 rfl (by decide) rfl ?_
    have L727 : ∀ (nL727 : Nat) (z725 : Int) (μ726 : mM), mT w μ726 → mF [106101, 126999, 173999] w μ μ726 → mG [(961, 1000)] μ μ726 → (0 ≤ z725 ∧ z725 ≤ 1003) → (z725 % 4 = 0) → (1004 - z725) < (nL727 : Int) → sV (gG l D c H0 sa) mX12_marksRight (sRm 3 0 0) (sZ (gG l D c H0 sa) 0 0 (qI w [106101, 126999, 173999] μ (fun z μ1 => (0 ≤ z ∧ z ≤ 1) ∧ mG [(961, 1000)] μ μ1 ∧ True))) 10 [(0, .ref 106), (1, iv p1), (2, iv p2), (3, iv z725)] [] (mk w μ726) 0 0 := by
      intro nL727
      induction nL727 with
      | zero => intro z725 μ726 T729 F730 G731 h728 h732 h733; exact ((vc_X12_marksRight_f_3 h733 h732 h728)).elim
      | succ nL727 ih734 =>
        intro z725 μ726 T729 F730 G731 h728 h732 h733
        refine mr_iload_n (pc := 10) (z := z725) dX12_marksRight_10 rfl rfl ?_
        refine mr_iload_n (pc := 11) (z := p2) dX12_marksRight_11 rfl rfl ?_
        refine mr_icmp_ge (pc := 12) (tgt := 82) dX12_marksRight_12 (by decide) (r32 h728 rfl) (r32 hp2 rfl) (fun h764 => ?_) (fun h764 => ?_)
        · refine mr_iconst (pc := 82) (z := 1) dX12_marksRight_82 ?_
          exact mr_zret dX12_marksRight_83 rfl (rW (c := 0) (d := 1) (rR (x := 1)) rfl) (le_t rfl) (le_t rfl) T729 (mF.call mF.refl F730 rfl) ⟨(rW (c := 0) (d := 1) (rR (x := 1)) rfl), (mG.call mG.refl G731 (List.forall_mem_cons.mpr ⟨⟨_, List.mem_cons_self, vc_X12_marksRight_f_4⟩, (fun _ h => absurd h List.not_mem_nil)⟩)), trivial⟩
        have h765 : 0 ≤ z725 ∧ z725 ≤ 999 := (vc_X12_marksRight_f_5 h764 hq0 q433 h732 ht_f_size hp1 hp2 h436 h728)
        have h766 : 1 ≤ p2 ∧ p2 ≤ 1000 := (vc_X12_marksRight_f_6 h764 hq0 q433 h732 ht_f_size hp1 hp2 h436 h765)
        refine sv_aload_n (pc := 15) dX12_marksRight_15 rfl rfl ?_
        refine mr_iload_n (pc := 16) (z := p1) dX12_marksRight_16 rfl rfl ?_
        refine mr_iload_n (pc := 17) (z := z725) dX12_marksRight_17 rfl rfl ?_
        refine mr_iadd (pc := 18) (x := p1) (y := z725) dX12_marksRight_18 ?_
        refine mr_iconst (pc := 19) (z := 2) dX12_marksRight_19 ?_
        refine mr_iadd (pc := 20) (x := (p1 + z725)) (y := 2) dX12_marksRight_20 ?_
        refine mr_iconst (pc := 21) (z := 2) dX12_marksRight_21 ?_
        refine mr_cVP (pc := 22) (c_X12_number hw T729 (vc_X12_marksRight_f_7 hq0 h732 h764 q433 ht_f_size hp1 h766 h436 h765) (rW (c := 0) (d := 4) (rR (x := 2)) rfl) (F730.f (A_106 hw) rfl q_f_size) (vc_X12_marksRight_f_8 hq0 h732 h764 q433 ht_f_size hp1 h766 h436 h765)) (gOk _ _ _ _ _) dX12_marksRight_22 (tX12_number _ _ _ _ _) ⟨wV_X12_number, wL_X12_number⟩ wM_X12_623 (gCX12 _ _ _ _ _) rfl (A_106 hw) rfl ⟨le_t rfl, le_t rfl⟩ ⟨le_t rfl, le_t rfl⟩ rfl (le_t rfl) fun z771 h770 => ?_
        refine mr_istore (pc := 25) (lv' := [(4, iv z771), (0, .ref 106), (1, iv p1), (2, iv p2), (3, iv z725)]) dX12_marksRight_25 (by decide) rfl ?_
        refine sv_aload_n (pc := 27) dX12_marksRight_27 rfl rfl ?_
        refine gf_X12_101 (pc := 28) dX12_marksRight_28 wF_X12_637 (A_106 hw) T729 fun z772 q773 h774 => ?_
        refine mr_bipush (pc := 31) (z := 8) dX12_marksRight_31 (by decide) ?_
        refine mr_icmp_ge (pc := 33) (tgt := 76) dX12_marksRight_33 (by decide) (r32 h774 rfl) (r32 (rR (x := 8)) rfl) (fun h794 => ?_) (fun h794 => ?_)
        · have h795 : 8 ≤ z772 ∧ z772 ≤ 8 := (vc_X12_marksRight_f_9 h794 h774)
          refine mr_iinc (pc := 76) (lv' := [(3, iv (z725 + 4)), (4, iv z771), (0, .ref 106), (1, iv p1), (2, iv p2)]) dX12_marksRight_76 rfl (by decide) rfl ?_
          refine sv_goto (pc := 79) (tgt := 10) dX12_marksRight_79 (by decide) ?_
          refine mr_lvS (lv' := [(0, .ref 106), (1, iv p1), (2, iv p2), (3, iv (z725 + 4))]) (List.forall_mem_cons.mpr ⟨rfl, List.forall_mem_cons.mpr ⟨rfl, List.forall_mem_cons.mpr ⟨rfl, List.forall_mem_cons.mpr ⟨rfl, fun _ h => absurd h List.not_mem_nil⟩⟩⟩⟩) ?_
          exact ih734 (z725 + 4) μ726 T729 (mF.call mF.refl F730 rfl) (mG.call mG.refl G731 (List.forall_mem_cons.mpr ⟨⟨_, List.mem_cons_self, vc_X12_marksRight_f_4⟩, (fun _ h => absurd h List.not_mem_nil)⟩)) (rW (c := 0) (d := 1003) (rAdd (e := 4) (f := 1003) h765 (rR (x := 4)) rfl) rfl) (vc_X12_marksRight_f_10 h732 h764 hq0 q433 ht_f_size hp1 h766 h436 h765) (vc_X12_marksRight_f_11 (nS h733) h732 h764 hq0 q433 ht_f_size hp1 h766 h436 h765)
        have h796 : 0 ≤ z772 ∧ z772 ≤ 7 := (vc_X12_marksRight_f_12 h794 h774)
        refine sv_aload_n (pc := 36) dX12_marksRight_36 rfl rfl ?_
        refine mr_bipush (pc := 37) (z := 24) dX12_marksRight_37 (by decide) ?_
        refine mr_iload (pc := 39) (z := z771) dX12_marksRight_39 rfl ?_
        refine mr_cVP (pc := 41) (c_X12_marked hw T729 (rW (c := 0) (d := 2099) (rR (x := 24)) rfl) h770.1) (gOk _ _ _ _ _) dX12_marksRight_41 (tX12_marked _ _ _ _ _) ⟨wV_X12_marked, wL_X12_marked⟩ wM_X12_154 (gCX12 _ _ _ _ _) rfl (A_106 hw) rfl ⟨le_t rfl, le_t rfl⟩ ⟨le_t rfl, le_t rfl⟩ rfl (le_t rfl) fun z801 h800 => ?_
        refine mr_if_ne (pc := 44) (tgt := 76) dX12_marksRight_44 (by decide) (r32 h800.1 rfl) (fun h814 => ?_) (fun h814 => ?_)
        · have h815 : 1 ≤ z801 ∧ z801 ≤ 1 := (vc_X12_marksRight_f_13 h814 h800.1)
          refine mr_iinc (pc := 76) (lv' := [(3, iv (z725 + 4)), (4, iv z771), (0, .ref 106), (1, iv p1), (2, iv p2)]) dX12_marksRight_76 rfl (by decide) rfl ?_
          refine sv_goto (pc := 79) (tgt := 10) dX12_marksRight_79 (by decide) ?_
          refine mr_lvS (lv' := [(0, .ref 106), (1, iv p1), (2, iv p2), (3, iv (z725 + 4))]) (List.forall_mem_cons.mpr ⟨rfl, List.forall_mem_cons.mpr ⟨rfl, List.forall_mem_cons.mpr ⟨rfl, List.forall_mem_cons.mpr ⟨rfl, fun _ h => absurd h List.not_mem_nil⟩⟩⟩⟩) ?_
          exact ih734 (z725 + 4) μ726 T729 (mF.call mF.refl F730 rfl) (mG.call mG.refl G731 (List.forall_mem_cons.mpr ⟨⟨_, List.mem_cons_self, vc_X12_marksRight_f_4⟩, (fun _ h => absurd h List.not_mem_nil)⟩)) (rW (c := 0) (d := 1003) (rAdd (e := 4) (f := 1003) h765 (rR (x := 4)) rfl) rfl) (vc_X12_marksRight_f_10 h732 h764 hq0 q433 ht_f_size hp1 h766 h436 h765) (vc_X12_marksRight_f_11 (nS h733) h732 h764 hq0 q433 ht_f_size hp1 h766 h436 h765)
        have h816 : 0 ≤ z801 ∧ z801 ≤ 0 := (vc_X12_marksRight_f_14 h814 h800.1)
        refine sv_aload_n (pc := 47) dX12_marksRight_47 rfl rfl ?_
        refine mr_bipush (pc := 48) (z := 24) dX12_marksRight_48 (by decide) ?_
        refine mr_iload (pc := 50) (z := z771) dX12_marksRight_50 rfl ?_
        refine mr_cVV (pc := 52) (c_X12_addMark hw T729 (rW (c := 0) (d := 2099) (rR (x := 24)) rfl) h770.1) (gOk _ _ _ _ _) dX12_marksRight_52 (tX12_addMark _ _ _ _ _) ⟨wV_X12_addMark, wL_X12_addMark⟩ wM_X12_401 (gCX12 _ _ _ _ _) rfl (A_106 hw) rfl ⟨le_t rfl, le_t rfl⟩ ⟨le_t rfl, le_t rfl⟩ rfl (le_t rfl) fun μ817 T818 F819 h820 => ?_
        refine sv_aload_n (pc := 55) dX12_marksRight_55 rfl rfl ?_
        refine gf_X12_100 (pc := 56) dX12_marksRight_56 wF_X12_481 (A_106 hw) T818 ?_
        refine sv_aload_n (pc := 59) dX12_marksRight_59 rfl rfl ?_
        refine gk_X12_101 (pc := 60) dX12_marksRight_60 wF_X12_637 (A_106 hw) (F819.f (A_106 hw) rfl q773) ?_
        refine mr_iload (pc := 63) (z := z771) dX12_marksRight_63 rfl ?_
        refine ss_173 (pc := 65) dX12_marksRight_65 (A_173 hw) T818 (rIx (n := 8) h796 rfl) h770.1 fun μ821 u822 T823 => ?_
        refine sv_aload_n (pc := 66) dX12_marksRight_66 rfl rfl ?_
        refine sv_dup (pc := 67) dX12_marksRight_67 rfl ?_
        refine gk_X12_101 (pc := 68) dX12_marksRight_68 wF_X12_637 (A_106 hw) (u822.f (Or.inl (mAt.ne (A_173 hw) (A_106 hw) rfl)) (F819.f (A_106 hw) rfl q773)) ?_
        refine mr_iconst (pc := 71) (z := 1) dX12_marksRight_71 ?_
        refine mr_iadd (pc := 72) (x := z772) (y := 1) dX12_marksRight_72 ?_
        refine pf_X12_101 (pc := 73) dX12_marksRight_73 wF_X12_637 (A_106 hw) T823 (rW (c := 0) (d := 8) (rAdd (e := 1) (f := 8) h796 (rR (x := 1)) rfl) rfl) fun μ824 u825 T826 => ?_
        refine mr_iinc (pc := 76) (lv' := [(3, iv (z725 + 4)), (4, iv z771), (0, .ref 106), (1, iv p1), (2, iv p2)]) dX12_marksRight_76 rfl (by decide) rfl ?_
        refine sv_goto (pc := 79) (tgt := 10) dX12_marksRight_79 (by decide) ?_
        refine mr_lvS (lv' := [(0, .ref 106), (1, iv p1), (2, iv p2), (3, iv (z725 + 4))]) (List.forall_mem_cons.mpr ⟨rfl, List.forall_mem_cons.mpr ⟨rfl, List.forall_mem_cons.mpr ⟨rfl, List.forall_mem_cons.mpr ⟨rfl, fun _ h => absurd h List.not_mem_nil⟩⟩⟩⟩) ?_
        exact ih734 (z725 + 4) μ824 T826 (mF.up (mF.up (mF.call (mF.call mF.refl F730 rfl) F819 rfl) (A_173 hw) u822 rfl) (A_106 hw) u825 rfl) (mG.upO (mG.upO (mG.call (mG.call mG.refl G731 (List.forall_mem_cons.mpr ⟨⟨_, List.mem_cons_self, vc_X12_marksRight_f_4⟩, (fun _ h => absurd h List.not_mem_nil)⟩)) h820.1 (List.forall_mem_cons.mpr ⟨⟨_, List.mem_cons_self, vc_X12_marksRight_f_15⟩, (fun _ h => absurd h List.not_mem_nil)⟩)) u822 rfl) u825 rfl) (rW (c := 0) (d := 1003) (rAdd (e := 4) (f := 1003) h765 (rR (x := 4)) rfl) rfl) (vc_X12_marksRight_f_10 h732 h764 hq0 q433 ht_f_size hp1 h766 h436 h765) (vc_X12_marksRight_f_11 (nS h733) h732 h764 hq0 q433 ht_f_size hp1 h766 h436 h765)
    refine mr_lvS (lv' := [(0, .ref 106), (1, iv p1), (2, iv p2), (3, iv 0)]) (List.forall_mem_cons.mpr ⟨rfl, List.forall_mem_cons.mpr ⟨rfl, List.forall_mem_cons.mpr ⟨rfl, List.forall_mem_cons.mpr ⟨rfl, fun _ h => absurd h List.not_mem_nil⟩⟩⟩⟩) ?_
    exact L727 1005 0 μ hT mF.refl mG.refl (rW (c := 0) (d := 1003) (rR (x := 0)) rfl) vc_X12_marksRight_f_16 vc_X12_marksRight_f_17
  have h827 : 1 ≤ z432 ∧ z432 ≤ 3 := (vc_X12_marksRight_f_18 h435 q433 hp2 h434)
  refine mr_iconst (pc := 6) (z := 0) dX12_marksRight_6 ?_
  exact mr_zret dX12_marksRight_7 rfl (rW (c := 0) (d := 1) (rR (x := 0)) rfl) (le_t rfl) (le_t rfl) hT mF.refl ⟨(rW (c := 0) (d := 1) (rR (x := 0)) rfl), mG.refl, trivial⟩
theorem vc_X12_attributes_1 {f_c z1201 : Int} (h0 : (1003 - z1201) < ((0 : Nat) : Int)) (h1 : 3 * f_c ≤ z1201) (h2 : 0 ≤ z1201 ∧ z1201 ≤ 1002) : False := by omega
theorem vc_X12_attributes_2  : (960 : Int) ≤ (960 : Int) ∧ (1000 : Int) ≤ (1000 : Int) := by omega
theorem vc_X12_attributes_3 {f_c f_size p2 z1201 : Int} (h0 : z1201 < p2) (h1 : p2 ≤ f_size) (h2 : 3 * f_c ≤ z1201) (h3 : 0 ≤ f_c ∧ f_c ≤ 400) (h4 : 0 ≤ f_size ∧ f_size ≤ 1000) (h5 : 0 ≤ p2 ∧ p2 ≤ 1000) (h6 : 0 ≤ z1201 ∧ z1201 ≤ 1002) : 0 ≤ z1201 ∧ z1201 ≤ 999 := by omega
theorem vc_X12_attributes_4 {f_c f_size p2 z1201 : Int} (h0 : z1201 < p2) (h1 : p2 ≤ f_size) (h2 : 3 * f_c ≤ z1201) (h3 : 0 ≤ f_c ∧ f_c ≤ 400) (h4 : 0 ≤ f_size ∧ f_size ≤ 1000) (h5 : 0 ≤ p2 ∧ p2 ≤ 1000) (h6 : 0 ≤ z1201 ∧ z1201 ≤ 999) : 1 ≤ p2 ∧ p2 ≤ 1000 := by omega
theorem vc_X12_attributes_5 {f_c f_size p2 z1201 : Int} (h0 : p2 ≤ f_size) (h1 : 3 * f_c ≤ z1201) (h2 : z1201 < p2) (h3 : 0 ≤ f_c ∧ f_c ≤ 400) (h4 : 0 ≤ f_size ∧ f_size ≤ 1000) (h5 : 1 ≤ p2 ∧ p2 ≤ 1000) (h6 : 0 ≤ z1201 ∧ z1201 ≤ 999) : z1201 < f_size := by omega
theorem vc_X12_attributes_6 {f_c f_size p2 z1201 z1231 : Int} (h0 : (z1201 + z1231) ≤ p2) (h1 : p2 ≤ f_size) (h2 : 3 * f_c ≤ z1201) (h3 : z1201 < p2) (h4 : 0 ≤ f_c ∧ f_c ≤ 400) (h5 : 0 ≤ f_size ∧ f_size ≤ 1000) (h6 : 1 ≤ p2 ∧ p2 ≤ 1000) (h7 : 0 ≤ z1201 ∧ z1201 ≤ 999) (h8 : 3 ≤ z1231 ∧ z1231 ≤ 4) : 0 ≤ z1201 ∧ z1201 ≤ 997 := by omega
theorem vc_X12_attributes_7 {f_c f_size p2 z1201 z1231 : Int} (h0 : (z1201 + z1231) ≤ p2) (h1 : p2 ≤ f_size) (h2 : 3 * f_c ≤ z1201) (h3 : z1201 < p2) (h4 : 0 ≤ f_c ∧ f_c ≤ 400) (h5 : 0 ≤ f_size ∧ f_size ≤ 1000) (h6 : 1 ≤ p2 ∧ p2 ≤ 1000) (h7 : 0 ≤ z1201 ∧ z1201 ≤ 997) (h8 : 3 ≤ z1231 ∧ z1231 ≤ 4) : 3 ≤ p2 ∧ p2 ≤ 1000 := by omega
theorem vc_X12_attributes_8 {f_c f_size p2 z1201 z1231 : Int} (h0 : p2 ≤ f_size) (h1 : 3 * f_c ≤ z1201) (h2 : z1201 < p2) (h3 : (z1201 + z1231) ≤ p2) (h4 : 0 ≤ f_c ∧ f_c ≤ 400) (h5 : 0 ≤ f_size ∧ f_size ≤ 1000) (h6 : 3 ≤ p2 ∧ p2 ≤ 1000) (h7 : 0 ≤ z1201 ∧ z1201 ≤ 997) (h8 : 3 ≤ z1231 ∧ z1231 ≤ 4) : (z1201 + 2) + (z1231 - 2) ≤ f_size := by omega
theorem vc_X12_attributes_9 {f_c f_size p2 z1201 z1231 z1245 : Int} (h0 : ((z1201 + z1231) + z1245) ≤ p2) (h1 : p2 ≤ f_size) (h2 : 3 * f_c ≤ z1201) (h3 : z1201 < p2) (h4 : (z1201 + z1231) ≤ p2) (h5 : 0 ≤ f_c ∧ f_c ≤ 400) (h6 : 0 ≤ f_size ∧ f_size ≤ 1000) (h7 : 3 ≤ p2 ∧ p2 ≤ 1000) (h8 : 0 ≤ z1201 ∧ z1201 ≤ 997) (h9 : 3 ≤ z1231 ∧ z1231 ≤ 4) (h10 : 0 ≤ z1245 ∧ z1245 ≤ 65535) : 0 ≤ z1245 ∧ z1245 ≤ 997 := by omega
theorem vc_X12_attributes_10 {f_c f_size p2 z1201 z1231 z1245 : Int} (h0 : p2 ≤ f_size) (h1 : 3 * f_c ≤ z1201) (h2 : z1201 < p2) (h3 : (z1201 + z1231) ≤ p2) (h4 : ((z1201 + z1231) + z1245) ≤ p2) (h5 : 0 ≤ f_c ∧ f_c ≤ 400) (h6 : 0 ≤ f_size ∧ f_size ≤ 1000) (h7 : 3 ≤ p2 ∧ p2 ≤ 1000) (h8 : 0 ≤ z1201 ∧ z1201 ≤ 997) (h9 : 3 ≤ z1231 ∧ z1231 ≤ 4) (h10 : 0 ≤ z1245 ∧ z1245 ≤ 997) : z1201 < f_size := by omega
theorem vc_X12_attributes_11 {f_c f_size p2 z1201 z1231 z1245 : Int} (h0 : p2 ≤ f_size) (h1 : 3 * f_c ≤ z1201) (h2 : z1201 < p2) (h3 : (z1201 + z1231) ≤ p2) (h4 : ((z1201 + z1231) + z1245) ≤ p2) (h5 : 0 ≤ f_c ∧ f_c ≤ 400) (h6 : 0 ≤ f_size ∧ f_size ≤ 1000) (h7 : 3 ≤ p2 ∧ p2 ≤ 1000) (h8 : 0 ≤ z1201 ∧ z1201 ≤ 997) (h9 : 3 ≤ z1231 ∧ z1231 ≤ 4) (h10 : 0 ≤ z1245 ∧ z1245 ≤ 997) : (z1201 + 1) < f_size := by omega
theorem vc_X12_attributes_12 {f_c f_size p2 z1201 z1231 z1245 : Int} (h0 : p2 ≤ f_size) (h1 : 3 * f_c ≤ z1201) (h2 : z1201 < p2) (h3 : (z1201 + z1231) ≤ p2) (h4 : ((z1201 + z1231) + z1245) ≤ p2) (h5 : 0 ≤ f_c ∧ f_c ≤ 400) (h6 : 0 ≤ f_size ∧ f_size ≤ 1000) (h7 : 3 ≤ p2 ∧ p2 ≤ 1000) (h8 : 0 ≤ z1201 ∧ z1201 ≤ 997) (h9 : 3 ≤ z1231 ∧ z1231 ≤ 4) (h10 : 0 ≤ z1245 ∧ z1245 ≤ 997) : (z1201 + 2) + (z1231 - 2) ≤ f_size := by omega
theorem vc_X12_attributes_13 {p2 z1201 z1231 z1245 z1262 : Int} (h0 : z1262 = z1245) (h1 : ((z1201 + z1231) + z1245) ≤ p2) (h2 : 3 ≤ p2 ∧ p2 ≤ 1000) (h3 : 0 ≤ z1201 ∧ z1201 ≤ 997) (h4 : 3 ≤ z1231 ∧ z1231 ≤ 4) (h5 : 0 ≤ z1245 ∧ z1245 ≤ 997) (h6 : 0 ≤ z1262 ∧ z1262 ≤ 65535) : 0 ≤ z1262 ∧ z1262 ≤ 997 := by omega
theorem vc_X12_attributes_14 {z1264 : Int} (h0 : z1264 = 0) (h1 : 0 ≤ z1264 ∧ z1264 ≤ 1) : 0 ≤ z1264 ∧ z1264 ≤ 0 := by omega
theorem vc_X12_attributes_15 {z1435 : Int} (h0 : ¬ z1435 = 0) (h1 : 0 ≤ z1435 ∧ z1435 ≤ 1) : 1 ≤ z1435 ∧ z1435 ≤ 1 := by omega
theorem vc_X12_attributes_16 {f_c f_size p2 z1201 z1231 z1245 z1262 z1443 : Int} (h0 : 3 * f_c ≤ z1201) (h1 : z1201 < p2) (h2 : (z1201 + z1231) ≤ p2) (h3 : ((z1201 + z1231) + z1245) ≤ p2) (h4 : z1262 = z1245) (h5 : 3 * z1443 ≤ (z1201 + z1231)) (h6 : p2 ≤ f_size) (h7 : 0 ≤ f_c ∧ f_c ≤ 400) (h8 : 0 ≤ f_size ∧ f_size ≤ 1000) (h9 : 3 ≤ p2 ∧ p2 ≤ 1000) (h10 : 0 ≤ z1201 ∧ z1201 ≤ 997) (h11 : 3 ≤ z1231 ∧ z1231 ≤ 4) (h12 : 0 ≤ z1245 ∧ z1245 ≤ 997) (h13 : 0 ≤ z1262 ∧ z1262 ≤ 997) (h14 : 0 ≤ z1443 ∧ z1443 ≤ 400) : 0 ≤ ((z1201 + z1231) + z1262) ∧ ((z1201 + z1231) + z1262) ≤ 1002 := by omega
theorem vc_X12_attributes_17 {f_c f_size p2 z1201 z1231 z1245 z1262 z1443 : Int} (h0 : 3 * f_c ≤ z1201) (h1 : z1201 < p2) (h2 : (z1201 + z1231) ≤ p2) (h3 : ((z1201 + z1231) + z1245) ≤ p2) (h4 : z1262 = z1245) (h5 : 3 * z1443 ≤ (z1201 + z1231)) (h6 : p2 ≤ f_size) (h7 : 0 ≤ f_c ∧ f_c ≤ 400) (h8 : 0 ≤ f_size ∧ f_size ≤ 1000) (h9 : 3 ≤ p2 ∧ p2 ≤ 1000) (h10 : 0 ≤ z1201 ∧ z1201 ≤ 997) (h11 : 3 ≤ z1231 ∧ z1231 ≤ 4) (h12 : 0 ≤ z1245 ∧ z1245 ≤ 997) (h13 : 0 ≤ z1262 ∧ z1262 ≤ 997) (h14 : 0 ≤ z1443 ∧ z1443 ≤ 400) : 3 * z1443 ≤ ((z1201 + z1231) + z1262) := by omega
theorem vc_X12_attributes_18 {N f_c f_size p2 z1201 z1231 z1245 z1262 z1443 : Int} (h0 : (1003 - z1201) < N + 1) (h1 : 3 * f_c ≤ z1201) (h2 : z1201 < p2) (h3 : (z1201 + z1231) ≤ p2) (h4 : ((z1201 + z1231) + z1245) ≤ p2) (h5 : z1262 = z1245) (h6 : 3 * z1443 ≤ (z1201 + z1231)) (h7 : p2 ≤ f_size) (h8 : 0 ≤ f_c ∧ f_c ≤ 400) (h9 : 0 ≤ f_size ∧ f_size ≤ 1000) (h10 : 3 ≤ p2 ∧ p2 ≤ 1000) (h11 : 0 ≤ z1201 ∧ z1201 ≤ 997) (h12 : 3 ≤ z1231 ∧ z1231 ≤ 4) (h13 : 0 ≤ z1245 ∧ z1245 ≤ 997) (h14 : 0 ≤ z1262 ∧ z1262 ≤ 997) (h15 : 0 ≤ z1443 ∧ z1443 ≤ 400) : (1003 - ((z1201 + z1231) + z1262)) < N := by omega
theorem vc_X12_attributes_19 {z1435 : Int} (h0 : z1435 = 0) (h1 : 0 ≤ z1435 ∧ z1435 ≤ 1) : 0 ≤ z1435 ∧ z1435 ≤ 0 := by omega
theorem vc_X12_attributes_20 {z1369 : Int} (h0 : z1369 < 0) (h1 : (-1) ≤ z1369 ∧ z1369 ≤ 192) : (-1) ≤ z1369 ∧ z1369 ≤ (-1) := by omega
theorem vc_X12_attributes_21 {z1467 : Int} (h0 : z1467 = 0) (h1 : 0 ≤ z1467 ∧ z1467 ≤ 1) : 0 ≤ z1467 ∧ z1467 ≤ 0 := by omega
theorem vc_X12_attributes_22 {f_c f_size p2 z1201 z1231 z1245 z1262 : Int} (h0 : 3 * f_c ≤ z1201) (h1 : z1201 < p2) (h2 : (z1201 + z1231) ≤ p2) (h3 : ((z1201 + z1231) + z1245) ≤ p2) (h4 : p2 ≤ f_size) (h5 : z1262 = z1245) (h6 : 0 ≤ f_c ∧ f_c ≤ 400) (h7 : 0 ≤ f_size ∧ f_size ≤ 1000) (h8 : 3 ≤ p2 ∧ p2 ≤ 1000) (h9 : 0 ≤ z1201 ∧ z1201 ≤ 997) (h10 : 3 ≤ z1231 ∧ z1231 ≤ 4) (h11 : 0 ≤ z1245 ∧ z1245 ≤ 997) (h12 : 0 ≤ z1262 ∧ z1262 ≤ 997) : 3 * f_c ≤ (z1201 + z1231) := by omega
theorem vc_X12_attributes_23 {z1467 : Int} (h0 : ¬ z1467 = 0) (h1 : 0 ≤ z1467 ∧ z1467 ≤ 1) : 1 ≤ z1467 ∧ z1467 ≤ 1 := by omega
theorem vc_X12_attributes_24 {z1473 : Int} (h0 : z1473 = 0) (h1 : 0 ≤ z1473 ∧ z1473 ≤ 64) : 0 ≤ z1473 ∧ z1473 ≤ 0 := by omega
theorem vc_X12_attributes_25 {z1473 : Int} (h0 : ¬ z1473 = 0) (h1 : 0 ≤ z1473 ∧ z1473 ≤ 64) : 1 ≤ z1473 ∧ z1473 ≤ 64 := by omega
theorem vc_X12_attributes_26 {f_c p2 z1201 z1231 z1245 : Int} (h0 : 3 * f_c ≤ z1201) (h1 : z1201 < p2) (h2 : (z1201 + z1231) ≤ p2) (h3 : ((z1201 + z1231) + z1245) ≤ p2) (h4 : 0 ≤ f_c ∧ f_c ≤ 400) (h5 : 3 ≤ p2 ∧ p2 ≤ 1000) (h6 : 0 ≤ z1201 ∧ z1201 ≤ 997) (h7 : 3 ≤ z1231 ∧ z1231 ≤ 4) (h8 : 0 ≤ z1245 ∧ z1245 ≤ 997) : 0 ≤ f_c ∧ f_c < 400 := by omega
theorem vc_X12_attributes_27 {f_c p2 z1201 z1231 z1245 : Int} (h0 : 3 * f_c ≤ z1201) (h1 : z1201 < p2) (h2 : (z1201 + z1231) ≤ p2) (h3 : ((z1201 + z1231) + z1245) ≤ p2) (h4 : 0 ≤ f_c ∧ f_c ≤ 400) (h5 : 3 ≤ p2 ∧ p2 ≤ 1000) (h6 : 0 ≤ z1201 ∧ z1201 ≤ 997) (h7 : 3 ≤ z1231 ∧ z1231 ≤ 4) (h8 : 0 ≤ z1245 ∧ z1245 ≤ 997) : 0 ≤ (f_c + 1) ∧ (f_c + 1) ≤ 400 := by omega
theorem vc_X12_attributes_28 {f_c f_size p2 z1201 z1231 z1245 z1262 : Int} (h0 : 3 * f_c ≤ z1201) (h1 : z1201 < p2) (h2 : (z1201 + z1231) ≤ p2) (h3 : ((z1201 + z1231) + z1245) ≤ p2) (h4 : p2 ≤ f_size) (h5 : z1262 = z1245) (h6 : 0 ≤ f_c ∧ f_c ≤ 400) (h7 : 0 ≤ f_size ∧ f_size ≤ 1000) (h8 : 3 ≤ p2 ∧ p2 ≤ 1000) (h9 : 0 ≤ z1201 ∧ z1201 ≤ 997) (h10 : 3 ≤ z1231 ∧ z1231 ≤ 4) (h11 : 0 ≤ z1245 ∧ z1245 ≤ 997) (h12 : 0 ≤ z1262 ∧ z1262 ≤ 997) : 3 * (f_c + 1) ≤ (z1201 + z1231) := by omega
theorem vc_X12_attributes_29 {z1462 : Int} (h0 : z1462 = 0) (h1 : 0 ≤ z1462 ∧ z1462 ≤ 128) : 0 ≤ z1462 ∧ z1462 ≤ 0 := by omega
theorem vc_X12_attributes_30 {z1462 : Int} (h0 : ¬ z1462 = 0) (h1 : 0 ≤ z1462 ∧ z1462 ≤ 128) : 1 ≤ z1462 ∧ z1462 ≤ 128 := by omega
theorem vc_X12_attributes_31 {z1369 : Int} (h0 : 0 ≤ z1369) (h1 : (-1) ≤ z1369 ∧ z1369 ≤ 192) : 0 ≤ z1369 ∧ z1369 ≤ 192 := by omega
theorem vc_X12_attributes_32 {z1369 z1489 : Int} (h0 : z1489 = z1369) (h1 : 0 ≤ z1369) (h2 : 0 ≤ z1369 ∧ z1369 ≤ 192) (h3 : 0 ≤ z1489 ∧ z1489 ≤ 255) : 0 ≤ z1489 ∧ z1489 ≤ 192 := by omega
theorem vc_X12_attributes_33 {f_c f_size p2 z1201 z1231 z1245 z1262 : Int} (h0 : 3 * f_c ≤ z1201) (h1 : z1201 < p2) (h2 : (z1201 + z1231) ≤ p2) (h3 : ((z1201 + z1231) + z1245) ≤ p2) (h4 : p2 ≤ f_size) (h5 : z1262 = z1245) (h6 : 0 ≤ f_c ∧ f_c ≤ 400) (h7 : 0 ≤ f_size ∧ f_size ≤ 1000) (h8 : 3 ≤ p2 ∧ p2 ≤ 1000) (h9 : 0 ≤ z1201 ∧ z1201 ≤ 997) (h10 : 3 ≤ z1231 ∧ z1231 ≤ 4) (h11 : 0 ≤ z1245 ∧ z1245 ≤ 997) (h12 : 0 ≤ z1262 ∧ z1262 ≤ 997) : 0 ≤ (z1201 + z1231) ∧ (z1201 + z1231) ≤ 1000 := by omega
theorem vc_X12_attributes_34 {f_c f_size p2 z1201 z1231 z1245 z1262 : Int} (h0 : p2 ≤ f_size) (h1 : 3 * f_c ≤ z1201) (h2 : z1201 < p2) (h3 : (z1201 + z1231) ≤ p2) (h4 : ((z1201 + z1231) + z1245) ≤ p2) (h5 : z1262 = z1245) (h6 : 0 ≤ f_c ∧ f_c ≤ 400) (h7 : 0 ≤ f_size ∧ f_size ≤ 1000) (h8 : 3 ≤ p2 ∧ p2 ≤ 1000) (h9 : 0 ≤ z1201 ∧ z1201 ≤ 997) (h10 : 3 ≤ z1231 ∧ z1231 ≤ 4) (h11 : 0 ≤ z1245 ∧ z1245 ≤ 997) (h12 : 0 ≤ z1262 ∧ z1262 ≤ 997) : (z1201 + z1231) + z1262 ≤ f_size := by omega
theorem vc_X12_attributes_35 {z1540 : Int} (h0 : z1540 = 0) (h1 : 0 ≤ z1540 ∧ z1540 ≤ 1) : 0 ≤ z1540 ∧ z1540 ≤ 0 := by omega
theorem vc_X12_attributes_36  : (960 : Int) ≤ (961 : Int) ∧ (1000 : Int) ≤ (1000 : Int) := by omega
theorem vc_X12_attributes_37 {z1540 : Int} (h0 : ¬ z1540 = 0) (h1 : 0 ≤ z1540 ∧ z1540 ≤ 1) : 1 ≤ z1540 ∧ z1540 ≤ 1 := by omega
theorem vc_X12_attributes_38 {z1257 : Int} (h0 : z1257 = 4) (h1 : ¬ z1257 = 1) (h2 : ¬ z1257 = 2) (h3 : 0 ≤ z1257 ∧ z1257 ≤ 255) : 4 ≤ z1257 ∧ z1257 ≤ 4 := by omega
theorem vc_X12_attributes_39 {z1549 : Int} (h0 : z1549 = 0) (h1 : 0 ≤ z1549 ∧ z1549 ≤ 1) : 0 ≤ z1549 ∧ z1549 ≤ 0 := by omega
theorem vc_X12_attributes_40  : (960 : Int) ≤ (963 : Int) ∧ (964 : Int) ≤ (1000 : Int) := by omega
theorem vc_X12_attributes_41 {z1549 : Int} (h0 : ¬ z1549 = 0) (h1 : 0 ≤ z1549 ∧ z1549 ≤ 1) : 1 ≤ z1549 ∧ z1549 ≤ 1 := by omega
theorem vc_X12_attributes_42 {z1257 : Int} (h0 : z1257 = 2) (h1 : ¬ z1257 = 1) (h2 : 0 ≤ z1257 ∧ z1257 ≤ 255) : 2 ≤ z1257 ∧ z1257 ≤ 2 := by omega
theorem vc_X12_attributes_43 {z1558 : Int} (h0 : z1558 = 0) (h1 : 0 ≤ z1558 ∧ z1558 ≤ 1) : 0 ≤ z1558 ∧ z1558 ≤ 0 := by omega
theorem vc_X12_attributes_44  : (960 : Int) ≤ (964 : Int) ∧ (986 : Int) ≤ (1000 : Int) := by omega
theorem vc_X12_attributes_45 {z1558 : Int} (h0 : ¬ z1558 = 0) (h1 : 0 ≤ z1558 ∧ z1558 ≤ 1) : 1 ≤ z1558 ∧ z1558 ≤ 1 := by omega
theorem vc_X12_attributes_46 {z1257 : Int} (h0 : z1257 = 1) (h1 : 0 ≤ z1257 ∧ z1257 ≤ 255) : 1 ≤ z1257 ∧ z1257 ≤ 1 := by omega
theorem vc_X12_attributes_47 {z1567 : Int} (h0 : z1567 = 0) (h1 : 0 ≤ z1567 ∧ z1567 ≤ 1) : 0 ≤ z1567 ∧ z1567 ≤ 0 := by omega
theorem vc_X12_attributes_48  : (960 : Int) ≤ (962 : Int) ∧ (963 : Int) ≤ (1000 : Int) := by omega
theorem vc_X12_attributes_49 {z1567 : Int} (h0 : ¬ z1567 = 0) (h1 : 0 ≤ z1567 ∧ z1567 ≤ 1) : 1 ≤ z1567 ∧ z1567 ≤ 1 := by omega
theorem vc_X12_attributes_50 {z1257 : Int} (h0 : z1257 = 8) (h1 : ¬ z1257 = 1) (h2 : ¬ z1257 = 2) (h3 : ¬ z1257 = 4) (h4 : 0 ≤ z1257 ∧ z1257 ≤ 255) : 8 ≤ z1257 ∧ z1257 ≤ 8 := by omega
theorem vc_X12_attributes_51 {z1264 : Int} (h0 : ¬ z1264 = 0) (h1 : 0 ≤ z1264 ∧ z1264 ≤ 1) : 1 ≤ z1264 ∧ z1264 ≤ 1 := by omega
theorem vc_X12_attributes_52 {f_c f_size p2 z1201 z1231 z1245 z1262 : Int} (h0 : 3 * f_c ≤ z1201) (h1 : z1201 < p2) (h2 : (z1201 + z1231) ≤ p2) (h3 : ((z1201 + z1231) + z1245) ≤ p2) (h4 : z1262 = z1245) (h5 : p2 ≤ f_size) (h6 : 0 ≤ f_c ∧ f_c ≤ 400) (h7 : 0 ≤ f_size ∧ f_size ≤ 1000) (h8 : 3 ≤ p2 ∧ p2 ≤ 1000) (h9 : 0 ≤ z1201 ∧ z1201 ≤ 997) (h10 : 3 ≤ z1231 ∧ z1231 ≤ 4) (h11 : 0 ≤ z1245 ∧ z1245 ≤ 997) (h12 : 0 ≤ z1262 ∧ z1262 ≤ 997) : 0 ≤ ((z1201 + z1231) + z1262) ∧ ((z1201 + z1231) + z1262) ≤ 1002 := by omega
theorem vc_X12_attributes_53 {f_c f_size p2 z1201 z1231 z1245 z1262 : Int} (h0 : 3 * f_c ≤ z1201) (h1 : z1201 < p2) (h2 : (z1201 + z1231) ≤ p2) (h3 : ((z1201 + z1231) + z1245) ≤ p2) (h4 : z1262 = z1245) (h5 : p2 ≤ f_size) (h6 : 0 ≤ f_c ∧ f_c ≤ 400) (h7 : 0 ≤ f_size ∧ f_size ≤ 1000) (h8 : 3 ≤ p2 ∧ p2 ≤ 1000) (h9 : 0 ≤ z1201 ∧ z1201 ≤ 997) (h10 : 3 ≤ z1231 ∧ z1231 ≤ 4) (h11 : 0 ≤ z1245 ∧ z1245 ≤ 997) (h12 : 0 ≤ z1262 ∧ z1262 ≤ 997) : 3 * f_c ≤ ((z1201 + z1231) + z1262) := by omega
theorem vc_X12_attributes_54 {N f_c f_size p2 z1201 z1231 z1245 z1262 : Int} (h0 : (1003 - z1201) < N + 1) (h1 : 3 * f_c ≤ z1201) (h2 : z1201 < p2) (h3 : (z1201 + z1231) ≤ p2) (h4 : ((z1201 + z1231) + z1245) ≤ p2) (h5 : z1262 = z1245) (h6 : p2 ≤ f_size) (h7 : 0 ≤ f_c ∧ f_c ≤ 400) (h8 : 0 ≤ f_size ∧ f_size ≤ 1000) (h9 : 3 ≤ p2 ∧ p2 ≤ 1000) (h10 : 0 ≤ z1201 ∧ z1201 ≤ 997) (h11 : 3 ≤ z1231 ∧ z1231 ≤ 4) (h12 : 0 ≤ z1245 ∧ z1245 ≤ 997) (h13 : 0 ≤ z1262 ∧ z1262 ≤ 997) : (1003 - ((z1201 + z1231) + z1262)) < N := by omega
theorem vc_X12_attributes_55 {z1226 : Int} (h0 : z1226 = 0) (h1 : 0 ≤ z1226 ∧ z1226 ≤ 1) : 0 ≤ z1226 ∧ z1226 ≤ 0 := by omega
theorem vc_X12_attributes_56 {z1226 : Int} (h0 : ¬ z1226 = 0) (h1 : 0 ≤ z1226 ∧ z1226 ≤ 1) : 1 ≤ z1226 ∧ z1226 ≤ 1 := by omega
theorem vc_X12_attributes_57 {z1221 : Int} (h0 : z1221 = 0) (h1 : 0 ≤ z1221 ∧ z1221 ≤ 16) : 0 ≤ z1221 ∧ z1221 ≤ 0 := by omega
theorem vc_X12_attributes_58 {z1221 : Int} (h0 : ¬ z1221 = 0) (h1 : 0 ≤ z1221 ∧ z1221 ≤ 16) : 1 ≤ z1221 ∧ z1221 ≤ 16 := by omega
theorem vc_X12_attributes_59 {f_c0 p1 : Int} (h0 : 3 * f_c0 ≤ p1) (h1 : 0 ≤ f_c0 ∧ f_c0 ≤ 400) (h2 : 0 ≤ p1 ∧ p1 ≤ 1002) : 3 * f_c0 ≤ p1 := by omega
theorem vc_X12_attributes_60 {f_c0 p1 : Int} (h0 : 3 * f_c0 ≤ p1) (h1 : 0 ≤ f_c0 ∧ f_c0 ≤ 400) (h2 : 0 ≤ p1 ∧ p1 ≤ 1002) : (1003 - p1) < ((1004 : Nat) : Int) := by omega
set_option maxRecDepth 4000 in
set_option maxHeartbeats 4000000 in
theorem c_X12_attributes {l : Launch} {D : va_G} {c : Nat → ClassId} {H0 : Heap} {sa : Nat × Nat × (Nat → Int32)} {w : mW} {μ : mM} (hw : mWF w) (hT : mT w μ) {p1 : Int} (hp1 : 0 ≤ p1 ∧ p1 ≤ 1002) {p2 : Int} (hp2 : 0 ≤ p2 ∧ p2 ≤ 1000) {f_size : Int} (q_f_size : μ 106 1 = f_size) {f_c0 : Int} (q_f_c0 : μ 106 93 = f_c0) (hq0 : p2 ≤ f_size) (hq1 : 3 * f_c0 ≤ p1) : sC (gG l D c H0 sa) mX12_attributes 4 0 0 [.ref 106, iv p1, iv p2] (mk w μ) (qV w [106093, 106098, 106099, 106101, 126999, 170999, 171999, 172999, 173999] μ (fun μ1 => mG [(960, 1000)] μ μ1 ∧ True)) := by
  refine sC.of rfl (by decide) (le_t rfl) ?_
  have ht_f_size : (0 ≤ f_size ∧ f_size ≤ 1000) := by rw [← q_f_size]; exact hT 106 106 (A_106 hw) 1
  have ht_f_c0 : (0 ≤ f_c0 ∧ f_c0 ≤ 400) := by rw [← q_f_c0]; exact hT 106 106 (A_106 hw) 93
  refine mr_lvE (lv' := [(0, .ref 106), (1, iv p1), (2, iv p2)]) rfl ?_
  refine mr_iload_n (pc := 0) (z := p1) dX12_attributes_0 rfl rfl ?_
  refine mr_istore_n (pc := 1) (lv' := [(3, iv p1), (0, .ref 106), (1, iv p1), (2, iv p2)]) dX12_attributes_1 rfl (by decide) rfl ?_
  have L1203 : ∀ (nL1203 : Nat) (z1201 : Int) (μ1202 : mM) (f_c : Int), mT w μ1202 → mF [106093, 106098, 106099, 106101, 126999, 170999, 171999, 172999, 173999] w μ μ1202 → mG [(960, 1000)] μ μ1202 → μ1202 106 (93) = f_c → (0 ≤ z1201 ∧ z1201 ≤ 1002) → (3 * f_c ≤ z1201) → (1003 - z1201) < (nL1203 : Int) → sV (gG l D c H0 sa) mX12_attributes (sRm 4 0 0) (sZ (gG l D c H0 sa) 0 0 (qV w [106093, 106098, 106099, 106101, 126999, 170999, 171999, 172999, 173999] μ (fun μ1 => mG [(960, 1000)] μ μ1 ∧ True))) 2 [(0, .ref 106), (2, iv p2), (3, iv z1201)] [] (mk w μ1202) 0 0 := by
    intro nL1203
    induction nL1203 with
    | zero => intro z1201 μ1202 f_c T1205 F1206 G1207 q1210 h1204 h1208 h1209; exact ((vc_X12_attributes_1 h1209 h1208 h1204)).elim
    | succ nL1203 ih1211 =>
      intro z1201 μ1202 f_c T1205 F1206 G1207 q1210 h1204 h1208 h1209
      have h1212 : (0 ≤ f_c ∧ f_c ≤ 400) := by rw [← q1210]; exact T1205 106 106 (A_106 hw) (93)
      refine mr_iload_n (pc := 2) (z := z1201) dX12_attributes_2 rfl rfl ?_
      refine mr_iload_n (pc := 3) (z := p2) dX12_attributes_3 rfl rfl ?_
      refine mr_icmp_ge (pc := 4) (tgt := 345) dX12_attributes_4 (by decide) (r32 h1204 rfl) (r32 hp2 rfl) (fun h1213 => ?_) (fun h1213 => ?_)
      · exact mr_vret dX12_attributes_345 rfl (le_t rfl) (le_t rfl) T1205 (mF.call mF.refl F1206 rfl) ⟨(mG.call mG.refl G1207 (List.forall_mem_cons.mpr ⟨⟨_, List.mem_cons_self, vc_X12_attributes_2⟩, (fun _ h => absurd h List.not_mem_nil)⟩)), trivial⟩
      have h1214 : 0 ≤ z1201 ∧ z1201 ≤ 999 := (vc_X12_attributes_3 h1213 hq0 h1208 h1212 ht_f_size hp2 h1204)
      have h1215 : 1 ≤ p2 ∧ p2 ≤ 1000 := (vc_X12_attributes_4 h1213 hq0 h1208 h1212 ht_f_size hp2 h1214)
      refine sv_aload_n (pc := 7) dX12_attributes_7 rfl rfl ?_
      refine mr_iload_n (pc := 8) (z := z1201) dX12_attributes_8 rfl rfl ?_
      refine mr_cVP (pc := 9) (c_X12_byteAt_f hw T1205 (rW (c := 0) (d := 2147483647) h1214 rfl) (F1206.f (A_106 hw) rfl q_f_size) (vc_X12_attributes_5 hq0 h1208 h1213 h1212 ht_f_size h1215 h1214)) (gOk _ _ _ _ _) dX12_attributes_9 (tX12_byteAt _ _ _ _ _) ⟨wV_X12_byteAt, wL_X12_byteAt⟩ wM_X12_227 (gCX12 _ _ _ _ _) rfl (A_106 hw) rfl ⟨le_t rfl, le_t rfl⟩ ⟨le_t rfl, le_t rfl⟩ rfl (le_t rfl) fun z1220 h1219 => ?_
      refine mr_bipush (pc := 12) (z := 16) dX12_attributes_12 (by decide) ?_
      refine mr_iand (pc := 14) (x := z1220) (y := 16) dX12_attributes_14 ?_
      refine mr_gen (P := fun z => 0 ≤ z ∧ z ≤ 16) (rAndR (rR (x := 16)) rfl) fun z1221 q1222 h1223 => ?_
      have J1228 : ∀ (z1226 : Int), ((0 ≤ z1226 ∧ z1226 ≤ 1)) → sV (gG l D c H0 sa) mX12_attributes (sRm 4 0 0) (sZ (gG l D c H0 sa) 0 0 (qV w [106093, 106098, 106099, 106101, 126999, 170999, 171999, 172999, 173999] μ (fun μ1 => mG [(960, 1000)] μ μ1 ∧ True))) 23 [(0, .ref 106), (2, iv p2), (3, iv z1201)] [iv z1226] (mk w μ1202) 0 0 := by
        intro z1226 h1227
        refine mr_istore (pc := 23) (lv' := [(4, iv z1226), (0, .ref 106), (2, iv p2), (3, iv z1201)]) dX12_attributes_23 (by decide) rfl ?_
        refine mr_iload (pc := 25) (z := z1226) dX12_attributes_25 rfl ?_
        have J1233 : ∀ (z1231 : Int), ((3 ≤ z1231 ∧ z1231 ≤ 4)) → sV (gG l D c H0 sa) mX12_attributes (sRm 4 0 0) (sZ (gG l D c H0 sa) 0 0 (qV w [106093, 106098, 106099, 106101, 126999, 170999, 171999, 172999, 173999] μ (fun μ1 => mG [(960, 1000)] μ μ1 ∧ True))) 35 [(0, .ref 106), (2, iv p2), (3, iv z1201)] [iv z1231] (mk w μ1202) 0 0 := by
          intro z1231 h1232
          refine mr_istore (pc := 35) (lv' := [(5, iv z1231), (0, .ref 106), (2, iv p2), (3, iv z1201)]) dX12_attributes_35 (by decide) rfl ?_
          refine mr_iload_n (pc := 37) (z := z1201) dX12_attributes_37 rfl rfl ?_
          refine mr_iload (pc := 38) (z := z1231) dX12_attributes_38 rfl ?_
          refine mr_iadd (pc := 40) (x := z1201) (y := z1231) dX12_attributes_40 ?_
          refine mr_iload_n (pc := 41) (z := p2) dX12_attributes_41 rfl rfl ?_
          refine mr_icmp_gt (pc := 42) (tgt := 65) dX12_attributes_42 (by decide) (r32 (rAdd (e := 3) (f := 1003) h1214 h1232 rfl) rfl) (r32 h1215 rfl) (fun h1234 => ?_) (fun h1234 => ?_)
          · refine sv_aload_n (pc := 65) dX12_attributes_65 rfl rfl ?_
            refine mr_iconst (pc := 66) (z := 2) dX12_attributes_66 ?_
            refine mr_iload_n (pc := 67) (z := z1201) dX12_attributes_67 rfl rfl ?_
            refine mr_cVV (pc := 68) (c_X12_fails hw T1205 (rW (c := 0) (d := 3) (rR (x := 2)) rfl) (rW (c := (-2147483648)) (d := 2147483647) h1214 rfl)) (gOk _ _ _ _ _) dX12_attributes_68 (tX12_fails _ _ _ _ _) ⟨wV_X12_fails, wL_X12_fails⟩ wM_X12_620 (gCX12 _ _ _ _ _) rfl (A_106 hw) rfl ⟨le_t rfl, le_t rfl⟩ ⟨le_t rfl, le_t rfl⟩ rfl (le_t rfl) fun μ1235 T1236 F1237 h1238 => ?_
            exact mr_vret dX12_attributes_71 rfl (le_t rfl) (le_t rfl) T1236 (mF.call (mF.call mF.refl F1206 rfl) F1237 rfl) ⟨(mG.fr (mG.call mG.refl G1207 (List.forall_mem_cons.mpr ⟨⟨_, List.mem_cons_self, vc_X12_attributes_2⟩, (fun _ h => absurd h List.not_mem_nil)⟩)) F1237 (A_126 hw) rfl), trivial⟩
          have h1239 : 0 ≤ z1201 ∧ z1201 ≤ 997 := (vc_X12_attributes_6 h1234 hq0 h1208 h1213 h1212 ht_f_size h1215 h1214 h1232)
          have h1240 : 3 ≤ p2 ∧ p2 ≤ 1000 := (vc_X12_attributes_7 h1234 hq0 h1208 h1213 h1212 ht_f_size h1215 h1239 h1232)
          refine mr_iload_n (pc := 45) (z := z1201) dX12_attributes_45 rfl rfl ?_
          refine mr_iload (pc := 46) (z := z1231) dX12_attributes_46 rfl ?_
          refine mr_iadd (pc := 48) (x := z1201) (y := z1231) dX12_attributes_48 ?_
          refine sv_aload_n (pc := 49) dX12_attributes_49 rfl rfl ?_
          refine mr_iload_n (pc := 50) (z := z1201) dX12_attributes_50 rfl rfl ?_
          refine mr_iconst (pc := 51) (z := 2) dX12_attributes_51 ?_
          refine mr_iadd (pc := 52) (x := z1201) (y := 2) dX12_attributes_52 ?_
          refine mr_iload (pc := 53) (z := z1231) dX12_attributes_53 rfl ?_
          refine mr_iconst (pc := 55) (z := 2) dX12_attributes_55 ?_
          refine mr_isub (pc := 56) (x := z1231) (y := 2) dX12_attributes_56 ?_
          refine mr_cVP (pc := 57) (c_X12_number_f2 hw T1205 (rW (c := 0) (d := 1000) (rAdd (e := 2) (f := 999) h1239 (rR (x := 2)) rfl) rfl) (rW (c := 0) (d := 2) (rSub (e := 1) (f := 2) h1232 (rR (x := 2)) rfl) rfl) (F1206.f (A_106 hw) rfl q_f_size) (vc_X12_attributes_8 hq0 h1208 h1213 h1234 h1212 ht_f_size h1240 h1239 h1232)) (gOk _ _ _ _ _) dX12_attributes_57 (tX12_number _ _ _ _ _) ⟨wV_X12_number, wL_X12_number⟩ wM_X12_623 (gCX12 _ _ _ _ _) rfl (A_106 hw) rfl ⟨le_t rfl, le_t rfl⟩ ⟨le_t rfl, le_t rfl⟩ rfl (le_t rfl) fun z1245 h1244 => ?_
          refine mr_iadd (pc := 60) (x := (z1201 + z1231)) (y := z1245) dX12_attributes_60 ?_
          refine mr_iload_n (pc := 61) (z := p2) dX12_attributes_61 rfl rfl ?_
          refine mr_icmp_le (pc := 62) (tgt := 72) dX12_attributes_62 (by decide) (r32 (rAdd (e := 3) (f := 66536) (rAdd (e := 3) (f := 1001) h1239 h1232 rfl) h1244.1 rfl) rfl) (r32 h1240 rfl) (fun h1246 => ?_) (fun h1246 => ?_)
          · have h1247 : 0 ≤ z1245 ∧ z1245 ≤ 997 := (vc_X12_attributes_9 h1246 hq0 h1208 h1213 h1234 h1212 ht_f_size h1240 h1239 h1232 h1244.1)
            refine sv_aload_n (pc := 72) dX12_attributes_72 rfl rfl ?_
            refine mr_iload_n (pc := 73) (z := z1201) dX12_attributes_73 rfl rfl ?_
            refine mr_cVP (pc := 74) (c_X12_byteAt_f hw T1205 (rW (c := 0) (d := 2147483647) h1239 rfl) (F1206.f (A_106 hw) rfl q_f_size) (vc_X12_attributes_10 hq0 h1208 h1213 h1234 h1246 h1212 ht_f_size h1240 h1239 h1232 h1247)) (gOk _ _ _ _ _) dX12_attributes_74 (tX12_byteAt _ _ _ _ _) ⟨wV_X12_byteAt, wL_X12_byteAt⟩ wM_X12_227 (gCX12 _ _ _ _ _) rfl (A_106 hw) rfl ⟨le_t rfl, le_t rfl⟩ ⟨le_t rfl, le_t rfl⟩ rfl (le_t rfl) fun z1252 h1251 => ?_
            refine mr_istore (pc := 77) (lv' := [(6, iv z1252), (5, iv z1231), (0, .ref 106), (2, iv p2), (3, iv z1201)]) dX12_attributes_77 (by decide) rfl ?_
            refine sv_aload_n (pc := 79) dX12_attributes_79 rfl rfl ?_
            refine mr_iload_n (pc := 80) (z := z1201) dX12_attributes_80 rfl rfl ?_
            refine mr_iconst (pc := 81) (z := 1) dX12_attributes_81 ?_
            refine mr_iadd (pc := 82) (x := z1201) (y := 1) dX12_attributes_82 ?_
            refine mr_cVP (pc := 83) (c_X12_byteAt_f hw T1205 (rW (c := 0) (d := 2147483647) (rAdd (e := 1) (f := 998) h1239 (rR (x := 1)) rfl) rfl) (F1206.f (A_106 hw) rfl q_f_size) (vc_X12_attributes_11 hq0 h1208 h1213 h1234 h1246 h1212 ht_f_size h1240 h1239 h1232 h1247)) (gOk _ _ _ _ _) dX12_attributes_83 (tX12_byteAt _ _ _ _ _) ⟨wV_X12_byteAt, wL_X12_byteAt⟩ wM_X12_227 (gCX12 _ _ _ _ _) rfl (A_106 hw) rfl ⟨le_t rfl, le_t rfl⟩ ⟨le_t rfl, le_t rfl⟩ rfl (le_t rfl) fun z1257 h1256 => ?_
            refine mr_istore (pc := 86) (lv' := [(7, iv z1257), (6, iv z1252), (5, iv z1231), (0, .ref 106), (2, iv p2), (3, iv z1201)]) dX12_attributes_86 (by decide) rfl ?_
            refine sv_aload_n (pc := 88) dX12_attributes_88 rfl rfl ?_
            refine mr_iload_n (pc := 89) (z := z1201) dX12_attributes_89 rfl rfl ?_
            refine mr_iconst (pc := 90) (z := 2) dX12_attributes_90 ?_
            refine mr_iadd (pc := 91) (x := z1201) (y := 2) dX12_attributes_91 ?_
            refine mr_iload (pc := 92) (z := z1231) dX12_attributes_92 rfl ?_
            refine mr_iconst (pc := 94) (z := 2) dX12_attributes_94 ?_
            refine mr_isub (pc := 95) (x := z1231) (y := 2) dX12_attributes_95 ?_
            refine mr_cVP (pc := 96) (c_X12_number_f2 hw T1205 (rW (c := 0) (d := 1000) (rAdd (e := 2) (f := 999) h1239 (rR (x := 2)) rfl) rfl) (rW (c := 0) (d := 2) (rSub (e := 1) (f := 2) h1232 (rR (x := 2)) rfl) rfl) (F1206.f (A_106 hw) rfl q_f_size) (vc_X12_attributes_12 hq0 h1208 h1213 h1234 h1246 h1212 ht_f_size h1240 h1239 h1232 h1247)) (gOk _ _ _ _ _) dX12_attributes_96 (tX12_number _ _ _ _ _) ⟨wV_X12_number, wL_X12_number⟩ wM_X12_623 (gCX12 _ _ _ _ _) rfl (A_106 hw) rfl ⟨le_t rfl, le_t rfl⟩ ⟨le_t rfl, le_t rfl⟩ rfl (le_t rfl) fun z1262 h1261 => ?_
            have h1263 : 0 ≤ z1262 ∧ z1262 ≤ 997 := (vc_X12_attributes_13 (h1261.2.1.trans h1244.2.1.symm) h1246 h1240 h1239 h1232 h1247 h1261.1)
            refine mr_istore (pc := 99) (lv' := [(8, iv z1262), (7, iv z1257), (6, iv z1252), (5, iv z1231), (0, .ref 106), (2, iv p2), (3, iv z1201)]) dX12_attributes_99 (by decide) rfl ?_
            refine mr_iload_n (pc := 101) (z := z1201) dX12_attributes_101 rfl rfl ?_
            refine mr_iload (pc := 102) (z := z1231) dX12_attributes_102 rfl ?_
            refine mr_iadd (pc := 104) (x := z1201) (y := z1231) dX12_attributes_104 ?_
            refine mr_istore (pc := 105) (lv' := [(9, iv (z1201 + z1231)), (8, iv z1262), (7, iv z1257), (6, iv z1252), (5, iv z1231), (0, .ref 106), (2, iv p2), (3, iv z1201)]) dX12_attributes_105 (by decide) rfl ?_
            refine sv_aload_n (pc := 107) dX12_attributes_107 rfl rfl ?_
            refine gf_X12_94 (pc := 108) dX12_attributes_108 wF_X12_475 (A_106 hw) T1205 ?_
            refine mr_iload (pc := 111) (z := z1257) dX12_attributes_111 rfl ?_
            refine la_171 (pc := 113) dX12_attributes_113 (A_171 hw) T1205 (rIx (n := 256) h1256.1 rfl) fun z1264 q1265 h1266 => ?_
            refine mr_if_eq (pc := 114) (tgt := 126) dX12_attributes_114 (by decide) (r32 h1266 rfl) (fun h1360 => ?_) (fun h1360 => ?_)
            · have h1361 : 0 ≤ z1264 ∧ z1264 ≤ 0 := (vc_X12_attributes_14 h1360 h1266)
              refine sv_aload_n (pc := 126) dX12_attributes_126 rfl rfl ?_
              refine gf_X12_94 (pc := 127) dX12_attributes_127 wF_X12_475 (A_106 hw) T1205 ?_
              refine mr_iload (pc := 130) (z := z1257) dX12_attributes_130 rfl ?_
              refine mr_iconst (pc := 132) (z := 1) dX12_attributes_132 ?_
              refine ss_171 (pc := 133) dX12_attributes_133 (A_171 hw) T1205 (rIx (n := 256) h1256.1 rfl) (rW (c := 0) (d := 1) (rR (x := 1)) rfl) fun μ1362 u1363 T1364 => ?_
              refine mr_iload (pc := 134) (z := z1257) dX12_attributes_134 rfl ?_
              refine mr_iconst (pc := 136) (z := 1) dX12_attributes_136 ?_
              have J1371 : ∀ (z1369 : Int), (((-1) ≤ z1369 ∧ z1369 ≤ 192)) → sV (gG l D c H0 sa) mX12_attributes (sRm 4 0 0) (sZ (gG l D c H0 sa) 0 0 (qV w [106093, 106098, 106099, 106101, 126999, 170999, 171999, 172999, 173999] μ (fun μ1 => mG [(960, 1000)] μ μ1 ∧ True))) 177 [(0, .ref 106), (2, iv p2), (3, iv z1201), (6, iv z1252), (7, iv z1257), (8, iv z1262), (9, iv (z1201 + z1231))] [iv z1369] (mk w μ1362) 0 0 := by
                intro z1369 h1370
                refine mr_istore (pc := 177) (lv' := [(10, iv z1369), (0, .ref 106), (2, iv p2), (3, iv z1201), (6, iv z1252), (7, iv z1257), (8, iv z1262), (9, iv (z1201 + z1231))]) dX12_attributes_177 (by decide) rfl ?_
                refine mr_iload (pc := 179) (z := z1369) dX12_attributes_179 rfl ?_
                have J1442 : ∀ (z1435 : Int) (μ1437 : mM), (mT w μ1437) → (mF [106093, 106098, 106099, 106101, 126999, 170999, 173999] w μ1362 μ1437) → (mG [(960, 1000)] μ1362 μ1437) → ((0 ≤ z1435 ∧ z1435 ≤ 1)) → ((3 * μ1437 106 (93) ≤ (z1201 + z1231))) → sV (gG l D c H0 sa) mX12_attributes (sRm 4 0 0) (sZ (gG l D c H0 sa) 0 0 (qV w [106093, 106098, 106099, 106101, 126999, 170999, 171999, 172999, 173999] μ (fun μ1 => mG [(960, 1000)] μ μ1 ∧ True))) 325 [(0, .ref 106), (2, iv p2), (3, iv z1201), (8, iv z1262), (9, iv (z1201 + z1231)), (11, iv z1435)] [] (mk w μ1437) 0 0 := by
                  intro z1435 μ1437 T1438 F1439 G1440 h1436 h1441
                  obtain ⟨z1443, q1444⟩ : ∃ z, μ1437 106 93 = z := ⟨_, rfl⟩
                  have h1445 : (0 ≤ z1443 ∧ z1443 ≤ 400) := by rw [← q1444]; exact T1438 106 106 (A_106 hw) 93
                  have h1446 : 3 * z1443 ≤ (z1201 + z1231) := q1444 ▸ h1441
                  refine mr_iload (pc := 325) (z := z1435) dX12_attributes_325 rfl ?_
                  refine mr_if_ne (pc := 327) (tgt := 336) dX12_attributes_327 (by decide) (r32 h1436 rfl) (fun h1453 => ?_) (fun h1453 => ?_)
                  · have h1454 : 1 ≤ z1435 ∧ z1435 ≤ 1 := (vc_X12_attributes_15 h1453 h1436)
                    refine mr_iload (pc := 336) (z := (z1201 + z1231)) dX12_attributes_336 rfl ?_
                    refine mr_iload (pc := 338) (z := z1262) dX12_attributes_338 rfl ?_
                    refine mr_iadd (pc := 340) (x := (z1201 + z1231)) (y := z1262) dX12_attributes_340 ?_
                    refine mr_istore_n (pc := 341) (lv' := [(3, iv ((z1201 + z1231) + z1262)), (0, .ref 106), (2, iv p2), (8, iv z1262), (9, iv (z1201 + z1231)), (11, iv z1435)]) dX12_attributes_341 rfl (by decide) rfl ?_
                    refine sv_goto (pc := 342) (tgt := 2) dX12_attributes_342 (by decide) ?_
                    refine mr_lvS (lv' := [(0, .ref 106), (2, iv p2), (3, iv ((z1201 + z1231) + z1262))]) (List.forall_mem_cons.mpr ⟨rfl, List.forall_mem_cons.mpr ⟨rfl, List.forall_mem_cons.mpr ⟨rfl, fun _ h => absurd h List.not_mem_nil⟩⟩⟩) ?_
                    exact ih1211 ((z1201 + z1231) + z1262) μ1437 z1443 T1438 (mF.call (mF.up (mF.call mF.refl F1206 rfl) (A_171 hw) u1363 rfl) F1439 rfl) (mG.call (mG.upO (mG.call mG.refl G1207 (List.forall_mem_cons.mpr ⟨⟨_, List.mem_cons_self, vc_X12_attributes_2⟩, (fun _ h => absurd h List.not_mem_nil)⟩)) u1363 rfl) G1440 (List.forall_mem_cons.mpr ⟨⟨_, List.mem_cons_self, vc_X12_attributes_2⟩, (fun _ h => absurd h List.not_mem_nil)⟩)) q1444 (vc_X12_attributes_16 h1208 h1213 h1234 h1246 (h1261.2.1.trans h1244.2.1.symm) h1446 hq0 h1212 ht_f_size h1240 h1239 h1232 h1247 h1263 h1445) (vc_X12_attributes_17 h1208 h1213 h1234 h1246 (h1261.2.1.trans h1244.2.1.symm) h1446 hq0 h1212 ht_f_size h1240 h1239 h1232 h1247 h1263 h1445) (vc_X12_attributes_18 (nS h1209) h1208 h1213 h1234 h1246 (h1261.2.1.trans h1244.2.1.symm) h1446 hq0 h1212 ht_f_size h1240 h1239 h1232 h1247 h1263 h1445)
                  have h1455 : 0 ≤ z1435 ∧ z1435 ≤ 0 := (vc_X12_attributes_19 h1453 h1436)
                  refine sv_aload_n (pc := 330) dX12_attributes_330 rfl rfl ?_
                  refine mr_iconst (pc := 331) (z := 2) dX12_attributes_331 ?_
                  refine mr_iload_n (pc := 332) (z := z1201) dX12_attributes_332 rfl rfl ?_
                  refine mr_cVV (pc := 333) (c_X12_fails hw T1438 (rW (c := 0) (d := 3) (rR (x := 2)) rfl) (rW (c := (-2147483648)) (d := 2147483647) h1239 rfl)) (gOk _ _ _ _ _) dX12_attributes_333 (tX12_fails _ _ _ _ _) ⟨wV_X12_fails, wL_X12_fails⟩ wM_X12_620 (gCX12 _ _ _ _ _) rfl (A_106 hw) rfl ⟨le_t rfl, le_t rfl⟩ ⟨le_t rfl, le_t rfl⟩ rfl (le_t rfl) fun μ1456 T1457 F1458 h1459 => ?_
                  refine mr_iload (pc := 336) (z := (z1201 + z1231)) dX12_attributes_336 rfl ?_
                  refine mr_iload (pc := 338) (z := z1262) dX12_attributes_338 rfl ?_
                  refine mr_iadd (pc := 340) (x := (z1201 + z1231)) (y := z1262) dX12_attributes_340 ?_
                  refine mr_istore_n (pc := 341) (lv' := [(3, iv ((z1201 + z1231) + z1262)), (0, .ref 106), (2, iv p2), (8, iv z1262), (9, iv (z1201 + z1231)), (11, iv z1435)]) dX12_attributes_341 rfl (by decide) rfl ?_
                  refine sv_goto (pc := 342) (tgt := 2) dX12_attributes_342 (by decide) ?_
                  refine mr_lvS (lv' := [(0, .ref 106), (2, iv p2), (3, iv ((z1201 + z1231) + z1262))]) (List.forall_mem_cons.mpr ⟨rfl, List.forall_mem_cons.mpr ⟨rfl, List.forall_mem_cons.mpr ⟨rfl, fun _ h => absurd h List.not_mem_nil⟩⟩⟩) ?_
                  exact ih1211 ((z1201 + z1231) + z1262) μ1456 z1443 T1457 (mF.call (mF.call (mF.up (mF.call mF.refl F1206 rfl) (A_171 hw) u1363 rfl) F1439 rfl) F1458 rfl) (mG.fr (mG.call (mG.upO (mG.call mG.refl G1207 (List.forall_mem_cons.mpr ⟨⟨_, List.mem_cons_self, vc_X12_attributes_2⟩, (fun _ h => absurd h List.not_mem_nil)⟩)) u1363 rfl) G1440 (List.forall_mem_cons.mpr ⟨⟨_, List.mem_cons_self, vc_X12_attributes_2⟩, (fun _ h => absurd h List.not_mem_nil)⟩)) F1458 (A_126 hw) rfl) (F1458.f (A_106 hw) rfl q1444) (vc_X12_attributes_16 h1208 h1213 h1234 h1246 (h1261.2.1.trans h1244.2.1.symm) h1446 hq0 h1212 ht_f_size h1240 h1239 h1232 h1247 h1263 h1445) (vc_X12_attributes_17 h1208 h1213 h1234 h1246 (h1261.2.1.trans h1244.2.1.symm) h1446 hq0 h1212 ht_f_size h1240 h1239 h1232 h1247 h1263 h1445) (vc_X12_attributes_18 (nS h1209) h1208 h1213 h1234 h1246 (h1261.2.1.trans h1244.2.1.symm) h1446 hq0 h1212 ht_f_size h1240 h1239 h1232 h1247 h1263 h1445)
                refine mr_if_lt (pc := 181) (tgt := 275) dX12_attributes_181 (by decide) (r32 h1370 rfl) (fun h1460 => ?_) (fun h1460 => ?_)
                · have h1461 : (-1) ≤ z1369 ∧ z1369 ≤ (-1) := (vc_X12_attributes_20 h1460 h1370)
                  refine mr_iload (pc := 275) (z := z1252) dX12_attributes_275 rfl ?_
                  refine mr_sipush (pc := 277) (z := 128) dX12_attributes_277 (by decide) ?_
                  refine mr_iand (pc := 280) (x := z1252) (y := 128) dX12_attributes_280 ?_
                  refine mr_gen (P := fun z => 0 ≤ z ∧ z ≤ 128) (rAndR (rR (x := 128)) rfl) fun z1462 q1463 h1464 => ?_
                  have J1469 : ∀ (z1467 : Int), ((0 ≤ z1467 ∧ z1467 ≤ 1)) → sV (gG l D c H0 sa) mX12_attributes (sRm 4 0 0) (sZ (gG l D c H0 sa) 0 0 (qV w [106093, 106098, 106099, 106101, 126999, 170999, 171999, 172999, 173999] μ (fun μ1 => mG [(960, 1000)] μ μ1 ∧ True))) 289 [(0, .ref 106), (2, iv p2), (3, iv z1201), (6, iv z1252), (7, iv z1257), (8, iv z1262), (9, iv (z1201 + z1231))] [iv z1467] (mk w μ1362) 0 0 := by
                    intro z1467 h1468
                    refine mr_istore (pc := 289) (lv' := [(11, iv z1467), (0, .ref 106), (2, iv p2), (3, iv z1201), (6, iv z1252), (7, iv z1257), (8, iv z1262), (9, iv (z1201 + z1231))]) dX12_attributes_289 (by decide) rfl ?_
                    refine mr_iload (pc := 291) (z := z1467) dX12_attributes_291 rfl ?_
                    refine mr_if_eq (pc := 293) (tgt := 325) dX12_attributes_293 (by decide) (r32 h1468 rfl) (fun h1470 => ?_) (fun h1470 => ?_)
                    · have h1471 : 0 ≤ z1467 ∧ z1467 ≤ 0 := (vc_X12_attributes_21 h1470 h1468)
                      refine mr_lvS (lv' := [(0, .ref 106), (2, iv p2), (3, iv z1201), (8, iv z1262), (9, iv (z1201 + z1231)), (11, iv z1467)]) (List.forall_mem_cons.mpr ⟨rfl, List.forall_mem_cons.mpr ⟨rfl, List.forall_mem_cons.mpr ⟨rfl, List.forall_mem_cons.mpr ⟨rfl, List.forall_mem_cons.mpr ⟨rfl, List.forall_mem_cons.mpr ⟨rfl, fun _ h => absurd h List.not_mem_nil⟩⟩⟩⟩⟩⟩) ?_
                      exact J1442 z1467 μ1362 T1364 mF.refl mG.refl (rW (c := 0) (d := 1) h1471 rfl) (by rw [(u1363.f (Or.inl (mAt.ne (A_171 hw) (A_106 hw) rfl)) q1210)]; exact (vc_X12_attributes_22 h1208 h1213 h1234 h1246 hq0 (h1261.2.1.trans h1244.2.1.symm) h1212 ht_f_size h1240 h1239 h1232 h1247 h1263))
                    have h1472 : 1 ≤ z1467 ∧ z1467 ≤ 1 := (vc_X12_attributes_23 h1470 h1468)
                    refine mr_iload (pc := 296) (z := z1252) dX12_attributes_296 rfl ?_
                    refine mr_bipush (pc := 298) (z := 64) dX12_attributes_298 (by decide) ?_
                    refine mr_iand (pc := 300) (x := z1252) (y := 64) dX12_attributes_300 ?_
                    refine mr_gen (P := fun z => 0 ≤ z ∧ z ≤ 64) (rAndR (rR (x := 64)) rfl) fun z1473 q1474 h1475 => ?_
                    refine mr_if_eq (pc := 301) (tgt := 325) dX12_attributes_301 (by decide) (r32 h1475 rfl) (fun h1476 => ?_) (fun h1476 => ?_)
                    · have h1477 : 0 ≤ z1473 ∧ z1473 ≤ 0 := (vc_X12_attributes_24 h1476 h1475)
                      refine mr_lvS (lv' := [(0, .ref 106), (2, iv p2), (3, iv z1201), (8, iv z1262), (9, iv (z1201 + z1231)), (11, iv z1467)]) (List.forall_mem_cons.mpr ⟨rfl, List.forall_mem_cons.mpr ⟨rfl, List.forall_mem_cons.mpr ⟨rfl, List.forall_mem_cons.mpr ⟨rfl, List.forall_mem_cons.mpr ⟨rfl, List.forall_mem_cons.mpr ⟨rfl, fun _ h => absurd h List.not_mem_nil⟩⟩⟩⟩⟩⟩) ?_
                      exact J1442 z1467 μ1362 T1364 mF.refl mG.refl (rW (c := 0) (d := 1) h1472 rfl) (by rw [(u1363.f (Or.inl (mAt.ne (A_171 hw) (A_106 hw) rfl)) q1210)]; exact (vc_X12_attributes_22 h1208 h1213 h1234 h1246 hq0 (h1261.2.1.trans h1244.2.1.symm) h1212 ht_f_size h1240 h1239 h1232 h1247 h1263))
                    have h1478 : 1 ≤ z1473 ∧ z1473 ≤ 64 := (vc_X12_attributes_25 h1476 h1475)
                    refine sv_aload_n (pc := 304) dX12_attributes_304 rfl rfl ?_
                    refine gf_X12_92 (pc := 305) dX12_attributes_305 wF_X12_472 (A_106 hw) T1364 ?_
                    refine sv_aload_n (pc := 308) dX12_attributes_308 rfl rfl ?_
                    refine gk_X12_93 (pc := 309) dX12_attributes_309 wF_X12_652 (A_106 hw) (u1363.f (Or.inl (mAt.ne (A_171 hw) (A_106 hw) rfl)) q1210) ?_
                    refine mr_iload (pc := 312) (z := z1257) dX12_attributes_312 rfl ?_
                    refine ss_170 (pc := 314) dX12_attributes_314 (A_170 hw) T1364 (vc_X12_attributes_26 h1208 h1213 h1234 h1246 h1212 h1240 h1239 h1232 h1247) (rW (c := (-2147483648)) (d := 2147483647) h1256.1 rfl) fun μ1479 u1480 T1481 => ?_
                    refine sv_aload_n (pc := 315) dX12_attributes_315 rfl rfl ?_
                    refine sv_dup (pc := 316) dX12_attributes_316 rfl ?_
                    refine gk_X12_93 (pc := 317) dX12_attributes_317 wF_X12_652 (A_106 hw) (u1480.f (Or.inl (mAt.ne (A_170 hw) (A_106 hw) rfl)) (u1363.f (Or.inl (mAt.ne (A_171 hw) (A_106 hw) rfl)) q1210)) ?_
                    refine mr_iconst (pc := 320) (z := 1) dX12_attributes_320 ?_
                    refine mr_iadd (pc := 321) (x := f_c) (y := 1) dX12_attributes_321 ?_
                    refine pf_X12_93 (pc := 322) dX12_attributes_322 wF_X12_652 (A_106 hw) T1481 (vc_X12_attributes_27 h1208 h1213 h1234 h1246 h1212 h1240 h1239 h1232 h1247) fun μ1482 u1483 T1484 => ?_
                    refine mr_lvS (lv' := [(0, .ref 106), (2, iv p2), (3, iv z1201), (8, iv z1262), (9, iv (z1201 + z1231)), (11, iv z1467)]) (List.forall_mem_cons.mpr ⟨rfl, List.forall_mem_cons.mpr ⟨rfl, List.forall_mem_cons.mpr ⟨rfl, List.forall_mem_cons.mpr ⟨rfl, List.forall_mem_cons.mpr ⟨rfl, List.forall_mem_cons.mpr ⟨rfl, fun _ h => absurd h List.not_mem_nil⟩⟩⟩⟩⟩⟩) ?_
                    exact J1442 z1467 μ1482 T1484 (mF.up (mF.up mF.refl (A_170 hw) u1480 rfl) (A_106 hw) u1483 rfl) (mG.upO (mG.upO mG.refl u1480 rfl) u1483 rfl) (rW (c := 0) (d := 1) h1472 rfl) (by rw [u1483.1]; exact (vc_X12_attributes_28 h1208 h1213 h1234 h1246 hq0 (h1261.2.1.trans h1244.2.1.symm) h1212 ht_f_size h1240 h1239 h1232 h1247 h1263))
                  refine mr_if_eq (pc := 281) (tgt := 288) dX12_attributes_281 (by decide) (r32 h1464 rfl) (fun h1485 => ?_) (fun h1485 => ?_)
                  · have h1486 : 0 ≤ z1462 ∧ z1462 ≤ 0 := (vc_X12_attributes_29 h1485 h1464)
                    refine mr_iconst (pc := 288) (z := 0) dX12_attributes_288 ?_
                    refine mr_lvS (lv' := [(0, .ref 106), (2, iv p2), (3, iv z1201), (6, iv z1252), (7, iv z1257), (8, iv z1262), (9, iv (z1201 + z1231))]) (List.forall_mem_cons.mpr ⟨rfl, List.forall_mem_cons.mpr ⟨rfl, List.forall_mem_cons.mpr ⟨rfl, List.forall_mem_cons.mpr ⟨rfl, List.forall_mem_cons.mpr ⟨rfl, List.forall_mem_cons.mpr ⟨rfl, List.forall_mem_cons.mpr ⟨rfl, fun _ h => absurd h List.not_mem_nil⟩⟩⟩⟩⟩⟩⟩) ?_
                    exact J1469 0 (rW (c := 0) (d := 1) (rR (x := 0)) rfl)
                  have h1487 : 1 ≤ z1462 ∧ z1462 ≤ 128 := (vc_X12_attributes_30 h1485 h1464)
                  refine mr_iconst (pc := 284) (z := 1) dX12_attributes_284 ?_
                  refine sv_goto (pc := 285) (tgt := 289) dX12_attributes_285 (by decide) ?_
                  refine mr_lvS (lv' := [(0, .ref 106), (2, iv p2), (3, iv z1201), (6, iv z1252), (7, iv z1257), (8, iv z1262), (9, iv (z1201 + z1231))]) (List.forall_mem_cons.mpr ⟨rfl, List.forall_mem_cons.mpr ⟨rfl, List.forall_mem_cons.mpr ⟨rfl, List.forall_mem_cons.mpr ⟨rfl, List.forall_mem_cons.mpr ⟨rfl, List.forall_mem_cons.mpr ⟨rfl, List.forall_mem_cons.mpr ⟨rfl, fun _ h => absurd h List.not_mem_nil⟩⟩⟩⟩⟩⟩⟩) ?_
                  exact J1469 1 (rW (c := 0) (d := 1) (rR (x := 1)) rfl)
                have h1488 : 0 ≤ z1369 ∧ z1369 ≤ 192 := (vc_X12_attributes_31 h1460 h1370)
                refine mr_iload (pc := 184) (z := z1252) dX12_attributes_184 rfl ?_
                refine mr_bipush (pc := 186) (z := (-49)) dX12_attributes_186 (by decide) ?_
                refine mr_iand (pc := 188) (x := z1252) (y := (-49)) dX12_attributes_188 ?_
                refine mr_gen (P := fun z => 0 ≤ z ∧ z ≤ 255) (rAndL h1251.1 rfl) fun z1489 q1490 h1491 => ?_
                refine mr_iload (pc := 189) (z := z1369) dX12_attributes_189 rfl ?_
                have J1530 : ∀ (z1524 : Int) (μ1526 : mM), (mT w μ1526) → (mF [106098, 106099, 106101, 126999, 173999] w μ1362 μ1526) → (mG [(960, 1000)] μ1362 μ1526) → ((0 ≤ z1524 ∧ z1524 ≤ 1)) → sV (gG l D c H0 sa) mX12_attributes (sRm 4 0 0) (sZ (gG l D c H0 sa) 0 0 (qV w [106093, 106098, 106099, 106101, 126999, 170999, 171999, 172999, 173999] μ (fun μ1 => mG [(960, 1000)] μ μ1 ∧ True))) 270 [(0, .ref 106), (2, iv p2), (3, iv z1201), (8, iv z1262), (9, iv (z1201 + z1231))] [iv z1524] (mk w μ1526) 0 0 := by
                  intro z1524 μ1526 T1527 F1528 G1529 h1525
                  refine mr_istore (pc := 270) (lv' := [(11, iv z1524), (0, .ref 106), (2, iv p2), (3, iv z1201), (8, iv z1262), (9, iv (z1201 + z1231))]) dX12_attributes_270 (by decide) rfl ?_
                  refine sv_goto (pc := 272) (tgt := 325) dX12_attributes_272 (by decide) ?_
                  refine mr_lvS (lv' := [(0, .ref 106), (2, iv p2), (3, iv z1201), (8, iv z1262), (9, iv (z1201 + z1231)), (11, iv z1524)]) (List.forall_mem_cons.mpr ⟨rfl, List.forall_mem_cons.mpr ⟨rfl, List.forall_mem_cons.mpr ⟨rfl, List.forall_mem_cons.mpr ⟨rfl, List.forall_mem_cons.mpr ⟨rfl, List.forall_mem_cons.mpr ⟨rfl, fun _ h => absurd h List.not_mem_nil⟩⟩⟩⟩⟩⟩) ?_
                  exact J1442 z1524 μ1526 T1527 (mF.call mF.refl F1528 rfl) (mG.call mG.refl G1529 (List.forall_mem_cons.mpr ⟨⟨_, List.mem_cons_self, vc_X12_attributes_2⟩, (fun _ h => absurd h List.not_mem_nil)⟩)) h1525 (by rw [(F1528.f (A_106 hw) rfl (u1363.f (Or.inl (mAt.ne (A_171 hw) (A_106 hw) rfl)) q1210))]; exact (vc_X12_attributes_22 h1208 h1213 h1234 h1246 hq0 (h1261.2.1.trans h1244.2.1.symm) h1212 ht_f_size h1240 h1239 h1232 h1247 h1263))
                refine mr_icmp_ne (pc := 191) (tgt := 269) dX12_attributes_191 (by decide) (r32 h1491 rfl) (r32 h1488 rfl) (fun h1531 => ?_) (fun h1531 => ?_)
                · refine mr_iconst (pc := 269) (z := 0) dX12_attributes_269 ?_
                  refine mr_lvS (lv' := [(0, .ref 106), (2, iv p2), (3, iv z1201), (8, iv z1262), (9, iv (z1201 + z1231))]) (List.forall_mem_cons.mpr ⟨rfl, List.forall_mem_cons.mpr ⟨rfl, List.forall_mem_cons.mpr ⟨rfl, List.forall_mem_cons.mpr ⟨rfl, List.forall_mem_cons.mpr ⟨rfl, fun _ h => absurd h List.not_mem_nil⟩⟩⟩⟩⟩) ?_
                  exact J1530 0 μ1362 T1364 mF.refl mG.refl (rW (c := 0) (d := 1) (rR (x := 0)) rfl)
                have h1532 : 0 ≤ z1489 ∧ z1489 ≤ 192 := (vc_X12_attributes_32 h1531 h1460 h1488 h1491)
                refine mr_iload (pc := 194) (z := z1257) dX12_attributes_194 rfl ?_
                refine mr_iconst (pc := 196) (z := 1) dX12_attributes_196 ?_
                refine mr_icmp_ne (pc := 197) (tgt := 214) dX12_attributes_197 (by decide) (r32 h1256.1 rfl) (r32 (rR (x := 1)) rfl) (fun h1533 => ?_) (fun h1533 => ?_)
                · refine mr_iload (pc := 214) (z := z1257) dX12_attributes_214 rfl ?_
                  refine mr_iconst (pc := 216) (z := 2) dX12_attributes_216 ?_
                  refine mr_icmp_ne (pc := 217) (tgt := 234) dX12_attributes_217 (by decide) (r32 h1256.1 rfl) (r32 (rR (x := 2)) rfl) (fun h1534 => ?_) (fun h1534 => ?_)
                  · refine mr_iload (pc := 234) (z := z1257) dX12_attributes_234 rfl ?_
                    refine mr_iconst (pc := 236) (z := 4) dX12_attributes_236 ?_
                    refine mr_icmp_ne (pc := 237) (tgt := 254) dX12_attributes_237 (by decide) (r32 h1256.1 rfl) (r32 (rR (x := 4)) rfl) (fun h1535 => ?_) (fun h1535 => ?_)
                    · refine sv_aload_n (pc := 254) dX12_attributes_254 rfl rfl ?_
                      refine mr_iload (pc := 255) (z := (z1201 + z1231)) dX12_attributes_255 rfl ?_
                      refine mr_iload (pc := 257) (z := z1262) dX12_attributes_257 rfl ?_
                      refine mr_cVI (pc := 259) (c_X12_marksRight_f hw T1364 (vc_X12_attributes_33 h1208 h1213 h1234 h1246 hq0 (h1261.2.1.trans h1244.2.1.symm) h1212 ht_f_size h1240 h1239 h1232 h1247 h1263) (rW (c := 0) (d := 1000) h1263 rfl) (u1363.f (Or.inl (mAt.ne (A_171 hw) (A_106 hw) rfl)) (F1206.f (A_106 hw) rfl q_f_size)) (vc_X12_attributes_34 hq0 h1208 h1213 h1234 h1246 (h1261.2.1.trans h1244.2.1.symm) h1212 ht_f_size h1240 h1239 h1232 h1247 h1263)) (gOk _ _ _ _ _) dX12_attributes_259 (tX12_marksRight _ _ _ _ _) ⟨wV_X12_marksRight, wL_X12_marksRight⟩ wM_X12_649 (gCX12 _ _ _ _ _) rfl (A_106 hw) rfl ⟨le_t rfl, le_t rfl⟩ ⟨le_t rfl, le_t rfl⟩ rfl (le_t rfl) fun z1540 μ1536 T1537 F1538 h1539 => ?_
                      refine mr_if_eq (pc := 262) (tgt := 269) dX12_attributes_262 (by decide) (r32 h1539.1 rfl) (fun h1541 => ?_) (fun h1541 => ?_)
                      · have h1542 : 0 ≤ z1540 ∧ z1540 ≤ 0 := (vc_X12_attributes_35 h1541 h1539.1)
                        refine mr_iconst (pc := 269) (z := 0) dX12_attributes_269 ?_
                        refine mr_lvS (lv' := [(0, .ref 106), (2, iv p2), (3, iv z1201), (8, iv z1262), (9, iv (z1201 + z1231))]) (List.forall_mem_cons.mpr ⟨rfl, List.forall_mem_cons.mpr ⟨rfl, List.forall_mem_cons.mpr ⟨rfl, List.forall_mem_cons.mpr ⟨rfl, List.forall_mem_cons.mpr ⟨rfl, fun _ h => absurd h List.not_mem_nil⟩⟩⟩⟩⟩) ?_
                        exact J1530 0 μ1536 T1537 (mF.call mF.refl F1538 rfl) (mG.call mG.refl h1539.2.1 (List.forall_mem_cons.mpr ⟨⟨_, List.mem_cons_self, vc_X12_attributes_36⟩, (fun _ h => absurd h List.not_mem_nil)⟩)) (rW (c := 0) (d := 1) (rR (x := 0)) rfl)
                      have h1543 : 1 ≤ z1540 ∧ z1540 ≤ 1 := (vc_X12_attributes_37 h1541 h1539.1)
                      refine mr_iconst (pc := 265) (z := 1) dX12_attributes_265 ?_
                      refine sv_goto (pc := 266) (tgt := 270) dX12_attributes_266 (by decide) ?_
                      refine mr_lvS (lv' := [(0, .ref 106), (2, iv p2), (3, iv z1201), (8, iv z1262), (9, iv (z1201 + z1231))]) (List.forall_mem_cons.mpr ⟨rfl, List.forall_mem_cons.mpr ⟨rfl, List.forall_mem_cons.mpr ⟨rfl, List.forall_mem_cons.mpr ⟨rfl, List.forall_mem_cons.mpr ⟨rfl, fun _ h => absurd h List.not_mem_nil⟩⟩⟩⟩⟩) ?_
                      exact J1530 1 μ1536 T1537 (mF.call mF.refl F1538 rfl) (mG.call mG.refl h1539.2.1 (List.forall_mem_cons.mpr ⟨⟨_, List.mem_cons_self, vc_X12_attributes_36⟩, (fun _ h => absurd h List.not_mem_nil)⟩)) (rW (c := 0) (d := 1) (rR (x := 1)) rfl)
                    have h1544 : 4 ≤ z1257 ∧ z1257 ≤ 4 := (vc_X12_attributes_38 h1535 h1533 h1534 h1256.1)
                    refine sv_aload_n (pc := 240) dX12_attributes_240 rfl rfl ?_
                    refine mr_iload (pc := 241) (z := (z1201 + z1231)) dX12_attributes_241 rfl ?_
                    refine mr_iload (pc := 243) (z := z1262) dX12_attributes_243 rfl ?_
                    refine mr_cVI (pc := 245) (c_X12_costRight_f hw T1364 (vc_X12_attributes_33 h1208 h1213 h1234 h1246 hq0 (h1261.2.1.trans h1244.2.1.symm) h1212 ht_f_size h1240 h1239 h1232 h1247 h1263) (rW (c := 0) (d := 1000) h1263 rfl) (u1363.f (Or.inl (mAt.ne (A_171 hw) (A_106 hw) rfl)) (F1206.f (A_106 hw) rfl q_f_size)) (vc_X12_attributes_34 hq0 h1208 h1213 h1234 h1246 (h1261.2.1.trans h1244.2.1.symm) h1212 ht_f_size h1240 h1239 h1232 h1247 h1263)) (gOk _ _ _ _ _) dX12_attributes_245 (tX12_costRight _ _ _ _ _) ⟨wV_X12_costRight, wL_X12_costRight⟩ wM_X12_646 (gCX12 _ _ _ _ _) rfl (A_106 hw) rfl ⟨le_t rfl, le_t rfl⟩ ⟨le_t rfl, le_t rfl⟩ rfl (le_t rfl) fun z1549 μ1545 T1546 F1547 h1548 => ?_
                    refine mr_if_eq (pc := 248) (tgt := 269) dX12_attributes_248 (by decide) (r32 h1548.1 rfl) (fun h1550 => ?_) (fun h1550 => ?_)
                    · have h1551 : 0 ≤ z1549 ∧ z1549 ≤ 0 := (vc_X12_attributes_39 h1550 h1548.1)
                      refine mr_iconst (pc := 269) (z := 0) dX12_attributes_269 ?_
                      refine mr_lvS (lv' := [(0, .ref 106), (2, iv p2), (3, iv z1201), (8, iv z1262), (9, iv (z1201 + z1231))]) (List.forall_mem_cons.mpr ⟨rfl, List.forall_mem_cons.mpr ⟨rfl, List.forall_mem_cons.mpr ⟨rfl, List.forall_mem_cons.mpr ⟨rfl, List.forall_mem_cons.mpr ⟨rfl, fun _ h => absurd h List.not_mem_nil⟩⟩⟩⟩⟩) ?_
                      exact J1530 0 μ1545 T1546 (mF.call mF.refl F1547 rfl) (mG.call mG.refl h1548.2.1 (List.forall_mem_cons.mpr ⟨⟨_, List.mem_cons_self, vc_X12_attributes_40⟩, (fun _ h => absurd h List.not_mem_nil)⟩)) (rW (c := 0) (d := 1) (rR (x := 0)) rfl)
                    have h1552 : 1 ≤ z1549 ∧ z1549 ≤ 1 := (vc_X12_attributes_41 h1550 h1548.1)
                    refine sv_goto (pc := 251) (tgt := 265) dX12_attributes_251 (by decide) ?_
                    refine mr_iconst (pc := 265) (z := 1) dX12_attributes_265 ?_
                    refine sv_goto (pc := 266) (tgt := 270) dX12_attributes_266 (by decide) ?_
                    refine mr_lvS (lv' := [(0, .ref 106), (2, iv p2), (3, iv z1201), (8, iv z1262), (9, iv (z1201 + z1231))]) (List.forall_mem_cons.mpr ⟨rfl, List.forall_mem_cons.mpr ⟨rfl, List.forall_mem_cons.mpr ⟨rfl, List.forall_mem_cons.mpr ⟨rfl, List.forall_mem_cons.mpr ⟨rfl, fun _ h => absurd h List.not_mem_nil⟩⟩⟩⟩⟩) ?_
                    exact J1530 1 μ1545 T1546 (mF.call mF.refl F1547 rfl) (mG.call mG.refl h1548.2.1 (List.forall_mem_cons.mpr ⟨⟨_, List.mem_cons_self, vc_X12_attributes_40⟩, (fun _ h => absurd h List.not_mem_nil)⟩)) (rW (c := 0) (d := 1) (rR (x := 1)) rfl)
                  have h1553 : 2 ≤ z1257 ∧ z1257 ≤ 2 := (vc_X12_attributes_42 h1534 h1533 h1256.1)
                  refine sv_aload_n (pc := 220) dX12_attributes_220 rfl rfl ?_
                  refine mr_iload (pc := 221) (z := (z1201 + z1231)) dX12_attributes_221 rfl ?_
                  refine mr_iload (pc := 223) (z := z1262) dX12_attributes_223 rfl ?_
                  refine mr_cVI (pc := 225) (c_X12_wayRight hw T1364 (vc_X12_attributes_33 h1208 h1213 h1234 h1246 hq0 (h1261.2.1.trans h1244.2.1.symm) h1212 ht_f_size h1240 h1239 h1232 h1247 h1263) (rW (c := 0) (d := 1000) h1263 rfl) (u1363.f (Or.inl (mAt.ne (A_171 hw) (A_106 hw) rfl)) (F1206.f (A_106 hw) rfl q_f_size)) (vc_X12_attributes_34 hq0 h1208 h1213 h1234 h1246 (h1261.2.1.trans h1244.2.1.symm) h1212 ht_f_size h1240 h1239 h1232 h1247 h1263)) (gOk _ _ _ _ _) dX12_attributes_225 (tX12_wayRight _ _ _ _ _) ⟨wV_X12_wayRight, wL_X12_wayRight⟩ wM_X12_643 (gCX12 _ _ _ _ _) rfl (A_106 hw) rfl ⟨le_t rfl, le_t rfl⟩ ⟨le_t rfl, le_t rfl⟩ rfl (le_t rfl) fun z1558 μ1554 T1555 F1556 h1557 => ?_
                  refine mr_if_eq (pc := 228) (tgt := 269) dX12_attributes_228 (by decide) (r32 h1557.1 rfl) (fun h1559 => ?_) (fun h1559 => ?_)
                  · have h1560 : 0 ≤ z1558 ∧ z1558 ≤ 0 := (vc_X12_attributes_43 h1559 h1557.1)
                    refine mr_iconst (pc := 269) (z := 0) dX12_attributes_269 ?_
                    refine mr_lvS (lv' := [(0, .ref 106), (2, iv p2), (3, iv z1201), (8, iv z1262), (9, iv (z1201 + z1231))]) (List.forall_mem_cons.mpr ⟨rfl, List.forall_mem_cons.mpr ⟨rfl, List.forall_mem_cons.mpr ⟨rfl, List.forall_mem_cons.mpr ⟨rfl, List.forall_mem_cons.mpr ⟨rfl, fun _ h => absurd h List.not_mem_nil⟩⟩⟩⟩⟩) ?_
                    exact J1530 0 μ1554 T1555 (mF.call mF.refl F1556 rfl) (mG.call mG.refl h1557.2.1 (List.forall_mem_cons.mpr ⟨⟨_, List.mem_cons_self, vc_X12_attributes_44⟩, (fun _ h => absurd h List.not_mem_nil)⟩)) (rW (c := 0) (d := 1) (rR (x := 0)) rfl)
                  have h1561 : 1 ≤ z1558 ∧ z1558 ≤ 1 := (vc_X12_attributes_45 h1559 h1557.1)
                  refine sv_goto (pc := 231) (tgt := 265) dX12_attributes_231 (by decide) ?_
                  refine mr_iconst (pc := 265) (z := 1) dX12_attributes_265 ?_
                  refine sv_goto (pc := 266) (tgt := 270) dX12_attributes_266 (by decide) ?_
                  refine mr_lvS (lv' := [(0, .ref 106), (2, iv p2), (3, iv z1201), (8, iv z1262), (9, iv (z1201 + z1231))]) (List.forall_mem_cons.mpr ⟨rfl, List.forall_mem_cons.mpr ⟨rfl, List.forall_mem_cons.mpr ⟨rfl, List.forall_mem_cons.mpr ⟨rfl, List.forall_mem_cons.mpr ⟨rfl, fun _ h => absurd h List.not_mem_nil⟩⟩⟩⟩⟩) ?_
                  exact J1530 1 μ1554 T1555 (mF.call mF.refl F1556 rfl) (mG.call mG.refl h1557.2.1 (List.forall_mem_cons.mpr ⟨⟨_, List.mem_cons_self, vc_X12_attributes_44⟩, (fun _ h => absurd h List.not_mem_nil)⟩)) (rW (c := 0) (d := 1) (rR (x := 1)) rfl)
                have h1562 : 1 ≤ z1257 ∧ z1257 ≤ 1 := (vc_X12_attributes_46 h1533 h1256.1)
                refine sv_aload_n (pc := 200) dX12_attributes_200 rfl rfl ?_
                refine mr_iload (pc := 201) (z := (z1201 + z1231)) dX12_attributes_201 rfl ?_
                refine mr_iload (pc := 203) (z := z1262) dX12_attributes_203 rfl ?_
                refine mr_cVI (pc := 205) (c_X12_originRight_f hw T1364 (vc_X12_attributes_33 h1208 h1213 h1234 h1246 hq0 (h1261.2.1.trans h1244.2.1.symm) h1212 ht_f_size h1240 h1239 h1232 h1247 h1263) (rW (c := 0) (d := 1000) h1263 rfl) (u1363.f (Or.inl (mAt.ne (A_171 hw) (A_106 hw) rfl)) (F1206.f (A_106 hw) rfl q_f_size)) (vc_X12_attributes_34 hq0 h1208 h1213 h1234 h1246 (h1261.2.1.trans h1244.2.1.symm) h1212 ht_f_size h1240 h1239 h1232 h1247 h1263)) (gOk _ _ _ _ _) dX12_attributes_205 (tX12_originRight _ _ _ _ _) ⟨wV_X12_originRight, wL_X12_originRight⟩ wM_X12_640 (gCX12 _ _ _ _ _) rfl (A_106 hw) rfl ⟨le_t rfl, le_t rfl⟩ ⟨le_t rfl, le_t rfl⟩ rfl (le_t rfl) fun z1567 μ1563 T1564 F1565 h1566 => ?_
                refine mr_if_eq (pc := 208) (tgt := 269) dX12_attributes_208 (by decide) (r32 h1566.1 rfl) (fun h1568 => ?_) (fun h1568 => ?_)
                · have h1569 : 0 ≤ z1567 ∧ z1567 ≤ 0 := (vc_X12_attributes_47 h1568 h1566.1)
                  refine mr_iconst (pc := 269) (z := 0) dX12_attributes_269 ?_
                  refine mr_lvS (lv' := [(0, .ref 106), (2, iv p2), (3, iv z1201), (8, iv z1262), (9, iv (z1201 + z1231))]) (List.forall_mem_cons.mpr ⟨rfl, List.forall_mem_cons.mpr ⟨rfl, List.forall_mem_cons.mpr ⟨rfl, List.forall_mem_cons.mpr ⟨rfl, List.forall_mem_cons.mpr ⟨rfl, fun _ h => absurd h List.not_mem_nil⟩⟩⟩⟩⟩) ?_
                  exact J1530 0 μ1563 T1564 (mF.call mF.refl F1565 rfl) (mG.call mG.refl h1566.2.1 (List.forall_mem_cons.mpr ⟨⟨_, List.mem_cons_self, vc_X12_attributes_48⟩, (fun _ h => absurd h List.not_mem_nil)⟩)) (rW (c := 0) (d := 1) (rR (x := 0)) rfl)
                have h1570 : 1 ≤ z1567 ∧ z1567 ≤ 1 := (vc_X12_attributes_49 h1568 h1566.1)
                refine sv_goto (pc := 211) (tgt := 265) dX12_attributes_211 (by decide) ?_
                refine mr_iconst (pc := 265) (z := 1) dX12_attributes_265 ?_
                refine sv_goto (pc := 266) (tgt := 270) dX12_attributes_266 (by decide) ?_
                refine mr_lvS (lv' := [(0, .ref 106), (2, iv p2), (3, iv z1201), (8, iv z1262), (9, iv (z1201 + z1231))]) (List.forall_mem_cons.mpr ⟨rfl, List.forall_mem_cons.mpr ⟨rfl, List.forall_mem_cons.mpr ⟨rfl, List.forall_mem_cons.mpr ⟨rfl, List.forall_mem_cons.mpr ⟨rfl, fun _ h => absurd h List.not_mem_nil⟩⟩⟩⟩⟩) ?_
                exact J1530 1 μ1563 T1564 (mF.call mF.refl F1565 rfl) (mG.call mG.refl h1566.2.1 (List.forall_mem_cons.mpr ⟨⟨_, List.mem_cons_self, vc_X12_attributes_48⟩, (fun _ h => absurd h List.not_mem_nil)⟩)) (rW (c := 0) (d := 1) (rR (x := 1)) rfl)
              refine mr_icmp_eq (pc := 137) (tgt := 146) dX12_attributes_137 (by decide) (r32 h1256.1 rfl) (r32 (rR (x := 1)) rfl) (fun h1571 => ?_) (fun h1571 => ?_)
              · have h1572 : 1 ≤ z1257 ∧ z1257 ≤ 1 := (vc_X12_attributes_46 h1571 h1256.1)
                refine mr_bipush (pc := 146) (z := 64) dX12_attributes_146 (by decide) ?_
                refine sv_goto (pc := 148) (tgt := 177) dX12_attributes_148 (by decide) ?_
                refine mr_lvS (lv' := [(0, .ref 106), (2, iv p2), (3, iv z1201), (6, iv z1252), (7, iv z1257), (8, iv z1262), (9, iv (z1201 + z1231))]) (List.forall_mem_cons.mpr ⟨rfl, List.forall_mem_cons.mpr ⟨rfl, List.forall_mem_cons.mpr ⟨rfl, List.forall_mem_cons.mpr ⟨rfl, List.forall_mem_cons.mpr ⟨rfl, List.forall_mem_cons.mpr ⟨rfl, List.forall_mem_cons.mpr ⟨rfl, fun _ h => absurd h List.not_mem_nil⟩⟩⟩⟩⟩⟩⟩) ?_
                exact J1371 64 (rW (c := (-1)) (d := 192) (rR (x := 64)) rfl)
              refine mr_iload (pc := 140) (z := z1257) dX12_attributes_140 rfl ?_
              refine mr_iconst (pc := 142) (z := 2) dX12_attributes_142 ?_
              refine mr_icmp_ne (pc := 143) (tgt := 151) dX12_attributes_143 (by decide) (r32 h1256.1 rfl) (r32 (rR (x := 2)) rfl) (fun h1573 => ?_) (fun h1573 => ?_)
              · refine mr_iload (pc := 151) (z := z1257) dX12_attributes_151 rfl ?_
                refine mr_iconst (pc := 153) (z := 4) dX12_attributes_153 ?_
                refine mr_icmp_ne (pc := 154) (tgt := 163) dX12_attributes_154 (by decide) (r32 h1256.1 rfl) (r32 (rR (x := 4)) rfl) (fun h1574 => ?_) (fun h1574 => ?_)
                · refine mr_iload (pc := 163) (z := z1257) dX12_attributes_163 rfl ?_
                  refine mr_bipush (pc := 165) (z := 8) dX12_attributes_165 (by decide) ?_
                  refine mr_icmp_ne (pc := 167) (tgt := 176) dX12_attributes_167 (by decide) (r32 h1256.1 rfl) (r32 (rR (x := 8)) rfl) (fun h1575 => ?_) (fun h1575 => ?_)
                  · refine mr_iconst (pc := 176) (z := (-1)) dX12_attributes_176 ?_
                    refine mr_lvS (lv' := [(0, .ref 106), (2, iv p2), (3, iv z1201), (6, iv z1252), (7, iv z1257), (8, iv z1262), (9, iv (z1201 + z1231))]) (List.forall_mem_cons.mpr ⟨rfl, List.forall_mem_cons.mpr ⟨rfl, List.forall_mem_cons.mpr ⟨rfl, List.forall_mem_cons.mpr ⟨rfl, List.forall_mem_cons.mpr ⟨rfl, List.forall_mem_cons.mpr ⟨rfl, List.forall_mem_cons.mpr ⟨rfl, fun _ h => absurd h List.not_mem_nil⟩⟩⟩⟩⟩⟩⟩) ?_
                    exact J1371 (-1) (rW (c := (-1)) (d := 192) (rR (x := (-1))) rfl)
                  have h1576 : 8 ≤ z1257 ∧ z1257 ≤ 8 := (vc_X12_attributes_50 h1575 h1571 h1573 h1574 h1256.1)
                  refine mr_sipush (pc := 170) (z := 192) dX12_attributes_170 (by decide) ?_
                  refine sv_goto (pc := 173) (tgt := 177) dX12_attributes_173 (by decide) ?_
                  refine mr_lvS (lv' := [(0, .ref 106), (2, iv p2), (3, iv z1201), (6, iv z1252), (7, iv z1257), (8, iv z1262), (9, iv (z1201 + z1231))]) (List.forall_mem_cons.mpr ⟨rfl, List.forall_mem_cons.mpr ⟨rfl, List.forall_mem_cons.mpr ⟨rfl, List.forall_mem_cons.mpr ⟨rfl, List.forall_mem_cons.mpr ⟨rfl, List.forall_mem_cons.mpr ⟨rfl, List.forall_mem_cons.mpr ⟨rfl, fun _ h => absurd h List.not_mem_nil⟩⟩⟩⟩⟩⟩⟩) ?_
                  exact J1371 192 (rW (c := (-1)) (d := 192) (rR (x := 192)) rfl)
                have h1577 : 4 ≤ z1257 ∧ z1257 ≤ 4 := (vc_X12_attributes_38 h1574 h1571 h1573 h1256.1)
                refine mr_sipush (pc := 157) (z := 128) dX12_attributes_157 (by decide) ?_
                refine sv_goto (pc := 160) (tgt := 177) dX12_attributes_160 (by decide) ?_
                refine mr_lvS (lv' := [(0, .ref 106), (2, iv p2), (3, iv z1201), (6, iv z1252), (7, iv z1257), (8, iv z1262), (9, iv (z1201 + z1231))]) (List.forall_mem_cons.mpr ⟨rfl, List.forall_mem_cons.mpr ⟨rfl, List.forall_mem_cons.mpr ⟨rfl, List.forall_mem_cons.mpr ⟨rfl, List.forall_mem_cons.mpr ⟨rfl, List.forall_mem_cons.mpr ⟨rfl, List.forall_mem_cons.mpr ⟨rfl, fun _ h => absurd h List.not_mem_nil⟩⟩⟩⟩⟩⟩⟩) ?_
                exact J1371 128 (rW (c := (-1)) (d := 192) (rR (x := 128)) rfl)
              have h1578 : 2 ≤ z1257 ∧ z1257 ≤ 2 := (vc_X12_attributes_42 h1573 h1571 h1256.1)
              refine mr_bipush (pc := 146) (z := 64) dX12_attributes_146 (by decide) ?_
              refine sv_goto (pc := 148) (tgt := 177) dX12_attributes_148 (by decide) ?_
              refine mr_lvS (lv' := [(0, .ref 106), (2, iv p2), (3, iv z1201), (6, iv z1252), (7, iv z1257), (8, iv z1262), (9, iv (z1201 + z1231))]) (List.forall_mem_cons.mpr ⟨rfl, List.forall_mem_cons.mpr ⟨rfl, List.forall_mem_cons.mpr ⟨rfl, List.forall_mem_cons.mpr ⟨rfl, List.forall_mem_cons.mpr ⟨rfl, List.forall_mem_cons.mpr ⟨rfl, List.forall_mem_cons.mpr ⟨rfl, fun _ h => absurd h List.not_mem_nil⟩⟩⟩⟩⟩⟩⟩) ?_
              exact J1371 64 (rW (c := (-1)) (d := 192) (rR (x := 64)) rfl)
            have h1579 : 1 ≤ z1264 ∧ z1264 ≤ 1 := (vc_X12_attributes_51 h1360 h1266)
            refine sv_aload_n (pc := 117) dX12_attributes_117 rfl rfl ?_
            refine mr_iconst (pc := 118) (z := 3) dX12_attributes_118 ?_
            refine mr_iload_n (pc := 119) (z := z1201) dX12_attributes_119 rfl rfl ?_
            refine mr_cVV (pc := 120) (c_X12_fails hw T1205 (rW (c := 0) (d := 3) (rR (x := 3)) rfl) (rW (c := (-2147483648)) (d := 2147483647) h1239 rfl)) (gOk _ _ _ _ _) dX12_attributes_120 (tX12_fails _ _ _ _ _) ⟨wV_X12_fails, wL_X12_fails⟩ wM_X12_620 (gCX12 _ _ _ _ _) rfl (A_106 hw) rfl ⟨le_t rfl, le_t rfl⟩ ⟨le_t rfl, le_t rfl⟩ rfl (le_t rfl) fun μ1580 T1581 F1582 h1583 => ?_
            refine sv_goto (pc := 123) (tgt := 336) dX12_attributes_123 (by decide) ?_
            refine mr_iload (pc := 336) (z := (z1201 + z1231)) dX12_attributes_336 rfl ?_
            refine mr_iload (pc := 338) (z := z1262) dX12_attributes_338 rfl ?_
            refine mr_iadd (pc := 340) (x := (z1201 + z1231)) (y := z1262) dX12_attributes_340 ?_
            refine mr_istore_n (pc := 341) (lv' := [(3, iv ((z1201 + z1231) + z1262)), (9, iv (z1201 + z1231)), (8, iv z1262), (7, iv z1257), (6, iv z1252), (5, iv z1231), (0, .ref 106), (2, iv p2)]) dX12_attributes_341 rfl (by decide) rfl ?_
            refine sv_goto (pc := 342) (tgt := 2) dX12_attributes_342 (by decide) ?_
            refine mr_lvS (lv' := [(0, .ref 106), (2, iv p2), (3, iv ((z1201 + z1231) + z1262))]) (List.forall_mem_cons.mpr ⟨rfl, List.forall_mem_cons.mpr ⟨rfl, List.forall_mem_cons.mpr ⟨rfl, fun _ h => absurd h List.not_mem_nil⟩⟩⟩) ?_
            exact ih1211 ((z1201 + z1231) + z1262) μ1580 f_c T1581 (mF.call (mF.call mF.refl F1206 rfl) F1582 rfl) (mG.fr (mG.call mG.refl G1207 (List.forall_mem_cons.mpr ⟨⟨_, List.mem_cons_self, vc_X12_attributes_2⟩, (fun _ h => absurd h List.not_mem_nil)⟩)) F1582 (A_126 hw) rfl) (F1582.f (A_106 hw) rfl q1210) (vc_X12_attributes_52 h1208 h1213 h1234 h1246 (h1261.2.1.trans h1244.2.1.symm) hq0 h1212 ht_f_size h1240 h1239 h1232 h1247 h1263) (vc_X12_attributes_53 h1208 h1213 h1234 h1246 (h1261.2.1.trans h1244.2.1.symm) hq0 h1212 ht_f_size h1240 h1239 h1232 h1247 h1263) (vc_X12_attributes_54 (nS h1209) h1208 h1213 h1234 h1246 (h1261.2.1.trans h1244.2.1.symm) hq0 h1212 ht_f_size h1240 h1239 h1232 h1247 h1263)
          refine sv_aload_n (pc := 65) dX12_attributes_65 rfl rfl ?_
          refine mr_iconst (pc := 66) (z := 2) dX12_attributes_66 ?_
          refine mr_iload_n (pc := 67) (z := z1201) dX12_attributes_67 rfl rfl ?_
          refine mr_cVV (pc := 68) (c_X12_fails hw T1205 (rW (c := 0) (d := 3) (rR (x := 2)) rfl) (rW (c := (-2147483648)) (d := 2147483647) h1239 rfl)) (gOk _ _ _ _ _) dX12_attributes_68 (tX12_fails _ _ _ _ _) ⟨wV_X12_fails, wL_X12_fails⟩ wM_X12_620 (gCX12 _ _ _ _ _) rfl (A_106 hw) rfl ⟨le_t rfl, le_t rfl⟩ ⟨le_t rfl, le_t rfl⟩ rfl (le_t rfl) fun μ1584 T1585 F1586 h1587 => ?_
          exact mr_vret dX12_attributes_71 rfl (le_t rfl) (le_t rfl) T1585 (mF.call (mF.call mF.refl F1206 rfl) F1586 rfl) ⟨(mG.fr (mG.call mG.refl G1207 (List.forall_mem_cons.mpr ⟨⟨_, List.mem_cons_self, vc_X12_attributes_2⟩, (fun _ h => absurd h List.not_mem_nil)⟩)) F1586 (A_126 hw) rfl), trivial⟩
        refine mr_if_eq (pc := 27) (tgt := 34) dX12_attributes_27 (by decide) (r32 h1227 rfl) (fun h1588 => ?_) (fun h1588 => ?_)
        · have h1589 : 0 ≤ z1226 ∧ z1226 ≤ 0 := (vc_X12_attributes_55 h1588 h1227)
          refine mr_iconst (pc := 34) (z := 3) dX12_attributes_34 ?_
          refine mr_lvS (lv' := [(0, .ref 106), (2, iv p2), (3, iv z1201)]) (List.forall_mem_cons.mpr ⟨rfl, List.forall_mem_cons.mpr ⟨rfl, List.forall_mem_cons.mpr ⟨rfl, fun _ h => absurd h List.not_mem_nil⟩⟩⟩) ?_
          exact J1233 3 (rW (c := 3) (d := 4) (rR (x := 3)) rfl)
        have h1590 : 1 ≤ z1226 ∧ z1226 ≤ 1 := (vc_X12_attributes_56 h1588 h1227)
        refine mr_iconst (pc := 30) (z := 4) dX12_attributes_30 ?_
        refine sv_goto (pc := 31) (tgt := 35) dX12_attributes_31 (by decide) ?_
        refine mr_lvS (lv' := [(0, .ref 106), (2, iv p2), (3, iv z1201)]) (List.forall_mem_cons.mpr ⟨rfl, List.forall_mem_cons.mpr ⟨rfl, List.forall_mem_cons.mpr ⟨rfl, fun _ h => absurd h List.not_mem_nil⟩⟩⟩) ?_
        exact J1233 4 (rW (c := 3) (d := 4) (rR (x := 4)) rfl)
      refine mr_if_eq (pc := 15) (tgt := 22) dX12_attributes_15 (by decide) (r32 h1223 rfl) (fun h1591 => ?_) (fun h1591 => ?_)
      · have h1592 : 0 ≤ z1221 ∧ z1221 ≤ 0 := (vc_X12_attributes_57 h1591 h1223)
        refine mr_iconst (pc := 22) (z := 0) dX12_attributes_22 ?_
        exact J1228 0 (rW (c := 0) (d := 1) (rR (x := 0)) rfl)
      have h1593 : 1 ≤ z1221 ∧ z1221 ≤ 16 := (vc_X12_attributes_58 h1591 h1223)
      refine mr_iconst (pc := 18) (z := 1) dX12_attributes_18 ?_
      refine sv_goto (pc := 19) (tgt := 23) dX12_attributes_19 (by decide) ?_
      exact J1228 1 (rW (c := 0) (d := 1) (rR (x := 1)) rfl)
  refine mr_lvS (lv' := [(0, .ref 106), (2, iv p2), (3, iv p1)]) (List.forall_mem_cons.mpr ⟨rfl, List.forall_mem_cons.mpr ⟨rfl, List.forall_mem_cons.mpr ⟨rfl, fun _ h => absurd h List.not_mem_nil⟩⟩⟩) ?_
  exact L1203 1004 p1 μ f_c0 hT mF.refl mG.refl q_f_c0 hp1 (vc_X12_attributes_59 hq1 ht_f_c0 hp1) (vc_X12_attributes_60 hq1 ht_f_c0 hp1)
theorem vc_X12_message_1 {z1783 : Int} (h0 : (5 - z1783) < ((0 : Nat) : Int)) (h1 : 0 ≤ z1783 ∧ z1783 ≤ 4) : False := by omega
theorem vc_X12_message_2 {z1783 : Int} (h0 : 4 ≤ z1783) (h1 : 0 ≤ z1783 ∧ z1783 ≤ 4) : 4 ≤ z1783 ∧ z1783 ≤ 4 := by omega
theorem vc_X12_message_3 {z2764 : Int} (h0 : (257 - z2764) < ((0 : Nat) : Int)) (h1 : 0 ≤ z2764 ∧ z2764 ≤ 256) : False := by omega
theorem vc_X12_message_4 {z2764 : Int} (h0 : 256 ≤ z2764) (h1 : 0 ≤ z2764 ∧ z2764 ≤ 256) : 256 ≤ z2764 ∧ z2764 ≤ 256 := by omega
theorem vc_X12_message_5  : (-(2147483648 : Int) ≤ ((0 : Int) : Int) ∧ ((0 : Int) : Int) ≤ (2147483647 : Int)) ∧ (((960 : Int) : Int) % (40 : Int) = (0 : Int) → -(1 : Int) ≤ ((0 : Int) : Int) ∧ ((0 : Int) : Int) ≤ (9 : Int)) ∧ (((960 : Int) : Int) % (40 : Int) = (4 : Int) → (0 : Int) ≤ ((0 : Int) : Int) ∧ ((0 : Int) : Int) ≤ (20 : Int)) ∧ (((960 : Int) : Int) % (40 : Int) = (5 : Int) → (0 : Int) ≤ ((0 : Int) : Int) ∧ ((0 : Int) : Int) ≤ (8 : Int)) := by omega
theorem vc_X12_message_6  : (-(2147483648 : Int) ≤ ((100 : Int) : Int) ∧ ((100 : Int) : Int) ≤ (2147483647 : Int)) ∧ ((((960 : Int) + (1 : Int)) : Int) % (40 : Int) = (0 : Int) → -(1 : Int) ≤ ((100 : Int) : Int) ∧ ((100 : Int) : Int) ≤ (9 : Int)) ∧ ((((960 : Int) + (1 : Int)) : Int) % (40 : Int) = (4 : Int) → (0 : Int) ≤ ((100 : Int) : Int) ∧ ((100 : Int) : Int) ≤ (20 : Int)) ∧ ((((960 : Int) + (1 : Int)) : Int) % (40 : Int) = (5 : Int) → (0 : Int) ≤ ((100 : Int) : Int) ∧ ((100 : Int) : Int) ≤ (8 : Int)) := by omega
theorem vc_X12_message_7 {z3231 : Int} (h0 : (7 - z3231) < ((0 : Nat) : Int)) (h1 : 2 ≤ z3231 ∧ z3231 ≤ 6) : False := by omega
theorem vc_X12_message_8 {z3231 : Int} (h0 : 6 ≤ z3231) (h1 : 2 ≤ z3231 ∧ z3231 ≤ 6) : 6 ≤ z3231 ∧ z3231 ≤ 6 := by omega
theorem vc_X12_message_9  : (0 : Int) ≤ (960 : Int) ∧ (960 : Int) ≤ (960 : Int) ∧ (960 : Int) < (1000 : Int) := by omega
theorem vc_X12_message_10  : (0 : Int) ≤ ((960 : Int) + (1 : Int)) ∧ (960 : Int) ≤ ((960 : Int) + (1 : Int)) ∧ ((960 : Int) + (1 : Int)) < (1000 : Int) := by omega
theorem vc_X12_message_11  : (960 : Int) ≤ (960 : Int) ∧ (1000 : Int) ≤ (1000 : Int) := by omega
theorem vc_X12_message_12 {z3362 : Int} (h0 : z3362 = (-99999999)) (h1 : (-2147483648) ≤ z3362 ∧ z3362 ≤ 2147483647) : (-99999999) ≤ z3362 ∧ z3362 ≤ (-99999999) := by omega
theorem vc_X12_message_13 {z3453 : Int} (h0 : z3453 = (-99999999)) (h1 : (-2147483648) ≤ z3453 ∧ z3453 ≤ 2147483647) : (-99999999) ≤ z3453 ∧ z3453 ≤ (-99999999) := by omega
theorem vc_X12_message_14 {z3458 : Int} (h0 : z3458 = (-99999999)) (h1 : (-2147483648) ≤ z3458 ∧ z3458 ≤ 2147483647) : (-99999999) ≤ z3458 ∧ z3458 ≤ (-99999999) := by omega
theorem vc_X12_message_15 {z3366 : Int} (h0 : ¬ z3366 = 0) (h1 : 0 ≤ z3366 ∧ z3366 ≤ 1) : 1 ≤ z3366 ∧ z3366 ≤ 1 := by omega
theorem vc_X12_message_16 {z3366 : Int} (h0 : z3366 = 0) (h1 : 0 ≤ z3366 ∧ z3366 ≤ 1) : 0 ≤ z3366 ∧ z3366 ≤ 0 := by omega
theorem vc_X12_message_17 {z3466 : Int} (h0 : z3466 = (-99999999)) (h1 : (-2147483648) ≤ z3466 ∧ z3466 ≤ 2147483647) : (-99999999) ≤ z3466 ∧ z3466 ≤ (-99999999) := by omega
theorem vc_X12_message_18 {f_c f_g z4121 : Int} (h0 : (1001 - z4121) < ((0 : Nat) : Int)) (h1 : f_g + f_c ≤ 1000 + z4121) (h2 : z4121 ≤ f_c) (h3 : 0 ≤ z4121 ∧ z4121 ≤ 1000) : False := by omega
theorem vc_X12_message_19 {f_c f_g z4121 : Int} (h0 : z4121 < f_c) (h1 : f_g + f_c ≤ 1000 + z4121) (h2 : z4121 ≤ f_c) (h3 : 0 ≤ f_c ∧ f_c ≤ 1000) (h4 : 0 ≤ f_g ∧ f_g ≤ 1000) (h5 : 0 ≤ z4121 ∧ z4121 ≤ 1000) : 0 ≤ z4121 ∧ z4121 ≤ 999 := by omega
theorem vc_X12_message_20 {f_c f_g z4121 : Int} (h0 : z4121 < f_c) (h1 : f_g + f_c ≤ 1000 + z4121) (h2 : z4121 ≤ f_c) (h3 : 0 ≤ f_c ∧ f_c ≤ 1000) (h4 : 0 ≤ f_g ∧ f_g ≤ 1000) (h5 : 0 ≤ z4121 ∧ z4121 ≤ 999) : 1 ≤ f_c ∧ f_c ≤ 1000 := by omega
theorem vc_X12_message_21 {f_c f_g z4121 : Int} (h0 : f_g + f_c ≤ 1000 + z4121) (h1 : z4121 ≤ f_c) (h2 : z4121 < f_c) (h3 : 1 ≤ f_c ∧ f_c ≤ 1000) (h4 : 0 ≤ f_g ∧ f_g ≤ 1000) (h5 : 0 ≤ z4121 ∧ z4121 ≤ 999) : 0 ≤ f_g ∧ f_g < 1000 := by omega
theorem vc_X12_message_22 {f_c f_g z4121 : Int} (h0 : f_g + f_c ≤ 1000 + z4121) (h1 : z4121 ≤ f_c) (h2 : z4121 < f_c) (h3 : 1 ≤ f_c ∧ f_c ≤ 1000) (h4 : 0 ≤ f_g ∧ f_g ≤ 1000) (h5 : 0 ≤ z4121 ∧ z4121 ≤ 999) : 0 ≤ (f_g + 1) ∧ (f_g + 1) ≤ 1000 := by omega
theorem vc_X12_message_23 {f_c f_g z4121 : Int} (h0 : f_g + f_c ≤ 1000 + z4121) (h1 : z4121 ≤ f_c) (h2 : z4121 < f_c) (h3 : 1 ≤ f_c ∧ f_c ≤ 1000) (h4 : 0 ≤ f_g ∧ f_g ≤ 1000) (h5 : 0 ≤ z4121 ∧ z4121 ≤ 999) : (f_g + 1) + f_c ≤ 1000 + (z4121 + 1) := by omega
theorem vc_X12_message_24 {f_c f_g z4121 : Int} (h0 : f_g + f_c ≤ 1000 + z4121) (h1 : z4121 ≤ f_c) (h2 : z4121 < f_c) (h3 : 1 ≤ f_c ∧ f_c ≤ 1000) (h4 : 0 ≤ f_g ∧ f_g ≤ 1000) (h5 : 0 ≤ z4121 ∧ z4121 ≤ 999) : (z4121 + 1) ≤ f_c := by omega
theorem vc_X12_message_25 {N f_c f_g z4121 : Int} (h0 : (1001 - z4121) < N + 1) (h1 : f_g + f_c ≤ 1000 + z4121) (h2 : z4121 ≤ f_c) (h3 : z4121 < f_c) (h4 : 1 ≤ f_c ∧ f_c ≤ 1000) (h5 : 0 ≤ f_g ∧ f_g ≤ 1000) (h6 : 0 ≤ z4121 ∧ z4121 ≤ 999) : (1001 - (z4121 + 1)) < N := by omega
theorem vc_X12_message_26 {z3352 z3355 : Int} (h0 : z3352 + z3355 ≤ 1000) (h1 : 0 ≤ z3352 ∧ z3352 ≤ 1000) (h2 : 0 ≤ z3355 ∧ z3355 ≤ 1000) : z3352 + z3355 ≤ 1000 + (0 : Int) := by omega
theorem vc_X12_message_27 {z3352 z3355 : Int} (h0 : z3352 + z3355 ≤ 1000) (h1 : 0 ≤ z3352 ∧ z3352 ≤ 1000) (h2 : 0 ≤ z3355 ∧ z3355 ≤ 1000) : (0 : Int) ≤ z3355 := by omega
theorem vc_X12_message_28  : (1001 - 0) < ((1002 : Nat) : Int) := by omega
theorem vc_X12_message_29 {z3251 : Int} (h0 : z3251 < 2) (h1 : 0 ≤ z3251 ∧ z3251 ≤ 1000) : 0 ≤ z3251 ∧ z3251 ≤ 1 := by omega
theorem vc_X12_message_30  : ((0 : Int) : Int) + ((0 : Int) : Int) ≤ (1000 : Int) := by omega
theorem vc_X12_message_31 {z3251 : Int} (h0 : 2 ≤ z3251) (h1 : 0 ≤ z3251 ∧ z3251 ≤ 1000) : 2 ≤ z3251 ∧ z3251 ≤ 1000 := by omega
theorem vc_X12_message_32 {z3251 z3261 : Int} (h0 : (2 + z3261) ≤ z3251) (h1 : 2 ≤ z3251) (h2 : 2 ≤ z3251 ∧ z3251 ≤ 1000) (h3 : 0 ≤ z3261 ∧ z3261 ≤ 65535) : 0 ≤ z3261 ∧ z3261 ≤ 998 := by omega
theorem vc_X12_message_33 {z3251 z3261 : Int} (h0 : (2 + z3261) ≤ z3251) (h1 : 2 ≤ z3251) (h2 : 2 ≤ z3251 ∧ z3251 ≤ 1000) (h3 : 0 ≤ z3261 ∧ z3261 ≤ 998) : (2 : Int) ≤ (2 + z3261) := by omega
theorem vc_X12_message_34 {z3251 z3261 : Int} (h0 : 2 ≤ z3251) (h1 : (2 + z3261) ≤ z3251) (h2 : 2 ≤ z3251 ∧ z3251 ≤ 1000) (h3 : 0 ≤ z3261 ∧ z3261 ≤ 998) : (2 + z3261) ≤ z3251 := by omega
theorem vc_X12_message_35 {z3251 z3261 : Int} (h0 : (2 + z3261) ≤ z3251) (h1 : 2 ≤ z3251) (h2 : 2 ≤ z3251 ∧ z3251 ≤ 1000) (h3 : 0 ≤ z3261 ∧ z3261 ≤ 998) : (0 : Int) + (0 : Int) + (2 + z3261) - (2 : Int) ≤ 1000 := by omega
theorem vc_X12_message_36 {z3251 z3261 z4191 z4193 : Int} (h0 : z4191 + z4193 ≤ (0 : Int) + (0 : Int) + (2 + z3261) - (2 : Int)) (h1 : (2 + z3261) ≤ z3251) (h2 : z3251 < ((2 + z3261) + 2)) (h3 : 2 ≤ z3251 ∧ z3251 ≤ 1000) (h4 : 0 ≤ z3261 ∧ z3261 ≤ 998) (h5 : 0 ≤ z4191 ∧ z4191 ≤ 1000) (h6 : 0 ≤ z4193 ∧ z4193 ≤ 1000) : z4191 + z4193 ≤ 1000 := by omega
theorem vc_X12_message_37 {z3251 z3261 z4191 z4193 : Int} (h0 : ((2 + z3261) + 2) ≤ z3251) (h1 : 2 ≤ z3251) (h2 : (2 + z3261) ≤ z3251) (h3 : z4191 + z4193 ≤ (0 : Int) + (0 : Int) + (2 + z3261) - (2 : Int)) (h4 : 2 ≤ z3251 ∧ z3251 ≤ 1000) (h5 : 0 ≤ z3261 ∧ z3261 ≤ 998) (h6 : 0 ≤ z4191 ∧ z4191 ≤ 1000) (h7 : 0 ≤ z4193 ∧ z4193 ≤ 1000) : 0 ≤ z3261 ∧ z3261 ≤ 996 := by omega
theorem vc_X12_message_38 {z3251 z3261 z4191 z4193 : Int} (h0 : ((2 + z3261) + 2) ≤ z3251) (h1 : 2 ≤ z3251) (h2 : (2 + z3261) ≤ z3251) (h3 : z4191 + z4193 ≤ (0 : Int) + (0 : Int) + (2 + z3261) - (2 : Int)) (h4 : 2 ≤ z3251 ∧ z3251 ≤ 1000) (h5 : 0 ≤ z3261 ∧ z3261 ≤ 996) (h6 : 0 ≤ z4191 ∧ z4191 ≤ 1000) (h7 : 0 ≤ z4193 ∧ z4193 ≤ 1000) : 4 ≤ z3251 ∧ z3251 ≤ 1000 := by omega
theorem vc_X12_message_39 {z3251 z3261 z4191 z4193 z4205 : Int} (h0 : (((2 + z3261) + 2) + z4205) ≤ z3251) (h1 : 2 ≤ z3251) (h2 : (2 + z3261) ≤ z3251) (h3 : z4191 + z4193 ≤ (0 : Int) + (0 : Int) + (2 + z3261) - (2 : Int)) (h4 : ((2 + z3261) + 2) ≤ z3251) (h5 : 4 ≤ z3251 ∧ z3251 ≤ 1000) (h6 : 0 ≤ z3261 ∧ z3261 ≤ 996) (h7 : 0 ≤ z4191 ∧ z4191 ≤ 1000) (h8 : 0 ≤ z4193 ∧ z4193 ≤ 1000) (h9 : 0 ≤ z4205 ∧ z4205 ≤ 65535) : 0 ≤ z4205 ∧ z4205 ≤ 996 := by omega
theorem vc_X12_message_40 {z3251 z3261 z4191 z4193 z4205 : Int} (h0 : (2 + z3261) ≤ z3251) (h1 : z4191 + z4193 ≤ (0 : Int) + (0 : Int) + (2 + z3261) - (2 : Int)) (h2 : ((2 + z3261) + 2) ≤ z3251) (h3 : (((2 + z3261) + 2) + z4205) ≤ z3251) (h4 : 2 ≤ z3251) (h5 : 4 ≤ z3251 ∧ z3251 ≤ 1000) (h6 : 0 ≤ z3261 ∧ z3261 ≤ 996) (h7 : 0 ≤ z4191 ∧ z4191 ≤ 1000) (h8 : 0 ≤ z4193 ∧ z4193 ≤ 1000) (h9 : 0 ≤ z4205 ∧ z4205 ≤ 996) : 0 ≤ (((2 + z3261) + 2) + z4205) ∧ (((2 + z3261) + 2) + z4205) ≤ 1000 := by omega
theorem vc_X12_message_41 {z3251 z3261 z4191 z4193 z4205 : Int} (h0 : 2 ≤ z3251) (h1 : (2 + z3261) ≤ z3251) (h2 : z4191 + z4193 ≤ (0 : Int) + (0 : Int) + (2 + z3261) - (2 : Int)) (h3 : ((2 + z3261) + 2) ≤ z3251) (h4 : (((2 + z3261) + 2) + z4205) ≤ z3251) (h5 : 4 ≤ z3251 ∧ z3251 ≤ 1000) (h6 : 0 ≤ z3261 ∧ z3261 ≤ 996) (h7 : 0 ≤ z4191 ∧ z4191 ≤ 1000) (h8 : 0 ≤ z4193 ∧ z4193 ≤ 1000) (h9 : 0 ≤ z4205 ∧ z4205 ≤ 996) : (((2 + z3261) + 2) + z4205) ≤ z3251 := by omega
theorem vc_X12_message_42 {z3251 z3261 z4191 z4193 z4205 : Int} (h0 : (2 + z3261) ≤ z3251) (h1 : z4191 + z4193 ≤ (0 : Int) + (0 : Int) + (2 + z3261) - (2 : Int)) (h2 : ((2 + z3261) + 2) ≤ z3251) (h3 : (((2 + z3261) + 2) + z4205) ≤ z3251) (h4 : 2 ≤ z3251) (h5 : 4 ≤ z3251 ∧ z3251 ≤ 1000) (h6 : 0 ≤ z3261 ∧ z3261 ≤ 996) (h7 : 0 ≤ z4191 ∧ z4191 ≤ 1000) (h8 : 0 ≤ z4193 ∧ z4193 ≤ 1000) (h9 : 0 ≤ z4205 ∧ z4205 ≤ 996) : 3 * (0 : Int) ≤ ((2 + z3261) + 2) := by omega
theorem vc_X12_message_43 {z3251 z3261 z4191 z4193 z4205 : Int} (h0 : 2 ≤ z3251) (h1 : (2 + z3261) ≤ z3251) (h2 : ((2 + z3261) + 2) ≤ z3251) (h3 : (((2 + z3261) + 2) + z4205) ≤ z3251) (h4 : z4191 + z4193 ≤ (0 : Int) + (0 : Int) + (2 + z3261) - (2 : Int)) (h5 : 4 ≤ z3251 ∧ z3251 ≤ 1000) (h6 : 0 ≤ z3261 ∧ z3261 ≤ 996) (h7 : 0 ≤ z4191 ∧ z4191 ≤ 1000) (h8 : 0 ≤ z4193 ∧ z4193 ≤ 1000) (h9 : 0 ≤ z4205 ∧ z4205 ≤ 996) : z3251 ≤ z3251 := by omega
theorem vc_X12_message_44 {z3251 z3261 z4191 z4193 z4205 : Int} (h0 : 2 ≤ z3251) (h1 : (2 + z3261) ≤ z3251) (h2 : z4191 + z4193 ≤ (0 : Int) + (0 : Int) + (2 + z3261) - (2 : Int)) (h3 : ((2 + z3261) + 2) ≤ z3251) (h4 : (((2 + z3261) + 2) + z4205) ≤ z3251) (h5 : 4 ≤ z3251 ∧ z3251 ≤ 1000) (h6 : 0 ≤ z3261 ∧ z3261 ≤ 996) (h7 : 0 ≤ z4191 ∧ z4191 ≤ 1000) (h8 : 0 ≤ z4193 ∧ z4193 ≤ 1000) (h9 : 0 ≤ z4205 ∧ z4205 ≤ 996) : z4191 + z4193 + z3251 - (((2 + z3261) + 2) + z4205) ≤ 1000 := by omega
theorem vc_X12_message_45  : ((1 : Int) ≤ ((960 : Int) : Int) ∧ ((1000 : Int) : Int) ≤ (1200 : Int)) ∨ (5200 : Int) ≤ ((960 : Int) : Int) := by omega
theorem vc_X12_message_46 {z3251 z3261 z4191 z4193 z4205 z4226 z4228 : Int} (h0 : z4226 + z4228 ≤ z4191 + z4193 + z3251 - (((2 + z3261) + 2) + z4205)) (h1 : 2 ≤ z3251) (h2 : (2 + z3261) ≤ z3251) (h3 : z4191 + z4193 ≤ (0 : Int) + (0 : Int) + (2 + z3261) - (2 : Int)) (h4 : ((2 + z3261) + 2) ≤ z3251) (h5 : (((2 + z3261) + 2) + z4205) ≤ z3251) (h6 : z3251 ≤ (((2 + z3261) + 2) + z4205)) (h7 : 4 ≤ z3251 ∧ z3251 ≤ 1000) (h8 : 0 ≤ z3261 ∧ z3261 ≤ 996) (h9 : 0 ≤ z4191 ∧ z4191 ≤ 1000) (h10 : 0 ≤ z4193 ∧ z4193 ≤ 1000) (h11 : 0 ≤ z4205 ∧ z4205 ≤ 996) (h12 : 0 ≤ z4226 ∧ z4226 ≤ 1000) (h13 : 0 ≤ z4228 ∧ z4228 ≤ 1000) : z4226 + z4228 ≤ 1000 := by omega
theorem vc_X12_message_47 {z3251 z3261 z4191 z4193 z4205 z4226 z4228 : Int} (h0 : (((2 + z3261) + 2) + z4205) < z3251) (h1 : 2 ≤ z3251) (h2 : (2 + z3261) ≤ z3251) (h3 : z4191 + z4193 ≤ (0 : Int) + (0 : Int) + (2 + z3261) - (2 : Int)) (h4 : ((2 + z3261) + 2) ≤ z3251) (h5 : (((2 + z3261) + 2) + z4205) ≤ z3251) (h6 : z4226 + z4228 ≤ z4191 + z4193 + z3251 - (((2 + z3261) + 2) + z4205)) (h7 : 4 ≤ z3251 ∧ z3251 ≤ 1000) (h8 : 0 ≤ z3261 ∧ z3261 ≤ 996) (h9 : 0 ≤ z4191 ∧ z4191 ≤ 1000) (h10 : 0 ≤ z4193 ∧ z4193 ≤ 1000) (h11 : 0 ≤ z4205 ∧ z4205 ≤ 996) (h12 : 0 ≤ z4226 ∧ z4226 ≤ 1000) (h13 : 0 ≤ z4228 ∧ z4228 ≤ 1000) : 5 ≤ z3251 ∧ z3251 ≤ 1000 := by omega
theorem vc_X12_message_48 {z3251 z3261 z4191 z4193 z4205 z4226 z4228 : Int} (h0 : (((2 + z3261) + 2) + z4205) < z3251) (h1 : 2 ≤ z3251) (h2 : (2 + z3261) ≤ z3251) (h3 : z4191 + z4193 ≤ (0 : Int) + (0 : Int) + (2 + z3261) - (2 : Int)) (h4 : ((2 + z3261) + 2) ≤ z3251) (h5 : (((2 + z3261) + 2) + z4205) ≤ z3251) (h6 : z4226 + z4228 ≤ z4191 + z4193 + z3251 - (((2 + z3261) + 2) + z4205)) (h7 : 5 ≤ z3251 ∧ z3251 ≤ 1000) (h8 : 0 ≤ z3261 ∧ z3261 ≤ 996) (h9 : 0 ≤ z4191 ∧ z4191 ≤ 1000) (h10 : 0 ≤ z4193 ∧ z4193 ≤ 1000) (h11 : 0 ≤ z4205 ∧ z4205 ≤ 996) (h12 : 0 ≤ z4226 ∧ z4226 ≤ 1000) (h13 : 0 ≤ z4228 ∧ z4228 ≤ 1000) : 0 ≤ z3261 ∧ z3261 ≤ 995 := by omega
theorem vc_X12_message_49 {z3251 z3261 z4191 z4193 z4205 z4226 z4228 : Int} (h0 : (((2 + z3261) + 2) + z4205) < z3251) (h1 : 2 ≤ z3251) (h2 : (2 + z3261) ≤ z3251) (h3 : z4191 + z4193 ≤ (0 : Int) + (0 : Int) + (2 + z3261) - (2 : Int)) (h4 : ((2 + z3261) + 2) ≤ z3251) (h5 : (((2 + z3261) + 2) + z4205) ≤ z3251) (h6 : z4226 + z4228 ≤ z4191 + z4193 + z3251 - (((2 + z3261) + 2) + z4205)) (h7 : 5 ≤ z3251 ∧ z3251 ≤ 1000) (h8 : 0 ≤ z3261 ∧ z3261 ≤ 995) (h9 : 0 ≤ z4191 ∧ z4191 ≤ 1000) (h10 : 0 ≤ z4193 ∧ z4193 ≤ 1000) (h11 : 0 ≤ z4205 ∧ z4205 ≤ 996) (h12 : 0 ≤ z4226 ∧ z4226 ≤ 1000) (h13 : 0 ≤ z4228 ∧ z4228 ≤ 1000) : 0 ≤ z4205 ∧ z4205 ≤ 995 := by omega
theorem vc_X12_message_50 {z4237 : Int} (h0 : z4237 = 0) (h1 : 0 ≤ z4237 ∧ z4237 ≤ 1) : 0 ≤ z4237 ∧ z4237 ≤ 0 := by omega
theorem vc_X12_message_51 {z3251 z3261 z4191 z4193 z4205 z4226 z4228 : Int} (h0 : z4226 + z4228 ≤ z4191 + z4193 + z3251 - (((2 + z3261) + 2) + z4205)) (h1 : 2 ≤ z3251) (h2 : (2 + z3261) ≤ z3251) (h3 : z4191 + z4193 ≤ (0 : Int) + (0 : Int) + (2 + z3261) - (2 : Int)) (h4 : ((2 + z3261) + 2) ≤ z3251) (h5 : (((2 + z3261) + 2) + z4205) ≤ z3251) (h6 : (((2 + z3261) + 2) + z4205) < z3251) (h7 : 5 ≤ z3251 ∧ z3251 ≤ 1000) (h8 : 0 ≤ z3261 ∧ z3261 ≤ 995) (h9 : 0 ≤ z4191 ∧ z4191 ≤ 1000) (h10 : 0 ≤ z4193 ∧ z4193 ≤ 1000) (h11 : 0 ≤ z4205 ∧ z4205 ≤ 995) (h12 : 0 ≤ z4226 ∧ z4226 ≤ 1000) (h13 : 0 ≤ z4228 ∧ z4228 ≤ 1000) : z4226 + z4228 ≤ 1000 := by omega
theorem vc_X12_message_52 {z4237 : Int} (h0 : ¬ z4237 = 0) (h1 : 0 ≤ z4237 ∧ z4237 ≤ 1) : 1 ≤ z4237 ∧ z4237 ≤ 1 := by omega
theorem vc_X12_message_53 {z4247 : Int} (h0 : ¬ z4247 = 0) (h1 : 0 ≤ z4247 ∧ z4247 ≤ 1) : 1 ≤ z4247 ∧ z4247 ≤ 1 := by omega
theorem vc_X12_message_54 {z4247 : Int} (h0 : z4247 = 0) (h1 : 0 ≤ z4247 ∧ z4247 ≤ 1) : 0 ≤ z4247 ∧ z4247 ≤ 0 := by omega
theorem vc_X12_message_55 {z3251 z3261 z4191 z4193 z4205 : Int} (h0 : z4191 + z4193 ≤ (0 : Int) + (0 : Int) + (2 + z3261) - (2 : Int)) (h1 : (2 + z3261) ≤ z3251) (h2 : ((2 + z3261) + 2) ≤ z3251) (h3 : z3251 < (((2 + z3261) + 2) + z4205)) (h4 : 4 ≤ z3251 ∧ z3251 ≤ 1000) (h5 : 0 ≤ z3261 ∧ z3261 ≤ 996) (h6 : 0 ≤ z4191 ∧ z4191 ≤ 1000) (h7 : 0 ≤ z4193 ∧ z4193 ≤ 1000) (h8 : 0 ≤ z4205 ∧ z4205 ≤ 65535) : z4191 + z4193 ≤ 1000 := by omega
theorem vc_X12_message_56 {z3251 z3261 z4191 z4193 : Int} (h0 : 2 ≤ z3251) (h1 : (2 + z3261) ≤ z3251) (h2 : z4191 + z4193 ≤ (0 : Int) + (0 : Int) + (2 + z3261) - (2 : Int)) (h3 : ((2 + z3261) + 2) ≤ z3251) (h4 : 4 ≤ z3251 ∧ z3251 ≤ 1000) (h5 : 0 ≤ z3261 ∧ z3261 ≤ 996) (h6 : 0 ≤ z4191 ∧ z4191 ≤ 1000) (h7 : 0 ≤ z4193 ∧ z4193 ≤ 1000) : (2 + z3261) + (2 : Int) ≤ z3251 := by omega
theorem vc_X12_message_57 {z3251 z3261 : Int} (h0 : z3251 < (2 + z3261)) (h1 : 2 ≤ z3251) (h2 : 2 ≤ z3251 ∧ z3251 ≤ 1000) (h3 : 0 ≤ z3261 ∧ z3261 ≤ 65535) : 1 ≤ z3261 ∧ z3261 ≤ 65535 := by omega
theorem vc_X12_message_58 {z3251 : Int} (h0 : 2 ≤ z3251) (h1 : 2 ≤ z3251 ∧ z3251 ≤ 1000) : (0 : Int) + (2 : Int) ≤ z3251 := by omega
theorem vc_X12_message_59 {z3231 : Int} (h0 : z3231 < 6) (h1 : 2 ≤ z3231 ∧ z3231 ≤ 6) : 2 ≤ z3231 ∧ z3231 ≤ 5 := by omega
theorem vc_X12_message_60 {z3231 : Int} (h0 : z3231 < 6) (h1 : 2 ≤ z3231 ∧ z3231 ≤ 5) : (-2147483648 ≤ (0 : Int) ∧ (0 : Int) ≤ 2147483647) ∧ ((960 + z3231) % 40 = 0 → -1 ≤ (0 : Int) ∧ (0 : Int) ≤ 9) ∧ ((960 + z3231) % 40 = 4 → 0 ≤ (0 : Int) ∧ (0 : Int) ≤ 20) ∧ ((960 + z3231) % 40 = 5 → 0 ≤ (0 : Int) ∧ (0 : Int) ≤ 8) := by omega
theorem vc_X12_message_61 {N z3231 : Int} (h0 : (7 - z3231) < N + 1) (h1 : z3231 < 6) (h2 : 2 ≤ z3231 ∧ z3231 ≤ 5) : (7 - (z3231 + 1)) < N := by omega
theorem vc_X12_message_62 {z3231 : Int} (h0 : z3231 < 6) (h1 : 2 ≤ z3231 ∧ z3231 ≤ 5) : 0 ≤ (960 + z3231) ∧ 960 ≤ (960 + z3231) ∧ (960 + z3231) < 1000 := by omega
theorem vc_X12_message_63 {z3231 : Int} (h0 : z3231 < 6) (h1 : 2 ≤ z3231 ∧ z3231 ≤ 5) : 0 ≤ (960 + z3231) ∧ (960 + z3231) ≤ (960 + z3231) ∧ (960 + z3231) < ((960 + z3231) + 1) := by omega
theorem vc_X12_message_64 {z3231 : Int} (h0 : z3231 < 6) (h1 : 2 ≤ z3231 ∧ z3231 ≤ 5) : (1 ≤ (960 + z3231) ∧ ((960 + z3231) + 1) ≤ 1200) ∨ 5200 ≤ (960 + z3231) := by omega
theorem vc_X12_message_65  : (7 - 2) < ((6 : Nat) : Int) := by omega
theorem vc_X12_message_66  : (0 : Int) ≤ (960 : Int) ∧ (960 : Int) ≤ (960 : Int) ∧ (960 : Int) < ((960 : Int) + (1 : Int)) := by omega
theorem vc_X12_message_67  : (0 : Int) ≤ ((960 : Int) + (1 : Int)) ∧ ((960 : Int) + (1 : Int)) ≤ ((960 : Int) + (1 : Int)) ∧ ((960 : Int) + (1 : Int)) < (((960 : Int) + (1 : Int)) + (1 : Int)) := by omega
theorem vc_X12_message_68  : ((1 : Int) ≤ (((960 : Int) + (1 : Int)) : Int) ∧ ((((960 : Int) + (1 : Int)) + (1 : Int)) : Int) ≤ (1200 : Int)) ∨ (5200 : Int) ≤ (((960 : Int) + (1 : Int)) : Int) := by omega
theorem vc_X12_message_69  : ((1 : Int) ≤ ((960 : Int) : Int) ∧ (((960 : Int) + (1 : Int)) : Int) ≤ (1200 : Int)) ∨ (5200 : Int) ≤ ((960 : Int) : Int) := by omega
theorem vc_X12_message_70 {z2764 : Int} (h0 : z2764 < 256) (h1 : 0 ≤ z2764 ∧ z2764 ≤ 256) : 0 ≤ z2764 ∧ z2764 ≤ 255 := by omega
theorem vc_X12_message_71 {N z2764 : Int} (h0 : (257 - z2764) < N + 1) (h1 : z2764 < 256) (h2 : 0 ≤ z2764 ∧ z2764 ≤ 255) : (257 - (z2764 + 1)) < N := by omega
theorem vc_X12_message_72  : (257 - 0) < ((258 : Nat) : Int) := by omega
theorem vc_X12_message_73 {z1783 : Int} (h0 : z1783 < 4) (h1 : 0 ≤ z1783 ∧ z1783 ≤ 4) : 0 ≤ z1783 ∧ z1783 ≤ 3 := by omega
theorem vc_X12_message_74 {N z1783 : Int} (h0 : (5 - z1783) < N + 1) (h1 : z1783 < 4) (h2 : 0 ≤ z1783 ∧ z1783 ≤ 3) : (5 - (z1783 + 1)) < N := by omega
theorem vc_X12_message_75  : (5 - 0) < ((6 : Nat) : Int) := by omega
set_option maxRecDepth 4000 in
set_option maxHeartbeats 4000000 in
theorem c_X12_message {l : Launch} {D : va_G} {c : Nat → ClassId} {H0 : Heap} {sa : Nat × Nat × (Nat → Int32)} {w : mW} {μ : mM} (hw : mWF w) (hT : mT w μ) (hIG1 : G1 μ) : sC (gG l D c H0 sa) mX12_message 5 0 0 [.ref 106] (mk w μ) (qI w [106001, 106088, 106091, 106093, 106096, 106097, 106098, 106099, 106101, 106102, 126999, 166999, 167999, 168999, 169999, 170999, 171999, 172999, 173999] μ (fun z μ1 => ((-2147483648) ≤ z ∧ z ≤ 2147483647) ∧ mG [(960, 1000)] μ μ1 ∧ G1 μ1 ∧ True)) := by
  refine sC.of rfl (by decide) (le_t rfl) ?_
  refine mr_lvE (lv' := [(0, .ref 106)]) rfl ?_
  refine mr_iconst (pc := 0) (z := 0) dX12_message_0 ?_
  refine mr_istore_n (pc := 1) (lv' := [(1, iv 0), (0, .ref 106)]) dX12_message_1 rfl (by decide) rfl ?_
  have L1785 : ∀ (nL1785 : Nat) (z1783 : Int) (μ1784 : mM), mT w μ1784 → mF [172999] w μ μ1784 → (0 ≤ z1783 ∧ z1783 ≤ 4) → G1 μ1784 → (5 - z1783) < (nL1785 : Int) → sV (gG l D c H0 sa) mX12_message (sRm 5 0 0) (sZ (gG l D c H0 sa) 0 0 (qI w [106001, 106088, 106091, 106093, 106096, 106097, 106098, 106099, 106101, 106102, 126999, 166999, 167999, 168999, 169999, 170999, 171999, 172999, 173999] μ (fun z μ1 => ((-2147483648) ≤ z ∧ z ≤ 2147483647) ∧ mG [(960, 1000)] μ μ1 ∧ G1 μ1 ∧ True))) 2 [(0, .ref 106), (1, iv z1783)] [] (mk w μ1784) 0 0 := by
    intro nL1785
    induction nL1785 with
    | zero => intro z1783 μ1784 T1787 F1788 h1786 I1790 h1791; exact ((vc_X12_message_1 h1791 h1786)).elim
    | succ nL1785 ih1792 =>
      intro z1783 μ1784 T1787 F1788 h1786 I1790 h1791
      refine mr_iload_n (pc := 2) (z := z1783) dX12_message_2 rfl rfl ?_
      refine mr_iconst (pc := 3) (z := 4) dX12_message_3 ?_
      refine mr_icmp_ge (pc := 4) (tgt := 21) dX12_message_4 (by decide) (r32 h1786 rfl) (r32 (rR (x := 4)) rfl) (fun h1798 => ?_) (fun h1798 => ?_)
      · have h1799 : 4 ≤ z1783 ∧ z1783 ≤ 4 := (vc_X12_message_2 h1798 h1786)
        refine mr_iconst (pc := 21) (z := 0) dX12_message_21 ?_
        refine mr_istore_n (pc := 22) (lv' := [(1, iv 0), (0, .ref 106)]) dX12_message_22 rfl (by decide) rfl ?_
        have L2766 : ∀ (nL2766 : Nat) (z2764 : Int) (μ2765 : mM), mT w μ2765 → mF [171999] w μ1784 μ2765 → (0 ≤ z2764 ∧ z2764 ≤ 256) → G1 μ2765 → (257 - z2764) < (nL2766 : Int) → sV (gG l D c H0 sa) mX12_message (sRm 5 0 0) (sZ (gG l D c H0 sa) 0 0 (qI w [106001, 106088, 106091, 106093, 106096, 106097, 106098, 106099, 106101, 106102, 126999, 166999, 167999, 168999, 169999, 170999, 171999, 172999, 173999] μ (fun z μ1 => ((-2147483648) ≤ z ∧ z ≤ 2147483647) ∧ mG [(960, 1000)] μ μ1 ∧ G1 μ1 ∧ True))) 23 [(0, .ref 106), (1, iv z2764)] [] (mk w μ2765) 0 0 := by
          intro nL2766
          induction nL2766 with
          | zero => intro z2764 μ2765 T2768 F2769 h2767 I2771 h2772; exact ((vc_X12_message_3 h2772 h2767)).elim
          | succ nL2766 ih2773 =>
            intro z2764 μ2765 T2768 F2769 h2767 I2771 h2772
            refine mr_iload_n (pc := 23) (z := z2764) dX12_message_23 rfl rfl ?_
            refine mr_sipush (pc := 24) (z := 256) dX12_message_24 (by decide) ?_
            refine mr_icmp_ge (pc := 27) (tgt := 43) dX12_message_27 (by decide) (r32 h2767 rfl) (r32 (rR (x := 256)) rfl) (fun h2779 => ?_) (fun h2779 => ?_)
            · have h2780 : 256 ≤ z2764 ∧ z2764 ≤ 256 := (vc_X12_message_4 h2779 h2767)
              refine sv_aload_n (pc := 43) dX12_message_43 rfl rfl ?_
              refine mr_iconst (pc := 44) (z := 0) dX12_message_44 ?_
              refine pf_X12_88 (pc := 45) dX12_message_45 wF_X12_625 (A_106 hw) T2768 (rW (c := 0) (d := 1000) (rR (x := 0)) rfl) fun μ2781 u2782 T2783 => ?_
              refine sv_aload_n (pc := 48) dX12_message_48 rfl rfl ?_
              refine mr_iconst (pc := 49) (z := 0) dX12_message_49 ?_
              refine pf_X12_91 (pc := 50) dX12_message_50 wF_X12_628 (A_106 hw) T2783 (rW (c := 0) (d := 1000) (rR (x := 0)) rfl) fun μ2784 u2785 T2786 => ?_
              refine sv_aload_n (pc := 53) dX12_message_53 rfl rfl ?_
              refine mr_iconst (pc := 54) (z := 0) dX12_message_54 ?_
              refine pf_X12_93 (pc := 55) dX12_message_55 wF_X12_652 (A_106 hw) T2786 (rW (c := 0) (d := 400) (rR (x := 0)) rfl) fun μ2787 u2788 T2789 => ?_
              refine sv_aload_n (pc := 58) dX12_message_58 rfl rfl ?_
              refine mr_iconst (pc := 59) (z := 0) dX12_message_59 ?_
              refine pf_X12_101 (pc := 60) dX12_message_60 wF_X12_637 (A_106 hw) T2789 (rW (c := 0) (d := 8) (rR (x := 0)) rfl) fun μ2790 u2791 T2792 => ?_
              refine sv_aload_n (pc := 63) dX12_message_63 rfl rfl ?_
              refine mr_iconst (pc := 64) (z := 0) dX12_message_64 ?_
              refine pf_X12_98 (pc := 65) dX12_message_65 wF_X12_631 (A_106 hw) T2792 (rW (c := 0) (d := 1) (rR (x := 0)) rfl) fun μ2793 u2794 T2795 => ?_
              refine sv_aload_n (pc := 68) dX12_message_68 rfl rfl ?_
              refine mr_iconst (pc := 69) (z := 0) dX12_message_69 ?_
              refine pf_X12_99 (pc := 70) dX12_message_70 wF_X12_634 (A_106 hw) T2795 (rW (c := 0) (d := 1) (rR (x := 0)) rfl) fun μ2796 u2797 T2798 => ?_
              refine mr_sipush (pc := 73) (z := 960) dX12_message_73 (by decide) ?_
              refine mr_istore_n (pc := 76) (lv' := [(1, iv 960), (0, .ref 106)]) dX12_message_76 rfl (by decide) rfl ?_
              refine sv_aload_n (pc := 77) dX12_message_77 rfl rfl ?_
              refine gf_X12_32 (pc := 78) dX12_message_78 wF_X12_148 (A_106 hw) T2798 ?_
              refine mr_iload_n (pc := 81) (z := 960) dX12_message_81 rfl rfl ?_
              refine mr_iconst (pc := 82) (z := 0) dX12_message_82 ?_
              refine ss_126 (pc := 83) dX12_message_83 (A_126 hw) T2798 (rIx (n := 84000) (rR (x := 960)) rfl) vc_X12_message_5 fun μ2799 u2800 T2801 => ?_
              refine sv_aload_n (pc := 84) dX12_message_84 rfl rfl ?_
              refine gf_X12_32 (pc := 85) dX12_message_85 wF_X12_148 (A_106 hw) T2801 ?_
              refine mr_iload_n (pc := 88) (z := 960) dX12_message_88 rfl rfl ?_
              refine mr_iconst (pc := 89) (z := 1) dX12_message_89 ?_
              refine mr_iadd (pc := 90) (x := 960) (y := 1) dX12_message_90 ?_
              refine mr_bipush (pc := 91) (z := 100) dX12_message_91 (by decide) ?_
              refine ss_126 (pc := 93) dX12_message_93 (A_126 hw) T2801 (rIx (n := 84000) (rAdd (e := 961) (f := 961) (rR (x := 960)) (rR (x := 1)) rfl) rfl) vc_X12_message_6 fun μ2802 u2803 T2804 => ?_
              refine mr_iconst (pc := 94) (z := 2) dX12_message_94 ?_
              refine mr_istore_n (pc := 95) (lv' := [(2, iv 2), (1, iv 960), (0, .ref 106)]) dX12_message_95 rfl (by decide) rfl ?_
              have L3233 : ∀ (nL3233 : Nat) (z3231 : Int) (μ3232 : mM), mT w μ3232 → mF [126999] w μ2802 μ3232 → mG [(960, 1000)] μ2802 μ3232 → (2 ≤ z3231 ∧ z3231 ≤ 6) → G1 μ3232 → (7 - z3231) < (nL3233 : Int) → sV (gG l D c H0 sa) mX12_message (sRm 5 0 0) (sZ (gG l D c H0 sa) 0 0 (qI w [106001, 106088, 106091, 106093, 106096, 106097, 106098, 106099, 106101, 106102, 126999, 166999, 167999, 168999, 169999, 170999, 171999, 172999, 173999] μ (fun z μ1 => ((-2147483648) ≤ z ∧ z ≤ 2147483647) ∧ mG [(960, 1000)] μ μ1 ∧ G1 μ1 ∧ True))) 96 [(0, .ref 106), (1, iv 960), (2, iv z3231)] [] (mk w μ3232) 0 0 := by
                intro nL3233
                induction nL3233 with
                | zero => intro z3231 μ3232 T3235 F3236 G3237 h3234 I3238 h3239; exact ((vc_X12_message_7 h3239 h3234)).elim
                | succ nL3233 ih3240 =>
                  intro z3231 μ3232 T3235 F3236 G3237 h3234 I3238 h3239
                  refine mr_iload_n (pc := 96) (z := z3231) dX12_message_96 rfl rfl ?_
                  refine mr_bipush (pc := 97) (z := 6) dX12_message_97 (by decide) ?_
                  refine mr_icmp_ge (pc := 99) (tgt := 117) dX12_message_99 (by decide) (r32 h3234 rfl) (r32 (rR (x := 6)) rfl) (fun h3246 => ?_) (fun h3246 => ?_)
                  · have h3247 : 6 ≤ z3231 ∧ z3231 ≤ 6 := (vc_X12_message_8 h3246 h3234)
                    refine sv_aload_n (pc := 117) dX12_message_117 rfl rfl ?_
                    refine mr_iconst (pc := 118) (z := 1) dX12_message_118 ?_
                    refine pf_X12_96 (pc := 119) dX12_message_119 wF_X12_655 (A_106 hw) T3235 (rW (c := 0) (d := 1) (rR (x := 1)) rfl) fun μ3248 u3249 T3250 => ?_
                    refine sv_aload_n (pc := 122) dX12_message_122 rfl rfl ?_
                    refine gf_X12_1 (pc := 123) dX12_message_123 wF_X12_1 (A_106 hw) T3250 fun z3251 q3252 h3253 => ?_
                    refine mr_iconst (pc := 126) (z := 2) dX12_message_126 ?_
                    have J3263 : ∀ (z3261 : Int), ((0 ≤ z3261 ∧ z3261 ≤ 65535)) → sV (gG l D c H0 sa) mX12_message (sRm 5 0 0) (sZ (gG l D c H0 sa) 0 0 (qI w [106001, 106088, 106091, 106093, 106096, 106097, 106098, 106099, 106101, 106102, 126999, 166999, 167999, 168999, 169999, 170999, 171999, 172999, 173999] μ (fun z μ1 => ((-2147483648) ≤ z ∧ z ≤ 2147483647) ∧ mG [(960, 1000)] μ μ1 ∧ G1 μ1 ∧ True))) 140 [(0, .ref 106)] [iv z3261] (mk w μ3248) 0 0 := by
                      intro z3261 h3262
                      refine mr_istore_n (pc := 140) (lv' := [(2, iv z3261), (0, .ref 106)]) dX12_message_140 rfl (by decide) rfl ?_
                      refine sv_aload_n (pc := 141) dX12_message_141 rfl rfl ?_
                      refine gk_X12_1 (pc := 142) dX12_message_142 wF_X12_1 (A_106 hw) q3252 ?_
                      refine mr_iconst (pc := 145) (z := 2) dX12_message_145 ?_
                      have J3351 : ∀ (μ3345 : mM), (mT w μ3345) → (mF [106088, 106091, 106093, 106098, 106099, 106101, 126999, 166999, 167999, 168999, 169999, 170999, 171999, 172999, 173999] w μ3248 μ3345) → (mG [(960, 1000)] μ3248 μ3345) → (G1 μ3345) → ((μ3345 106 (88) + μ3345 106 (91) ≤ 1000)) → sV (gG l D c H0 sa) mX12_message (sRm 5 0 0) (sZ (gG l D c H0 sa) 0 0 (qI w [106001, 106088, 106091, 106093, 106096, 106097, 106098, 106099, 106101, 106102, 126999, 166999, 167999, 168999, 169999, 170999, 171999, 172999, 173999] μ (fun z μ1 => ((-2147483648) ≤ z ∧ z ≤ 2147483647) ∧ mG [(960, 1000)] μ μ1 ∧ G1 μ1 ∧ True))) 303 [(0, .ref 106)] [] (mk w μ3345) 0 0 := by
                        intro μ3345 T3346 F3347 G3348 I3349 h3350
                        obtain ⟨z3352, q3353⟩ : ∃ z, μ3345 106 88 = z := ⟨_, rfl⟩
                        have h3354 : (0 ≤ z3352 ∧ z3352 ≤ 1000) := by rw [← q3353]; exact T3346 106 106 (A_106 hw) 88
                        obtain ⟨z3355, q3356⟩ : ∃ z, μ3345 106 91 = z := ⟨_, rfl⟩
                        have h3357 : (0 ≤ z3355 ∧ z3355 ≤ 1000) := by rw [← q3356]; exact T3346 106 106 (A_106 hw) 91
                        have h3358 : z3352 + z3355 ≤ 1000 := by have h := h3350; rw [q3353, q3356] at h; exact h
                        refine sv_aload_n (pc := 303) dX12_message_303 rfl rfl ?_
                        refine mr_iconst (pc := 304) (z := 0) dX12_message_304 ?_
                        refine pf_X12_1 (pc := 305) dX12_message_305 wF_X12_1 (A_106 hw) T3346 (rW (c := 0) (d := 1000) (rR (x := 0)) rfl) fun μ3359 u3360 T3361 => ?_
                        refine sv_aload_n (pc := 308) dX12_message_308 rfl rfl ?_
                        refine sv_aload_n (pc := 309) dX12_message_309 rfl rfl ?_
                        refine gf_X12_95 (pc := 310) dX12_message_310 wF_X12_478 (A_106 hw) T3361 ?_
                        refine mr_iconst (pc := 313) (z := 1) dX12_message_313 ?_
                        refine la_172 (pc := 314) dX12_message_314 (A_172 hw) T3361 (rIx (n := 4) (rR (x := 1)) rfl) fun z3362 q3363 h3364 => ?_
                        refine mr_ldc (pc := 315) (z := (-99999999)) dX12_message_315 wG_X12_29 (by decide) ?_
                        have J3368 : ∀ (z3366 : Int), ((0 ≤ z3366 ∧ z3366 ≤ 1)) → sV (gG l D c H0 sa) mX12_message (sRm 5 0 0) (sZ (gG l D c H0 sa) 0 0 (qI w [106001, 106088, 106091, 106093, 106096, 106097, 106098, 106099, 106101, 106102, 126999, 166999, 167999, 168999, 169999, 170999, 171999, 172999, 173999] μ (fun z μ1 => ((-2147483648) ≤ z ∧ z ≤ 2147483647) ∧ mG [(960, 1000)] μ μ1 ∧ G1 μ1 ∧ True))) 325 [(0, .ref 106)] [iv z3366, .ref 106] (mk w μ3359) 0 0 := by
                          intro z3366 h3367
                          refine pf_X12_97 (pc := 325) dX12_message_325 wF_X12_665 (A_106 hw) T3361 h3367 fun μ3369 u3370 T3371 => ?_
                          refine sv_aload_n (pc := 328) dX12_message_328 rfl rfl ?_
                          refine gk_X12_97 (pc := 329) dX12_message_329 wF_X12_665 (A_106 hw) u3370.1 ?_
                          have J3435 : ∀ (μ3430 : mM), (mT w μ3430) → (mF [106088, 106091, 166999, 167999] w μ3369 μ3430) → (G1 μ3430) → sV (gG l D c H0 sa) mX12_message (sRm 5 0 0) (sZ (gG l D c H0 sa) 0 0 (qI w [106001, 106088, 106091, 106093, 106096, 106097, 106098, 106099, 106101, 106102, 126999, 166999, 167999, 168999, 169999, 170999, 171999, 172999, 173999] μ (fun z μ1 => ((-2147483648) ≤ z ∧ z ≤ 2147483647) ∧ mG [(960, 1000)] μ μ1 ∧ G1 μ1 ∧ True))) 407 [(0, .ref 106)] [] (mk w μ3430) 0 0 := by
                            intro μ3430 T3431 F3432 I3434
                            refine sv_aload_n (pc := 407) dX12_message_407 rfl rfl ?_
                            refine sv_aload_n (pc := 408) dX12_message_408 rfl rfl ?_
                            refine gf_X12_95 (pc := 409) dX12_message_409 wF_X12_478 (A_106 hw) T3431 ?_
                            refine mr_iconst (pc := 412) (z := 1) dX12_message_412 ?_
                            refine lk_172 (pc := 413) dX12_message_413 (A_172 hw) (rIx (n := 4) (rR (x := 1)) rfl) (F3432.f (A_172 hw) rfl (u3370.f (Or.inl (mAt.ne (A_106 hw) (A_172 hw) rfl)) q3363)) ?_
                            refine mr_ldc (pc := 414) (z := (-99999999)) dX12_message_414 wG_X12_29 (by decide) ?_
                            have J3447 : ∀ (z3445 : Int), ((0 ≤ z3445 ∧ z3445 ≤ 3)) → sV (gG l D c H0 sa) mX12_message (sRm 5 0 0) (sZ (gG l D c H0 sa) 0 0 (qI w [106001, 106088, 106091, 106093, 106096, 106097, 106098, 106099, 106101, 106102, 126999, 166999, 167999, 168999, 169999, 170999, 171999, 172999, 173999] μ (fun z μ1 => ((-2147483648) ≤ z ∧ z ≤ 2147483647) ∧ mG [(960, 1000)] μ μ1 ∧ G1 μ1 ∧ True))) 454 [(0, .ref 106)] [iv z3445, .ref 106] (mk w μ3430) 0 0 := by
                              intro z3445 h3446
                              refine pf_X12_102 (pc := 454) dX12_message_454 wF_X12_668 (A_106 hw) T3431 h3446 fun μ3448 u3449 T3450 => ?_
                              refine sv_aload_n (pc := 457) dX12_message_457 rfl rfl ?_
                              refine gk_X12_102 (pc := 458) dX12_message_458 wF_X12_668 (A_106 hw) u3449.1 ?_
                              exact mr_iret dX12_message_461 rfl (le_t rfl) (le_t rfl) T3450 (mF.up (mF.call (mF.up (mF.up (mF.call (mF.up (mF.call (mF.up (mF.up (mF.up (mF.up (mF.up (mF.up (mF.up (mF.up (mF.call (mF.call mF.refl F1788 rfl) F2769 rfl) (A_106 hw) u2782 rfl) (A_106 hw) u2785 rfl) (A_106 hw) u2788 rfl) (A_106 hw) u2791 rfl) (A_106 hw) u2794 rfl) (A_106 hw) u2797 rfl) (A_126 hw) u2800 rfl) (A_126 hw) u2803 rfl) F3236 rfl) (A_106 hw) u3249 rfl) F3347 rfl) (A_106 hw) u3360 rfl) (A_106 hw) u3370 rfl) F3432 rfl) (A_106 hw) u3449 rfl) ⟨(rW (c := (-2147483648)) (d := 2147483647) h3446 rfl), (mG.upO (mG.fr (mG.upO (mG.upO (mG.call (mG.upO (mG.call (mG.up (mG.up (mG.upO (mG.upO (mG.upO (mG.upO (mG.upO (mG.upO (mG.fr (mG.fr mG.refl F1788 (A_126 hw) rfl) F2769 (A_126 hw) rfl) u2782 rfl) u2785 rfl) u2788 rfl) u2791 rfl) u2794 rfl) u2797 rfl) u2800 List.mem_cons_self vc_X12_message_9) u2803 List.mem_cons_self vc_X12_message_10) G3237 (List.forall_mem_cons.mpr ⟨⟨_, List.mem_cons_self, vc_X12_message_11⟩, (fun _ h => absurd h List.not_mem_nil)⟩)) u3249 rfl) G3348 (List.forall_mem_cons.mpr ⟨⟨_, List.mem_cons_self, vc_X12_message_11⟩, (fun _ h => absurd h List.not_mem_nil)⟩)) u3360 rfl) u3370 rfl) F3432 (A_126 hw) rfl) u3449 rfl), (G1.keep I3434 hw ((mF.up mF.refl (A_106 hw) u3449 rfl) : mF [106102] w μ3430 μ3448) rfl rfl ((mG.upO mG.refl u3449 rfl) : mG [] μ3430 μ3448) (fun _ h => absurd h List.not_mem_nil)), trivial⟩
                            refine mr_icmp_eq (pc := 416) (tgt := 423) dX12_message_416 (by decide) h3364 (r32 (rR (x := (-99999999))) rfl) (fun h3451 => ?_) (fun h3451 => ?_)
                            · have h3452 : (-99999999) ≤ z3362 ∧ z3362 ≤ (-99999999) := (vc_X12_message_12 h3451 h3364)
                              refine sv_aload_n (pc := 423) dX12_message_423 rfl rfl ?_
                              refine gf_X12_95 (pc := 424) dX12_message_424 wF_X12_478 (A_106 hw) T3431 ?_
                              refine mr_iconst (pc := 427) (z := 2) dX12_message_427 ?_
                              refine la_172 (pc := 428) dX12_message_428 (A_172 hw) T3431 (rIx (n := 4) (rR (x := 2)) rfl) fun z3453 q3454 h3455 => ?_
                              refine mr_ldc (pc := 429) (z := (-99999999)) dX12_message_429 wG_X12_29 (by decide) ?_
                              refine mr_icmp_eq (pc := 431) (tgt := 438) dX12_message_431 (by decide) h3455 (r32 (rR (x := (-99999999))) rfl) (fun h3456 => ?_) (fun h3456 => ?_)
                              · have h3457 : (-99999999) ≤ z3453 ∧ z3453 ≤ (-99999999) := (vc_X12_message_13 h3456 h3455)
                                refine sv_aload_n (pc := 438) dX12_message_438 rfl rfl ?_
                                refine gf_X12_95 (pc := 439) dX12_message_439 wF_X12_478 (A_106 hw) T3431 ?_
                                refine mr_iconst (pc := 442) (z := 3) dX12_message_442 ?_
                                refine la_172 (pc := 443) dX12_message_443 (A_172 hw) T3431 (rIx (n := 4) (rR (x := 3)) rfl) fun z3458 q3459 h3460 => ?_
                                refine mr_ldc (pc := 444) (z := (-99999999)) dX12_message_444 wG_X12_29 (by decide) ?_
                                refine mr_icmp_eq (pc := 446) (tgt := 453) dX12_message_446 (by decide) h3460 (r32 (rR (x := (-99999999))) rfl) (fun h3461 => ?_) (fun h3461 => ?_)
                                · have h3462 : (-99999999) ≤ z3458 ∧ z3458 ≤ (-99999999) := (vc_X12_message_14 h3461 h3460)
                                  refine mr_iconst (pc := 453) (z := 0) dX12_message_453 ?_
                                  exact J3447 0 (rW (c := 0) (d := 3) (rR (x := 0)) rfl)
                                refine mr_iconst (pc := 449) (z := 3) dX12_message_449 ?_
                                refine sv_goto (pc := 450) (tgt := 454) dX12_message_450 (by decide) ?_
                                exact J3447 3 (rW (c := 0) (d := 3) (rR (x := 3)) rfl)
                              refine mr_iconst (pc := 434) (z := 2) dX12_message_434 ?_
                              refine sv_goto (pc := 435) (tgt := 454) dX12_message_435 (by decide) ?_
                              exact J3447 2 (rW (c := 0) (d := 3) (rR (x := 2)) rfl)
                            refine mr_iconst (pc := 419) (z := 1) dX12_message_419 ?_
                            refine sv_goto (pc := 420) (tgt := 454) dX12_message_420 (by decide) ?_
                            exact J3447 1 (rW (c := 0) (d := 3) (rR (x := 1)) rfl)
                          refine mr_if_ne (pc := 332) (tgt := 407) dX12_message_332 (by decide) (r32 h3367 rfl) (fun h3463 => ?_) (fun h3463 => ?_)
                          · have h3464 : 1 ≤ z3366 ∧ z3366 ≤ 1 := (vc_X12_message_15 h3463 h3367)
                            exact J3435 μ3369 T3371 mF.refl (G1.keep I3349 hw ((mF.up (mF.up mF.refl (A_106 hw) u3360 rfl) (A_106 hw) u3370 rfl) : mF [106001, 106097] w μ3345 μ3369) rfl rfl ((mG.upO (mG.upO mG.refl u3360 rfl) u3370 rfl) : mG [] μ3345 μ3369) (fun _ h => absurd h List.not_mem_nil))
                          have h3465 : 0 ≤ z3366 ∧ z3366 ≤ 0 := (vc_X12_message_16 h3463 h3367)
                          refine sv_aload_n (pc := 335) dX12_message_335 rfl rfl ?_
                          refine gf_X12_95 (pc := 336) dX12_message_336 wF_X12_478 (A_106 hw) T3371 ?_
                          refine mr_iconst (pc := 339) (z := 2) dX12_message_339 ?_
                          refine la_172 (pc := 340) dX12_message_340 (A_172 hw) T3371 (rIx (n := 4) (rR (x := 2)) rfl) fun z3466 q3467 h3468 => ?_
                          refine mr_ldc (pc := 341) (z := (-99999999)) dX12_message_341 wG_X12_29 (by decide) ?_
                          refine mr_icmp_eq (pc := 343) (tgt := 407) dX12_message_343 (by decide) h3468 (r32 (rR (x := (-99999999))) rfl) (fun h3469 => ?_) (fun h3469 => ?_)
                          · have h3470 : (-99999999) ≤ z3466 ∧ z3466 ≤ (-99999999) := (vc_X12_message_17 h3469 h3468)
                            exact J3435 μ3369 T3371 mF.refl (G1.keep I3349 hw ((mF.up (mF.up mF.refl (A_106 hw) u3360 rfl) (A_106 hw) u3370 rfl) : mF [106001, 106097] w μ3345 μ3369) rfl rfl ((mG.upO (mG.upO mG.refl u3360 rfl) u3370 rfl) : mG [] μ3345 μ3369) (fun _ h => absurd h List.not_mem_nil))
                          refine mr_iconst (pc := 346) (z := 0) dX12_message_346 ?_
                          refine mr_istore_n (pc := 347) (lv' := [(3, iv 0), (0, .ref 106)]) dX12_message_347 rfl (by decide) rfl ?_
                          have L4123 : ∀ (nL4123 : Nat) (z4121 : Int) (μ4122 : mM) (f_g : Int) (f_c : Int), mT w μ4122 → mF [106088, 166999, 167999] w μ3369 μ4122 → μ4122 106 (88) = f_g → μ4122 106 (91) = f_c → (0 ≤ z4121 ∧ z4121 ≤ 1000) → (f_g + f_c ≤ 1000 + z4121) → (z4121 ≤ f_c) → G1 μ4122 → (1001 - z4121) < (nL4123 : Int) → sV (gG l D c H0 sa) mX12_message (sRm 5 0 0) (sZ (gG l D c H0 sa) 0 0 (qI w [106001, 106088, 106091, 106093, 106096, 106097, 106098, 106099, 106101, 106102, 126999, 166999, 167999, 168999, 169999, 170999, 171999, 172999, 173999] μ (fun z μ1 => ((-2147483648) ≤ z ∧ z ≤ 2147483647) ∧ mG [(960, 1000)] μ μ1 ∧ G1 μ1 ∧ True))) 348 [(0, .ref 106), (3, iv z4121)] [] (mk w μ4122) 0 0 := by
                            intro nL4123
                            induction nL4123 with
                            | zero => intro z4121 μ4122 f_g f_c T4125 F4126 q4132 q4133 h4124 h4128 h4129 I4130 h4131; exact ((vc_X12_message_18 h4131 h4128 h4129 h4124)).elim
                            | succ nL4123 ih4134 =>
                              intro z4121 μ4122 f_g f_c T4125 F4126 q4132 q4133 h4124 h4128 h4129 I4130 h4131
                              have h4135 : (0 ≤ f_g ∧ f_g ≤ 1000) := by rw [← q4132]; exact T4125 106 106 (A_106 hw) (88)
                              have h4136 : (0 ≤ f_c ∧ f_c ≤ 1000) := by rw [← q4133]; exact T4125 106 106 (A_106 hw) (91)
                              refine mr_iload_n (pc := 348) (z := z4121) dX12_message_348 rfl rfl ?_
                              refine sv_aload_n (pc := 349) dX12_message_349 rfl rfl ?_
                              refine gk_X12_91 (pc := 350) dX12_message_350 wF_X12_628 (A_106 hw) q4133 ?_
                              refine mr_icmp_ge (pc := 353) (tgt := 402) dX12_message_353 (by decide) (r32 h4124 rfl) (r32 h4136 rfl) (fun h4154 => ?_) (fun h4154 => ?_)
                              · refine sv_aload_n (pc := 402) dX12_message_402 rfl rfl ?_
                                refine mr_iconst (pc := 403) (z := 0) dX12_message_403 ?_
                                refine pf_X12_91 (pc := 404) dX12_message_404 wF_X12_628 (A_106 hw) T4125 (rW (c := 0) (d := 1000) (rR (x := 0)) rfl) fun μ4155 u4156 T4157 => ?_
                                refine mr_lvS (lv' := [(0, .ref 106)]) (List.forall_mem_cons.mpr ⟨rfl, fun _ h => absurd h List.not_mem_nil⟩) ?_
                                exact J3435 μ4155 T4157 (mF.up (mF.call mF.refl F4126 rfl) (A_106 hw) u4156 rfl) (G1.keep I4130 hw ((mF.up mF.refl (A_106 hw) u4156 rfl) : mF [106091] w μ4122 μ4155) rfl rfl ((mG.upO mG.refl u4156 rfl) : mG [] μ4122 μ4155) (fun _ h => absurd h List.not_mem_nil))
                              have h4158 : 0 ≤ z4121 ∧ z4121 ≤ 999 := (vc_X12_message_19 h4154 h4128 h4129 h4136 h4135 h4124)
                              have h4159 : 1 ≤ f_c ∧ f_c ≤ 1000 := (vc_X12_message_20 h4154 h4128 h4129 h4136 h4135 h4158)
                              refine sv_aload_n (pc := 356) dX12_message_356 rfl rfl ?_
                              refine gf_X12_86 (pc := 357) dX12_message_357 wF_X12_460 (A_106 hw) T4125 ?_
                              refine sv_aload_n (pc := 360) dX12_message_360 rfl rfl ?_
                              refine gk_X12_88 (pc := 361) dX12_message_361 wF_X12_625 (A_106 hw) q4132 ?_
                              refine sv_aload_n (pc := 364) dX12_message_364 rfl rfl ?_
                              refine gf_X12_89 (pc := 365) dX12_message_365 wF_X12_466 (A_106 hw) T4125 ?_
                              refine mr_iload_n (pc := 368) (z := z4121) dX12_message_368 rfl rfl ?_
                              refine la_168 (pc := 369) dX12_message_369 (A_168 hw) T4125 (rIx (n := 1000) h4158 rfl) fun z4160 q4161 h4162 => ?_
                              refine ss_166 (pc := 370) dX12_message_370 (A_166 hw) T4125 (vc_X12_message_21 h4128 h4129 h4154 h4159 h4135 h4158) h4162 fun μ4163 u4164 T4165 => ?_
                              refine sv_aload_n (pc := 371) dX12_message_371 rfl rfl ?_
                              refine gf_X12_87 (pc := 372) dX12_message_372 wF_X12_463 (A_106 hw) T4165 ?_
                              refine sv_aload_n (pc := 375) dX12_message_375 rfl rfl ?_
                              refine gk_X12_88 (pc := 376) dX12_message_376 wF_X12_625 (A_106 hw) (u4164.f (Or.inl (mAt.ne (A_166 hw) (A_106 hw) rfl)) q4132) ?_
                              refine sv_aload_n (pc := 379) dX12_message_379 rfl rfl ?_
                              refine gf_X12_90 (pc := 380) dX12_message_380 wF_X12_469 (A_106 hw) T4165 ?_
                              refine mr_iload_n (pc := 383) (z := z4121) dX12_message_383 rfl rfl ?_
                              refine la_169 (pc := 384) dX12_message_384 (A_169 hw) T4165 (rIx (n := 1000) h4158 rfl) fun z4166 q4167 h4168 => ?_
                              refine ss_167 (pc := 385) dX12_message_385 (A_167 hw) T4165 (vc_X12_message_21 h4128 h4129 h4154 h4159 h4135 h4158) h4168 fun μ4169 u4170 T4171 => ?_
                              refine sv_aload_n (pc := 386) dX12_message_386 rfl rfl ?_
                              refine sv_dup (pc := 387) dX12_message_387 rfl ?_
                              refine gk_X12_88 (pc := 388) dX12_message_388 wF_X12_625 (A_106 hw) (u4170.f (Or.inl (mAt.ne (A_167 hw) (A_106 hw) rfl)) (u4164.f (Or.inl (mAt.ne (A_166 hw) (A_106 hw) rfl)) q4132)) ?_
                              refine mr_iconst (pc := 391) (z := 1) dX12_message_391 ?_
                              refine mr_iadd (pc := 392) (x := f_g) (y := 1) dX12_message_392 ?_
                              refine pf_X12_88 (pc := 393) dX12_message_393 wF_X12_625 (A_106 hw) T4171 (vc_X12_message_22 h4128 h4129 h4154 h4159 h4135 h4158) fun μ4172 u4173 T4174 => ?_
                              refine mr_iinc (pc := 396) (lv' := [(3, iv (z4121 + 1)), (0, .ref 106)]) dX12_message_396 rfl (by decide) rfl ?_
                              refine sv_goto (pc := 399) (tgt := 348) dX12_message_399 (by decide) ?_
                              refine mr_lvS (lv' := [(0, .ref 106), (3, iv (z4121 + 1))]) (List.forall_mem_cons.mpr ⟨rfl, List.forall_mem_cons.mpr ⟨rfl, fun _ h => absurd h List.not_mem_nil⟩⟩) ?_
                              exact ih4134 (z4121 + 1) μ4172 (f_g + 1) f_c T4174 (mF.up (mF.up (mF.up (mF.call mF.refl F4126 rfl) (A_166 hw) u4164 rfl) (A_167 hw) u4170 rfl) (A_106 hw) u4173 rfl) u4173.1 (u4173.f (Or.inr (by decide)) (u4170.f (Or.inl (mAt.ne (A_167 hw) (A_106 hw) rfl)) (u4164.f (Or.inl (mAt.ne (A_166 hw) (A_106 hw) rfl)) q4133))) (rW (c := 0) (d := 1000) (rAdd (e := 1) (f := 1000) h4158 (rR (x := 1)) rfl) rfl) (vc_X12_message_23 h4128 h4129 h4154 h4159 h4135 h4158) (vc_X12_message_24 h4128 h4129 h4154 h4159 h4135 h4158) (G1.keep I4130 hw ((mF.up (mF.up (mF.up mF.refl (A_166 hw) u4164 rfl) (A_167 hw) u4170 rfl) (A_106 hw) u4173 rfl) : mF [106088, 166999, 167999] w μ4122 μ4172) rfl rfl ((mG.upO (mG.upO (mG.upO mG.refl u4164 rfl) u4170 rfl) u4173 rfl) : mG [] μ4122 μ4172) (fun _ h => absurd h List.not_mem_nil)) (vc_X12_message_25 (nS h4131) h4128 h4129 h4154 h4159 h4135 h4158)
                          refine mr_lvS (lv' := [(0, .ref 106), (3, iv 0)]) (List.forall_mem_cons.mpr ⟨rfl, List.forall_mem_cons.mpr ⟨rfl, fun _ h => absurd h List.not_mem_nil⟩⟩) ?_
                          exact L4123 1002 0 μ3369 z3352 z3355 T3371 mF.refl (u3370.f (Or.inr (by decide)) (u3360.f (Or.inr (by decide)) q3353)) (u3370.f (Or.inr (by decide)) (u3360.f (Or.inr (by decide)) q3356)) (rW (c := 0) (d := 1000) (rR (x := 0)) rfl) (vc_X12_message_26 h3358 h3354 h3357) (vc_X12_message_27 h3358 h3354 h3357) (G1.keep I3349 hw ((mF.up (mF.up mF.refl (A_106 hw) u3360 rfl) (A_106 hw) u3370 rfl) : mF [106001, 106097] w μ3345 μ3369) rfl rfl ((mG.upO (mG.upO mG.refl u3360 rfl) u3370 rfl) : mG [] μ3345 μ3369) (fun _ h => absurd h List.not_mem_nil)) vc_X12_message_28
                        refine mr_icmp_eq (pc := 317) (tgt := 324) dX12_message_317 (by decide) h3364 (r32 (rR (x := (-99999999))) rfl) (fun h4175 => ?_) (fun h4175 => ?_)
                        · have h4176 : (-99999999) ≤ z3362 ∧ z3362 ≤ (-99999999) := (vc_X12_message_12 h4175 h3364)
                          refine mr_iconst (pc := 324) (z := 0) dX12_message_324 ?_
                          exact J3368 0 (rW (c := 0) (d := 1) (rR (x := 0)) rfl)
                        refine mr_iconst (pc := 320) (z := 1) dX12_message_320 ?_
                        refine sv_goto (pc := 321) (tgt := 325) dX12_message_321 (by decide) ?_
                        exact J3368 1 (rW (c := 0) (d := 1) (rR (x := 1)) rfl)
                      refine mr_icmp_lt (pc := 146) (tgt := 159) dX12_message_146 (by decide) (r32 h3253 rfl) (r32 (rR (x := 2)) rfl) (fun h4177 => ?_) (fun h4177 => ?_)
                      · have h4178 : 0 ≤ z3251 ∧ z3251 ≤ 1 := (vc_X12_message_29 h4177 h3253)
                        refine sv_aload_n (pc := 159) dX12_message_159 rfl rfl ?_
                        refine mr_iconst (pc := 160) (z := 1) dX12_message_160 ?_
                        refine mr_iconst (pc := 161) (z := 0) dX12_message_161 ?_
                        refine mr_cVV (pc := 162) (c_X12_fails hw T3250 (rW (c := 0) (d := 3) (rR (x := 1)) rfl) (rW (c := (-2147483648)) (d := 2147483647) (rR (x := 0)) rfl)) (gOk _ _ _ _ _) dX12_message_162 (tX12_fails _ _ _ _ _) ⟨wV_X12_fails, wL_X12_fails⟩ wM_X12_620 (gCX12 _ _ _ _ _) rfl (A_106 hw) rfl ⟨le_t rfl, le_t rfl⟩ ⟨le_t rfl, le_t rfl⟩ rfl (le_t rfl) fun μ4179 T4180 F4181 h4182 => ?_
                        refine sv_goto (pc := 165) (tgt := 303) dX12_message_165 (by decide) ?_
                        refine mr_lvS (lv' := [(0, .ref 106)]) (List.forall_mem_cons.mpr ⟨rfl, fun _ h => absurd h List.not_mem_nil⟩) ?_
                        exact J3351 μ4179 T4180 (mF.call mF.refl F4181 rfl) (mG.fr mG.refl F4181 (A_126 hw) rfl) (G1.keep I3238 hw ((mF.call (mF.up mF.refl (A_106 hw) u3249 rfl) F4181 rfl) : mF [106096, 172999] w μ3232 μ4179) rfl rfl ((mG.fr (mG.upO mG.refl u3249 rfl) F4181 (A_126 hw) rfl) : mG [] μ3232 μ4179) (fun _ h => absurd h List.not_mem_nil)) (by rw [(F4181.f (A_106 hw) rfl (u3249.f (Or.inr (by decide)) (F3236.f (A_106 hw) rfl (u2803.f (Or.inl (mAt.ne (A_126 hw) (A_106 hw) rfl)) (u2800.f (Or.inl (mAt.ne (A_126 hw) (A_106 hw) rfl)) (u2797.f (Or.inr (by decide)) (u2794.f (Or.inr (by decide)) (u2791.f (Or.inr (by decide)) (u2788.f (Or.inr (by decide)) (u2785.f (Or.inr (by decide)) u2782.1)))))))))), (F4181.f (A_106 hw) rfl (u3249.f (Or.inr (by decide)) (F3236.f (A_106 hw) rfl (u2803.f (Or.inl (mAt.ne (A_126 hw) (A_106 hw) rfl)) (u2800.f (Or.inl (mAt.ne (A_126 hw) (A_106 hw) rfl)) (u2797.f (Or.inr (by decide)) (u2794.f (Or.inr (by decide)) (u2791.f (Or.inr (by decide)) (u2788.f (Or.inr (by decide)) u2785.1)))))))))]; exact vc_X12_message_30)
                      have h4183 : 2 ≤ z3251 ∧ z3251 ≤ 1000 := (vc_X12_message_31 h4177 h3253)
                      refine mr_iconst (pc := 149) (z := 2) dX12_message_149 ?_
                      refine mr_iload_n (pc := 150) (z := z3261) dX12_message_150 rfl rfl ?_
                      refine mr_iadd (pc := 151) (x := 2) (y := z3261) dX12_message_151 ?_
                      refine sv_aload_n (pc := 152) dX12_message_152 rfl rfl ?_
                      refine gk_X12_1 (pc := 153) dX12_message_153 wF_X12_1 (A_106 hw) q3252 ?_
                      refine mr_icmp_le (pc := 156) (tgt := 168) dX12_message_156 (by decide) (r32 (rAdd (e := 2) (f := 65537) (rR (x := 2)) h3262 rfl) rfl) (r32 h4183 rfl) (fun h4184 => ?_) (fun h4184 => ?_)
                      · have h4185 : 0 ≤ z3261 ∧ z3261 ≤ 998 := (vc_X12_message_32 h4184 h4177 h4183 h3262)
                        refine sv_aload_n (pc := 168) dX12_message_168 rfl rfl ?_
                        refine mr_iconst (pc := 169) (z := 2) dX12_message_169 ?_
                        refine mr_iconst (pc := 170) (z := 2) dX12_message_170 ?_
                        refine mr_iload_n (pc := 171) (z := z3261) dX12_message_171 rfl rfl ?_
                        refine mr_iadd (pc := 172) (x := 2) (y := z3261) dX12_message_172 ?_
                        refine mr_iconst (pc := 173) (z := 1) dX12_message_173 ?_
                        refine mr_cVI (pc := 174) (c_X12_partOf hw T3250 (rW (c := 0) (d := 1000) (rR (x := 2)) rfl) (rW (c := 0) (d := 1000) (rAdd (e := 2) (f := 1000) (rR (x := 2)) h4185 rfl) rfl) (rW (c := 0) (d := 1) (rR (x := 1)) rfl) q3252 (u3249.f (Or.inr (by decide)) (F3236.f (A_106 hw) rfl (u2803.f (Or.inl (mAt.ne (A_126 hw) (A_106 hw) rfl)) (u2800.f (Or.inl (mAt.ne (A_126 hw) (A_106 hw) rfl)) (u2797.f (Or.inr (by decide)) (u2794.f (Or.inr (by decide)) (u2791.f (Or.inr (by decide)) (u2788.f (Or.inr (by decide)) (u2785.f (Or.inr (by decide)) u2782.1))))))))) (u3249.f (Or.inr (by decide)) (F3236.f (A_106 hw) rfl (u2803.f (Or.inl (mAt.ne (A_126 hw) (A_106 hw) rfl)) (u2800.f (Or.inl (mAt.ne (A_126 hw) (A_106 hw) rfl)) (u2797.f (Or.inr (by decide)) (u2794.f (Or.inr (by decide)) (u2791.f (Or.inr (by decide)) (u2788.f (Or.inr (by decide)) u2785.1)))))))) (vc_X12_message_33 h4184 h4177 h4183 h4185) (vc_X12_message_34 h4177 h4184 h4183 h4185) (vc_X12_message_35 h4184 h4177 h4183 h4185)) (gOk _ _ _ _ _) dX12_message_174 (tX12_partOf _ _ _ _ _) ⟨wV_X12_partOf, wL_X12_partOf⟩ wM_X12_658 (gCX12 _ _ _ _ _) rfl (A_106 hw) rfl ⟨le_t rfl, le_t rfl⟩ ⟨le_t rfl, le_t rfl⟩ rfl (le_t rfl) fun z4190 μ4186 T4187 F4188 h4189 => ?_
                        obtain ⟨z4191, z4193, q4192, q4194, h4195⟩ := h4189
                        have h4196 : (0 ≤ z4191 ∧ z4191 ≤ 1000) := by rw [← q4192]; exact T4187 106 106 (A_106 hw) 88
                        have h4197 : (0 ≤ z4193 ∧ z4193 ≤ 1000) := by rw [← q4194]; exact T4187 106 106 (A_106 hw) 91
                        refine sv_pop (pc := 177) dX12_message_177 rfl ?_
                        refine mr_iconst (pc := 178) (z := 2) dX12_message_178 ?_
                        refine mr_iload_n (pc := 179) (z := z3261) dX12_message_179 rfl rfl ?_
                        refine mr_iadd (pc := 180) (x := 2) (y := z3261) dX12_message_180 ?_
                        refine mr_istore_n (pc := 181) (lv' := [(3, iv (2 + z3261)), (2, iv z3261), (0, .ref 106)]) dX12_message_181 rfl (by decide) rfl ?_
                        refine mr_iload_n (pc := 182) (z := (2 + z3261)) dX12_message_182 rfl rfl ?_
                        refine mr_iconst (pc := 183) (z := 2) dX12_message_183 ?_
                        refine mr_iadd (pc := 184) (x := (2 + z3261)) (y := 2) dX12_message_184 ?_
                        refine sv_aload_n (pc := 185) dX12_message_185 rfl rfl ?_
                        refine gk_X12_1 (pc := 186) dX12_message_186 wF_X12_1 (A_106 hw) (F4188.f (A_106 hw) rfl q3252) ?_
                        have J4207 : ∀ (z4205 : Int), ((0 ≤ z4205 ∧ z4205 ≤ 65535)) → sV (gG l D c H0 sa) mX12_message (sRm 5 0 0) (sZ (gG l D c H0 sa) 0 0 (qI w [106001, 106088, 106091, 106093, 106096, 106097, 106098, 106099, 106101, 106102, 126999, 166999, 167999, 168999, 169999, 170999, 171999, 172999, 173999] μ (fun z μ1 => ((-2147483648) ≤ z ∧ z ≤ 2147483647) ∧ mG [(960, 1000)] μ μ1 ∧ G1 μ1 ∧ True))) 202 [(0, .ref 106), (3, iv (2 + z3261))] [iv z4205] (mk w μ4186) 0 0 := by
                          intro z4205 h4206
                          refine mr_istore (pc := 202) (lv' := [(4, iv z4205), (0, .ref 106), (3, iv (2 + z3261))]) dX12_message_202 (by decide) rfl ?_
                          refine mr_iload_n (pc := 204) (z := (2 + z3261)) dX12_message_204 rfl rfl ?_
                          refine mr_iconst (pc := 205) (z := 2) dX12_message_205 ?_
                          refine mr_iadd (pc := 206) (x := (2 + z3261)) (y := 2) dX12_message_206 ?_
                          refine sv_aload_n (pc := 207) dX12_message_207 rfl rfl ?_
                          refine gk_X12_1 (pc := 208) dX12_message_208 wF_X12_1 (A_106 hw) (F4188.f (A_106 hw) rfl q3252) ?_
                          refine mr_icmp_gt (pc := 211) (tgt := 227) dX12_message_211 (by decide) (r32 (rAdd (e := 4) (f := 1002) (rAdd (e := 2) (f := 1000) (rR (x := 2)) h4185 rfl) (rR (x := 2)) rfl) rfl) (r32 h4183 rfl) (fun h4208 => ?_) (fun h4208 => ?_)
                          · refine sv_aload_n (pc := 227) dX12_message_227 rfl rfl ?_
                            refine mr_iconst (pc := 228) (z := 1) dX12_message_228 ?_
                            refine mr_iload_n (pc := 229) (z := (2 + z3261)) dX12_message_229 rfl rfl ?_
                            refine mr_cVV (pc := 230) (c_X12_fails hw T4187 (rW (c := 0) (d := 3) (rR (x := 1)) rfl) (rW (c := (-2147483648)) (d := 2147483647) (rAdd (e := 2) (f := 1000) (rR (x := 2)) h4185 rfl) rfl)) (gOk _ _ _ _ _) dX12_message_230 (tX12_fails _ _ _ _ _) ⟨wV_X12_fails, wL_X12_fails⟩ wM_X12_620 (gCX12 _ _ _ _ _) rfl (A_106 hw) rfl ⟨le_t rfl, le_t rfl⟩ ⟨le_t rfl, le_t rfl⟩ rfl (le_t rfl) fun μ4209 T4210 F4211 h4212 => ?_
                            refine sv_goto (pc := 233) (tgt := 303) dX12_message_233 (by decide) ?_
                            refine mr_lvS (lv' := [(0, .ref 106)]) (List.forall_mem_cons.mpr ⟨rfl, fun _ h => absurd h List.not_mem_nil⟩) ?_
                            exact J3351 μ4209 T4210 (mF.call (mF.call mF.refl F4188 rfl) F4211 rfl) (mG.fr (mG.fr mG.refl F4188 (A_126 hw) rfl) F4211 (A_126 hw) rfl) (G1.keep I3238 hw ((mF.call (mF.call (mF.up mF.refl (A_106 hw) u3249 rfl) F4188 rfl) F4211 rfl) : mF [106088, 106091, 106096, 166999, 167999, 168999, 169999, 172999] w μ3232 μ4209) rfl rfl ((mG.fr (mG.fr (mG.upO mG.refl u3249 rfl) F4188 (A_126 hw) rfl) F4211 (A_126 hw) rfl) : mG [] μ3232 μ4209) (fun _ h => absurd h List.not_mem_nil)) (by rw [(F4211.f (A_106 hw) rfl q4192), (F4211.f (A_106 hw) rfl q4194)]; exact (vc_X12_message_36 h4195.2.1 h4184 h4208 h4183 h4185 h4196 h4197))
                          have h4213 : 0 ≤ z3261 ∧ z3261 ≤ 996 := (vc_X12_message_37 h4208 h4177 h4184 h4195.2.1 h4183 h4185 h4196 h4197)
                          have h4214 : 4 ≤ z3251 ∧ z3251 ≤ 1000 := (vc_X12_message_38 h4208 h4177 h4184 h4195.2.1 h4183 h4213 h4196 h4197)
                          refine mr_iload_n (pc := 214) (z := (2 + z3261)) dX12_message_214 rfl rfl ?_
                          refine mr_iconst (pc := 215) (z := 2) dX12_message_215 ?_
                          refine mr_iadd (pc := 216) (x := (2 + z3261)) (y := 2) dX12_message_216 ?_
                          refine mr_iload (pc := 217) (z := z4205) dX12_message_217 rfl ?_
                          refine mr_iadd (pc := 219) (x := ((2 + z3261) + 2)) (y := z4205) dX12_message_219 ?_
                          refine sv_aload_n (pc := 220) dX12_message_220 rfl rfl ?_
                          refine gk_X12_1 (pc := 221) dX12_message_221 wF_X12_1 (A_106 hw) (F4188.f (A_106 hw) rfl q3252) ?_
                          refine mr_icmp_le (pc := 224) (tgt := 236) dX12_message_224 (by decide) (r32 (rAdd (e := 4) (f := 66535) (rAdd (e := 4) (f := 1000) (rAdd (e := 2) (f := 998) (rR (x := 2)) h4213 rfl) (rR (x := 2)) rfl) h4206 rfl) rfl) (r32 h4214 rfl) (fun h4215 => ?_) (fun h4215 => ?_)
                          · have h4216 : 0 ≤ z4205 ∧ z4205 ≤ 996 := (vc_X12_message_39 h4215 h4177 h4184 h4195.2.1 h4208 h4214 h4213 h4196 h4197 h4206)
                            refine sv_aload_n (pc := 236) dX12_message_236 rfl rfl ?_
                            refine mr_iload_n (pc := 237) (z := (2 + z3261)) dX12_message_237 rfl rfl ?_
                            refine mr_iconst (pc := 238) (z := 2) dX12_message_238 ?_
                            refine mr_iadd (pc := 239) (x := (2 + z3261)) (y := 2) dX12_message_239 ?_
                            refine mr_iload_n (pc := 240) (z := (2 + z3261)) dX12_message_240 rfl rfl ?_
                            refine mr_iconst (pc := 241) (z := 2) dX12_message_241 ?_
                            refine mr_iadd (pc := 242) (x := (2 + z3261)) (y := 2) dX12_message_242 ?_
                            refine mr_iload (pc := 243) (z := z4205) dX12_message_243 rfl ?_
                            refine mr_iadd (pc := 245) (x := ((2 + z3261) + 2)) (y := z4205) dX12_message_245 ?_
                            refine mr_cVV (pc := 246) (c_X12_attributes hw T4187 (rW (c := 0) (d := 1002) (rAdd (e := 4) (f := 1000) (rAdd (e := 2) (f := 998) (rR (x := 2)) h4213 rfl) (rR (x := 2)) rfl) rfl) (vc_X12_message_40 h4184 h4195.2.1 h4208 h4215 h4177 h4214 h4213 h4196 h4197 h4216) (F4188.f (A_106 hw) rfl q3252) (F4188.f (A_106 hw) rfl (u3249.f (Or.inr (by decide)) (F3236.f (A_106 hw) rfl (u2803.f (Or.inl (mAt.ne (A_126 hw) (A_106 hw) rfl)) (u2800.f (Or.inl (mAt.ne (A_126 hw) (A_106 hw) rfl)) (u2797.f (Or.inr (by decide)) (u2794.f (Or.inr (by decide)) (u2791.f (Or.inr (by decide)) u2788.1)))))))) (vc_X12_message_41 h4177 h4184 h4195.2.1 h4208 h4215 h4214 h4213 h4196 h4197 h4216) (vc_X12_message_42 h4184 h4195.2.1 h4208 h4215 h4177 h4214 h4213 h4196 h4197 h4216)) (gOk _ _ _ _ _) dX12_message_246 (tX12_attributes _ _ _ _ _) ⟨wV_X12_attributes, wL_X12_attributes⟩ wM_X12_662 (gCX12 _ _ _ _ _) rfl (A_106 hw) rfl ⟨le_t rfl, le_t rfl⟩ ⟨le_t rfl, le_t rfl⟩ rfl (le_t rfl) fun μ4217 T4218 F4219 h4220 => ?_
                            refine sv_aload_n (pc := 249) dX12_message_249 rfl rfl ?_
                            refine mr_iload_n (pc := 250) (z := (2 + z3261)) dX12_message_250 rfl rfl ?_
                            refine mr_iconst (pc := 251) (z := 2) dX12_message_251 ?_
                            refine mr_iadd (pc := 252) (x := (2 + z3261)) (y := 2) dX12_message_252 ?_
                            refine mr_iload (pc := 253) (z := z4205) dX12_message_253 rfl ?_
                            refine mr_iadd (pc := 255) (x := ((2 + z3261) + 2)) (y := z4205) dX12_message_255 ?_
                            refine sv_aload_n (pc := 256) dX12_message_256 rfl rfl ?_
                            refine gk_X12_1 (pc := 257) dX12_message_257 wF_X12_1 (A_106 hw) (F4219.f (A_106 hw) rfl (F4188.f (A_106 hw) rfl q3252)) ?_
                            refine mr_iconst (pc := 260) (z := 0) dX12_message_260 ?_
                            refine mr_cVI (pc := 261) (c_X12_partOf hw T4218 (vc_X12_message_40 h4184 h4195.2.1 h4208 h4215 h4177 h4214 h4213 h4196 h4197 h4216) (rW (c := 0) (d := 1000) h4214 rfl) (rW (c := 0) (d := 1) (rR (x := 0)) rfl) (F4219.f (A_106 hw) rfl (F4188.f (A_106 hw) rfl q3252)) (F4219.f (A_106 hw) rfl q4192) (F4219.f (A_106 hw) rfl q4194) (vc_X12_message_41 h4177 h4184 h4195.2.1 h4208 h4215 h4214 h4213 h4196 h4197 h4216) (vc_X12_message_43 h4177 h4184 h4208 h4215 h4195.2.1 h4214 h4213 h4196 h4197 h4216) (vc_X12_message_44 h4177 h4184 h4195.2.1 h4208 h4215 h4214 h4213 h4196 h4197 h4216)) (gOk _ _ _ _ _) dX12_message_261 (tX12_partOf _ _ _ _ _) ⟨wV_X12_partOf, wL_X12_partOf⟩ wM_X12_658 (gCX12 _ _ _ _ _) rfl (A_106 hw) rfl ⟨le_t rfl, le_t rfl⟩ ⟨le_t rfl, le_t rfl⟩ rfl (le_t rfl) fun z4225 μ4221 T4222 F4223 h4224 => ?_
                            obtain ⟨z4226, z4228, q4227, q4229, h4230⟩ := h4224
                            have h4231 : (0 ≤ z4226 ∧ z4226 ≤ 1000) := by rw [← q4227]; exact T4222 106 106 (A_106 hw) 88
                            have h4232 : (0 ≤ z4228 ∧ z4228 ≤ 1000) := by rw [← q4229]; exact T4222 106 106 (A_106 hw) 91
                            refine sv_pop (pc := 264) dX12_message_264 rfl ?_
                            refine sv_aload_n (pc := 265) dX12_message_265 rfl rfl ?_
                            refine gk_X12_1 (pc := 266) dX12_message_266 wF_X12_1 (A_106 hw) (F4223.f (A_106 hw) rfl (F4219.f (A_106 hw) rfl (F4188.f (A_106 hw) rfl q3252))) ?_
                            refine mr_iload_n (pc := 269) (z := (2 + z3261)) dX12_message_269 rfl rfl ?_
                            refine mr_iconst (pc := 270) (z := 2) dX12_message_270 ?_
                            refine mr_iadd (pc := 271) (x := (2 + z3261)) (y := 2) dX12_message_271 ?_
                            refine mr_iload (pc := 272) (z := z4205) dX12_message_272 rfl ?_
                            refine mr_iadd (pc := 274) (x := ((2 + z3261) + 2)) (y := z4205) dX12_message_274 ?_
                            refine mr_icmp_le (pc := 275) (tgt := 303) dX12_message_275 (by decide) (r32 h4214 rfl) (r32 (rAdd (e := 4) (f := 1996) (rAdd (e := 4) (f := 1000) (rAdd (e := 2) (f := 998) (rR (x := 2)) h4213 rfl) (rR (x := 2)) rfl) h4216 rfl) rfl) (fun h4233 => ?_) (fun h4233 => ?_)
                            · refine mr_lvS (lv' := [(0, .ref 106)]) (List.forall_mem_cons.mpr ⟨rfl, fun _ h => absurd h List.not_mem_nil⟩) ?_
                              exact J3351 μ4221 T4222 (mF.call (mF.call (mF.call mF.refl F4188 rfl) F4219 rfl) F4223 rfl) (mG.fr (mG.call (mG.fr mG.refl F4188 (A_126 hw) rfl) h4220.1 (List.forall_mem_cons.mpr ⟨⟨_, List.mem_cons_self, vc_X12_message_11⟩, (fun _ h => absurd h List.not_mem_nil)⟩)) F4223 (A_126 hw) rfl) (G1.keep I3238 hw ((mF.call (mF.call (mF.call (mF.up mF.refl (A_106 hw) u3249 rfl) F4188 rfl) F4219 rfl) F4223 rfl) : mF [106088, 106091, 106093, 106096, 106098, 106099, 106101, 126999, 166999, 167999, 168999, 169999, 170999, 171999, 172999, 173999] w μ3232 μ4221) rfl rfl ((mG.fr (mG.call (mG.fr (mG.upO mG.refl u3249 rfl) F4188 (A_126 hw) rfl) h4220.1 (List.forall_mem_cons.mpr ⟨⟨_, List.mem_cons_self, vc_X12_message_11⟩, (fun _ h => absurd h List.not_mem_nil)⟩)) F4223 (A_126 hw) rfl) : mG [(960, 1000)] μ3232 μ4221) (List.forall_mem_cons.mpr ⟨vc_X12_message_45, (fun _ h => absurd h List.not_mem_nil)⟩)) (by rw [q4227, q4229]; exact (vc_X12_message_46 h4230.2.1 h4177 h4184 h4195.2.1 h4208 h4215 h4233 h4214 h4213 h4196 h4197 h4216 h4231 h4232))
                            have h4234 : 5 ≤ z3251 ∧ z3251 ≤ 1000 := (vc_X12_message_47 h4233 h4177 h4184 h4195.2.1 h4208 h4215 h4230.2.1 h4214 h4213 h4196 h4197 h4216 h4231 h4232)
                            have h4235 : 0 ≤ z3261 ∧ z3261 ≤ 995 := (vc_X12_message_48 h4233 h4177 h4184 h4195.2.1 h4208 h4215 h4230.2.1 h4234 h4213 h4196 h4197 h4216 h4231 h4232)
                            have h4236 : 0 ≤ z4205 ∧ z4205 ≤ 995 := (vc_X12_message_49 h4233 h4177 h4184 h4195.2.1 h4208 h4215 h4230.2.1 h4234 h4235 h4196 h4197 h4216 h4231 h4232)
                            refine sv_aload_n (pc := 278) dX12_message_278 rfl rfl ?_
                            refine gf_X12_98 (pc := 279) dX12_message_279 wF_X12_631 (A_106 hw) T4222 fun z4237 q4238 h4239 => ?_
                            refine mr_if_eq (pc := 282) (tgt := 292) dX12_message_282 (by decide) (r32 h4239 rfl) (fun h4240 => ?_) (fun h4240 => ?_)
                            · have h4241 : 0 ≤ z4237 ∧ z4237 ≤ 0 := (vc_X12_message_50 h4240 h4239)
                              refine sv_aload_n (pc := 292) dX12_message_292 rfl rfl ?_
                              refine mr_iconst (pc := 293) (z := 2) dX12_message_293 ?_
                              refine mr_iload_n (pc := 294) (z := (2 + z3261)) dX12_message_294 rfl rfl ?_
                              refine mr_iconst (pc := 295) (z := 2) dX12_message_295 ?_
                              refine mr_iadd (pc := 296) (x := (2 + z3261)) (y := 2) dX12_message_296 ?_
                              refine mr_iload (pc := 297) (z := z4205) dX12_message_297 rfl ?_
                              refine mr_iadd (pc := 299) (x := ((2 + z3261) + 2)) (y := z4205) dX12_message_299 ?_
                              refine mr_cVV (pc := 300) (c_X12_fails hw T4222 (rW (c := 0) (d := 3) (rR (x := 2)) rfl) (rW (c := (-2147483648)) (d := 2147483647) (rAdd (e := 4) (f := 1994) (rAdd (e := 4) (f := 999) (rAdd (e := 2) (f := 997) (rR (x := 2)) h4235 rfl) (rR (x := 2)) rfl) h4236 rfl) rfl)) (gOk _ _ _ _ _) dX12_message_300 (tX12_fails _ _ _ _ _) ⟨wV_X12_fails, wL_X12_fails⟩ wM_X12_620 (gCX12 _ _ _ _ _) rfl (A_106 hw) rfl ⟨le_t rfl, le_t rfl⟩ ⟨le_t rfl, le_t rfl⟩ rfl (le_t rfl) fun μ4242 T4243 F4244 h4245 => ?_
                              refine mr_lvS (lv' := [(0, .ref 106)]) (List.forall_mem_cons.mpr ⟨rfl, fun _ h => absurd h List.not_mem_nil⟩) ?_
                              exact J3351 μ4242 T4243 (mF.call (mF.call (mF.call (mF.call mF.refl F4188 rfl) F4219 rfl) F4223 rfl) F4244 rfl) (mG.fr (mG.fr (mG.call (mG.fr mG.refl F4188 (A_126 hw) rfl) h4220.1 (List.forall_mem_cons.mpr ⟨⟨_, List.mem_cons_self, vc_X12_message_11⟩, (fun _ h => absurd h List.not_mem_nil)⟩)) F4223 (A_126 hw) rfl) F4244 (A_126 hw) rfl) (G1.keep I3238 hw ((mF.call (mF.call (mF.call (mF.call (mF.up mF.refl (A_106 hw) u3249 rfl) F4188 rfl) F4219 rfl) F4223 rfl) F4244 rfl) : mF [106088, 106091, 106093, 106096, 106098, 106099, 106101, 126999, 166999, 167999, 168999, 169999, 170999, 171999, 172999, 173999] w μ3232 μ4242) rfl rfl ((mG.fr (mG.fr (mG.call (mG.fr (mG.upO mG.refl u3249 rfl) F4188 (A_126 hw) rfl) h4220.1 (List.forall_mem_cons.mpr ⟨⟨_, List.mem_cons_self, vc_X12_message_11⟩, (fun _ h => absurd h List.not_mem_nil)⟩)) F4223 (A_126 hw) rfl) F4244 (A_126 hw) rfl) : mG [(960, 1000)] μ3232 μ4242) (List.forall_mem_cons.mpr ⟨vc_X12_message_45, (fun _ h => absurd h List.not_mem_nil)⟩)) (by rw [(F4244.f (A_106 hw) rfl q4227), (F4244.f (A_106 hw) rfl q4229)]; exact (vc_X12_message_51 h4230.2.1 h4177 h4184 h4195.2.1 h4208 h4215 h4233 h4234 h4235 h4196 h4197 h4236 h4231 h4232))
                            have h4246 : 1 ≤ z4237 ∧ z4237 ≤ 1 := (vc_X12_message_52 h4240 h4239)
                            refine sv_aload_n (pc := 285) dX12_message_285 rfl rfl ?_
                            refine gf_X12_99 (pc := 286) dX12_message_286 wF_X12_634 (A_106 hw) T4222 fun z4247 q4248 h4249 => ?_
                            refine mr_if_ne (pc := 289) (tgt := 303) dX12_message_289 (by decide) (r32 h4249 rfl) (fun h4250 => ?_) (fun h4250 => ?_)
                            · have h4251 : 1 ≤ z4247 ∧ z4247 ≤ 1 := (vc_X12_message_53 h4250 h4249)
                              refine mr_lvS (lv' := [(0, .ref 106)]) (List.forall_mem_cons.mpr ⟨rfl, fun _ h => absurd h List.not_mem_nil⟩) ?_
                              exact J3351 μ4221 T4222 (mF.call (mF.call (mF.call mF.refl F4188 rfl) F4219 rfl) F4223 rfl) (mG.fr (mG.call (mG.fr mG.refl F4188 (A_126 hw) rfl) h4220.1 (List.forall_mem_cons.mpr ⟨⟨_, List.mem_cons_self, vc_X12_message_11⟩, (fun _ h => absurd h List.not_mem_nil)⟩)) F4223 (A_126 hw) rfl) (G1.keep I3238 hw ((mF.call (mF.call (mF.call (mF.up mF.refl (A_106 hw) u3249 rfl) F4188 rfl) F4219 rfl) F4223 rfl) : mF [106088, 106091, 106093, 106096, 106098, 106099, 106101, 126999, 166999, 167999, 168999, 169999, 170999, 171999, 172999, 173999] w μ3232 μ4221) rfl rfl ((mG.fr (mG.call (mG.fr (mG.upO mG.refl u3249 rfl) F4188 (A_126 hw) rfl) h4220.1 (List.forall_mem_cons.mpr ⟨⟨_, List.mem_cons_self, vc_X12_message_11⟩, (fun _ h => absurd h List.not_mem_nil)⟩)) F4223 (A_126 hw) rfl) : mG [(960, 1000)] μ3232 μ4221) (List.forall_mem_cons.mpr ⟨vc_X12_message_45, (fun _ h => absurd h List.not_mem_nil)⟩)) (by rw [q4227, q4229]; exact (vc_X12_message_51 h4230.2.1 h4177 h4184 h4195.2.1 h4208 h4215 h4233 h4234 h4235 h4196 h4197 h4236 h4231 h4232))
                            have h4252 : 0 ≤ z4247 ∧ z4247 ≤ 0 := (vc_X12_message_54 h4250 h4249)
                            refine sv_aload_n (pc := 292) dX12_message_292 rfl rfl ?_
                            refine mr_iconst (pc := 293) (z := 2) dX12_message_293 ?_
                            refine mr_iload_n (pc := 294) (z := (2 + z3261)) dX12_message_294 rfl rfl ?_
                            refine mr_iconst (pc := 295) (z := 2) dX12_message_295 ?_
                            refine mr_iadd (pc := 296) (x := (2 + z3261)) (y := 2) dX12_message_296 ?_
                            refine mr_iload (pc := 297) (z := z4205) dX12_message_297 rfl ?_
                            refine mr_iadd (pc := 299) (x := ((2 + z3261) + 2)) (y := z4205) dX12_message_299 ?_
                            refine mr_cVV (pc := 300) (c_X12_fails hw T4222 (rW (c := 0) (d := 3) (rR (x := 2)) rfl) (rW (c := (-2147483648)) (d := 2147483647) (rAdd (e := 4) (f := 1994) (rAdd (e := 4) (f := 999) (rAdd (e := 2) (f := 997) (rR (x := 2)) h4235 rfl) (rR (x := 2)) rfl) h4236 rfl) rfl)) (gOk _ _ _ _ _) dX12_message_300 (tX12_fails _ _ _ _ _) ⟨wV_X12_fails, wL_X12_fails⟩ wM_X12_620 (gCX12 _ _ _ _ _) rfl (A_106 hw) rfl ⟨le_t rfl, le_t rfl⟩ ⟨le_t rfl, le_t rfl⟩ rfl (le_t rfl) fun μ4253 T4254 F4255 h4256 => ?_
                            refine mr_lvS (lv' := [(0, .ref 106)]) (List.forall_mem_cons.mpr ⟨rfl, fun _ h => absurd h List.not_mem_nil⟩) ?_
                            exact J3351 μ4253 T4254 (mF.call (mF.call (mF.call (mF.call mF.refl F4188 rfl) F4219 rfl) F4223 rfl) F4255 rfl) (mG.fr (mG.fr (mG.call (mG.fr mG.refl F4188 (A_126 hw) rfl) h4220.1 (List.forall_mem_cons.mpr ⟨⟨_, List.mem_cons_self, vc_X12_message_11⟩, (fun _ h => absurd h List.not_mem_nil)⟩)) F4223 (A_126 hw) rfl) F4255 (A_126 hw) rfl) (G1.keep I3238 hw ((mF.call (mF.call (mF.call (mF.call (mF.up mF.refl (A_106 hw) u3249 rfl) F4188 rfl) F4219 rfl) F4223 rfl) F4255 rfl) : mF [106088, 106091, 106093, 106096, 106098, 106099, 106101, 126999, 166999, 167999, 168999, 169999, 170999, 171999, 172999, 173999] w μ3232 μ4253) rfl rfl ((mG.fr (mG.fr (mG.call (mG.fr (mG.upO mG.refl u3249 rfl) F4188 (A_126 hw) rfl) h4220.1 (List.forall_mem_cons.mpr ⟨⟨_, List.mem_cons_self, vc_X12_message_11⟩, (fun _ h => absurd h List.not_mem_nil)⟩)) F4223 (A_126 hw) rfl) F4255 (A_126 hw) rfl) : mG [(960, 1000)] μ3232 μ4253) (List.forall_mem_cons.mpr ⟨vc_X12_message_45, (fun _ h => absurd h List.not_mem_nil)⟩)) (by rw [(F4255.f (A_106 hw) rfl q4227), (F4255.f (A_106 hw) rfl q4229)]; exact (vc_X12_message_51 h4230.2.1 h4177 h4184 h4195.2.1 h4208 h4215 h4233 h4234 h4235 h4196 h4197 h4236 h4231 h4232))
                          refine sv_aload_n (pc := 227) dX12_message_227 rfl rfl ?_
                          refine mr_iconst (pc := 228) (z := 1) dX12_message_228 ?_
                          refine mr_iload_n (pc := 229) (z := (2 + z3261)) dX12_message_229 rfl rfl ?_
                          refine mr_cVV (pc := 230) (c_X12_fails hw T4187 (rW (c := 0) (d := 3) (rR (x := 1)) rfl) (rW (c := (-2147483648)) (d := 2147483647) (rAdd (e := 2) (f := 998) (rR (x := 2)) h4213 rfl) rfl)) (gOk _ _ _ _ _) dX12_message_230 (tX12_fails _ _ _ _ _) ⟨wV_X12_fails, wL_X12_fails⟩ wM_X12_620 (gCX12 _ _ _ _ _) rfl (A_106 hw) rfl ⟨le_t rfl, le_t rfl⟩ ⟨le_t rfl, le_t rfl⟩ rfl (le_t rfl) fun μ4257 T4258 F4259 h4260 => ?_
                          refine sv_goto (pc := 233) (tgt := 303) dX12_message_233 (by decide) ?_
                          refine mr_lvS (lv' := [(0, .ref 106)]) (List.forall_mem_cons.mpr ⟨rfl, fun _ h => absurd h List.not_mem_nil⟩) ?_
                          exact J3351 μ4257 T4258 (mF.call (mF.call mF.refl F4188 rfl) F4259 rfl) (mG.fr (mG.fr mG.refl F4188 (A_126 hw) rfl) F4259 (A_126 hw) rfl) (G1.keep I3238 hw ((mF.call (mF.call (mF.up mF.refl (A_106 hw) u3249 rfl) F4188 rfl) F4259 rfl) : mF [106088, 106091, 106096, 166999, 167999, 168999, 169999, 172999] w μ3232 μ4257) rfl rfl ((mG.fr (mG.fr (mG.upO mG.refl u3249 rfl) F4188 (A_126 hw) rfl) F4259 (A_126 hw) rfl) : mG [] μ3232 μ4257) (fun _ h => absurd h List.not_mem_nil)) (by rw [(F4259.f (A_106 hw) rfl q4192), (F4259.f (A_106 hw) rfl q4194)]; exact (vc_X12_message_55 h4195.2.1 h4184 h4208 h4215 h4214 h4213 h4196 h4197 h4206))
                        refine mr_icmp_gt (pc := 189) (tgt := 201) dX12_message_189 (by decide) (r32 (rAdd (e := 4) (f := 1002) (rAdd (e := 2) (f := 1000) (rR (x := 2)) h4185 rfl) (rR (x := 2)) rfl) rfl) (r32 h4183 rfl) (fun h4261 => ?_) (fun h4261 => ?_)
                        · refine mr_iconst (pc := 201) (z := 0) dX12_message_201 ?_
                          refine mr_lvS (lv' := [(0, .ref 106), (3, iv (2 + z3261))]) (List.forall_mem_cons.mpr ⟨rfl, List.forall_mem_cons.mpr ⟨rfl, fun _ h => absurd h List.not_mem_nil⟩⟩) ?_
                          exact J4207 0 (rW (c := 0) (d := 65535) (rR (x := 0)) rfl)
                        have h4262 : 0 ≤ z3261 ∧ z3261 ≤ 996 := (vc_X12_message_37 h4261 h4177 h4184 h4195.2.1 h4183 h4185 h4196 h4197)
                        have h4263 : 4 ≤ z3251 ∧ z3251 ≤ 1000 := (vc_X12_message_38 h4261 h4177 h4184 h4195.2.1 h4183 h4262 h4196 h4197)
                        refine sv_aload_n (pc := 192) dX12_message_192 rfl rfl ?_
                        refine mr_iload_n (pc := 193) (z := (2 + z3261)) dX12_message_193 rfl rfl ?_
                        refine mr_iconst (pc := 194) (z := 2) dX12_message_194 ?_
                        refine mr_cVP (pc := 195) (c_X12_number_f2 hw T4187 (rW (c := 0) (d := 1000) (rAdd (e := 2) (f := 998) (rR (x := 2)) h4262 rfl) rfl) (rW (c := 0) (d := 2) (rR (x := 2)) rfl) (F4188.f (A_106 hw) rfl q3252) (vc_X12_message_56 h4177 h4184 h4195.2.1 h4261 h4263 h4262 h4196 h4197)) (gOk _ _ _ _ _) dX12_message_195 (tX12_number _ _ _ _ _) ⟨wV_X12_number, wL_X12_number⟩ wM_X12_623 (gCX12 _ _ _ _ _) rfl (A_106 hw) rfl ⟨le_t rfl, le_t rfl⟩ ⟨le_t rfl, le_t rfl⟩ rfl (le_t rfl) fun z4268 h4267 => ?_
                        refine sv_goto (pc := 198) (tgt := 202) dX12_message_198 (by decide) ?_
                        refine mr_lvS (lv' := [(0, .ref 106), (3, iv (2 + z3261))]) (List.forall_mem_cons.mpr ⟨rfl, List.forall_mem_cons.mpr ⟨rfl, fun _ h => absurd h List.not_mem_nil⟩⟩) ?_
                        exact J4207 z4268 h4267.1
                      have h4269 : 1 ≤ z3261 ∧ z3261 ≤ 65535 := (vc_X12_message_57 h4184 h4177 h4183 h3262)
                      refine sv_aload_n (pc := 159) dX12_message_159 rfl rfl ?_
                      refine mr_iconst (pc := 160) (z := 1) dX12_message_160 ?_
                      refine mr_iconst (pc := 161) (z := 0) dX12_message_161 ?_
                      refine mr_cVV (pc := 162) (c_X12_fails hw T3250 (rW (c := 0) (d := 3) (rR (x := 1)) rfl) (rW (c := (-2147483648)) (d := 2147483647) (rR (x := 0)) rfl)) (gOk _ _ _ _ _) dX12_message_162 (tX12_fails _ _ _ _ _) ⟨wV_X12_fails, wL_X12_fails⟩ wM_X12_620 (gCX12 _ _ _ _ _) rfl (A_106 hw) rfl ⟨le_t rfl, le_t rfl⟩ ⟨le_t rfl, le_t rfl⟩ rfl (le_t rfl) fun μ4270 T4271 F4272 h4273 => ?_
                      refine sv_goto (pc := 165) (tgt := 303) dX12_message_165 (by decide) ?_
                      refine mr_lvS (lv' := [(0, .ref 106)]) (List.forall_mem_cons.mpr ⟨rfl, fun _ h => absurd h List.not_mem_nil⟩) ?_
                      exact J3351 μ4270 T4271 (mF.call mF.refl F4272 rfl) (mG.fr mG.refl F4272 (A_126 hw) rfl) (G1.keep I3238 hw ((mF.call (mF.up mF.refl (A_106 hw) u3249 rfl) F4272 rfl) : mF [106096, 172999] w μ3232 μ4270) rfl rfl ((mG.fr (mG.upO mG.refl u3249 rfl) F4272 (A_126 hw) rfl) : mG [] μ3232 μ4270) (fun _ h => absurd h List.not_mem_nil)) (by rw [(F4272.f (A_106 hw) rfl (u3249.f (Or.inr (by decide)) (F3236.f (A_106 hw) rfl (u2803.f (Or.inl (mAt.ne (A_126 hw) (A_106 hw) rfl)) (u2800.f (Or.inl (mAt.ne (A_126 hw) (A_106 hw) rfl)) (u2797.f (Or.inr (by decide)) (u2794.f (Or.inr (by decide)) (u2791.f (Or.inr (by decide)) (u2788.f (Or.inr (by decide)) (u2785.f (Or.inr (by decide)) u2782.1)))))))))), (F4272.f (A_106 hw) rfl (u3249.f (Or.inr (by decide)) (F3236.f (A_106 hw) rfl (u2803.f (Or.inl (mAt.ne (A_126 hw) (A_106 hw) rfl)) (u2800.f (Or.inl (mAt.ne (A_126 hw) (A_106 hw) rfl)) (u2797.f (Or.inr (by decide)) (u2794.f (Or.inr (by decide)) (u2791.f (Or.inr (by decide)) (u2788.f (Or.inr (by decide)) u2785.1)))))))))]; exact vc_X12_message_30)
                    refine mr_icmp_lt (pc := 127) (tgt := 139) dX12_message_127 (by decide) (r32 h3253 rfl) (r32 (rR (x := 2)) rfl) (fun h4274 => ?_) (fun h4274 => ?_)
                    · have h4275 : 0 ≤ z3251 ∧ z3251 ≤ 1 := (vc_X12_message_29 h4274 h3253)
                      refine mr_iconst (pc := 139) (z := 0) dX12_message_139 ?_
                      refine mr_lvS (lv' := [(0, .ref 106)]) (List.forall_mem_cons.mpr ⟨rfl, fun _ h => absurd h List.not_mem_nil⟩) ?_
                      exact J3263 0 (rW (c := 0) (d := 65535) (rR (x := 0)) rfl)
                    have h4276 : 2 ≤ z3251 ∧ z3251 ≤ 1000 := (vc_X12_message_31 h4274 h3253)
                    refine sv_aload_n (pc := 130) dX12_message_130 rfl rfl ?_
                    refine mr_iconst (pc := 131) (z := 0) dX12_message_131 ?_
                    refine mr_iconst (pc := 132) (z := 2) dX12_message_132 ?_
                    refine mr_cVP (pc := 133) (c_X12_number_f2 hw T3250 (rW (c := 0) (d := 1000) (rR (x := 0)) rfl) (rW (c := 0) (d := 2) (rR (x := 2)) rfl) q3252 (vc_X12_message_58 h4274 h4276)) (gOk _ _ _ _ _) dX12_message_133 (tX12_number _ _ _ _ _) ⟨wV_X12_number, wL_X12_number⟩ wM_X12_623 (gCX12 _ _ _ _ _) rfl (A_106 hw) rfl ⟨le_t rfl, le_t rfl⟩ ⟨le_t rfl, le_t rfl⟩ rfl (le_t rfl) fun z4281 h4280 => ?_
                    refine sv_goto (pc := 136) (tgt := 140) dX12_message_136 (by decide) ?_
                    refine mr_lvS (lv' := [(0, .ref 106)]) (List.forall_mem_cons.mpr ⟨rfl, fun _ h => absurd h List.not_mem_nil⟩) ?_
                    exact J3263 z4281 h4280.1
                  have h4282 : 2 ≤ z3231 ∧ z3231 ≤ 5 := (vc_X12_message_59 h3246 h3234)
                  refine sv_aload_n (pc := 102) dX12_message_102 rfl rfl ?_
                  refine gf_X12_32 (pc := 103) dX12_message_103 wF_X12_148 (A_106 hw) T3235 ?_
                  refine mr_iload_n (pc := 106) (z := 960) dX12_message_106 rfl rfl ?_
                  refine mr_iload_n (pc := 107) (z := z3231) dX12_message_107 rfl rfl ?_
                  refine mr_iadd (pc := 108) (x := 960) (y := z3231) dX12_message_108 ?_
                  refine mr_iconst (pc := 109) (z := 0) dX12_message_109 ?_
                  refine ss_126 (pc := 110) dX12_message_110 (A_126 hw) T3235 (rIx (n := 84000) (rAdd (e := 962) (f := 965) (rR (x := 960)) h4282 rfl) rfl) (vc_X12_message_60 h3246 h4282) fun μ4283 u4284 T4285 => ?_
                  refine mr_iinc (pc := 111) (lv' := [(2, iv (z3231 + 1)), (0, .ref 106), (1, iv 960)]) dX12_message_111 rfl (by decide) rfl ?_
                  refine sv_goto (pc := 114) (tgt := 96) dX12_message_114 (by decide) ?_
                  refine mr_lvS (lv' := [(0, .ref 106), (1, iv 960), (2, iv (z3231 + 1))]) (List.forall_mem_cons.mpr ⟨rfl, List.forall_mem_cons.mpr ⟨rfl, List.forall_mem_cons.mpr ⟨rfl, fun _ h => absurd h List.not_mem_nil⟩⟩⟩) ?_
                  exact ih3240 (z3231 + 1) μ4283 T4285 (mF.up (mF.call mF.refl F3236 rfl) (A_126 hw) u4284 rfl) (mG.up (mG.call mG.refl G3237 (List.forall_mem_cons.mpr ⟨⟨_, List.mem_cons_self, vc_X12_message_11⟩, (fun _ h => absurd h List.not_mem_nil)⟩)) u4284 List.mem_cons_self (vc_X12_message_62 h3246 h4282)) (rW (c := 2) (d := 6) (rAdd (e := 3) (f := 6) h4282 (rR (x := 1)) rfl) rfl) (G1.keep I3238 hw ((mF.up mF.refl (A_126 hw) u4284 rfl) : mF [126999] w μ3232 μ4283) rfl rfl ((mG.up mG.refl u4284 List.mem_cons_self (vc_X12_message_63 h3246 h4282)) : mG [((960 + z3231), ((960 + z3231) + 1))] μ3232 μ4283) (List.forall_mem_cons.mpr ⟨(vc_X12_message_64 h3246 h4282), (fun _ h => absurd h List.not_mem_nil)⟩)) (vc_X12_message_61 (nS h3239) h3246 h4282)
              refine mr_lvS (lv' := [(0, .ref 106), (1, iv 960), (2, iv 2)]) (List.forall_mem_cons.mpr ⟨rfl, List.forall_mem_cons.mpr ⟨rfl, List.forall_mem_cons.mpr ⟨rfl, fun _ h => absurd h List.not_mem_nil⟩⟩⟩) ?_
              exact L3233 6 2 μ2802 T2804 mF.refl mG.refl (rW (c := 2) (d := 6) (rR (x := 2)) rfl) (G1.keep I2771 hw ((mF.up (mF.up (mF.up (mF.up (mF.up (mF.up (mF.up (mF.up mF.refl (A_106 hw) u2782 rfl) (A_106 hw) u2785 rfl) (A_106 hw) u2788 rfl) (A_106 hw) u2791 rfl) (A_106 hw) u2794 rfl) (A_106 hw) u2797 rfl) (A_126 hw) u2800 rfl) (A_126 hw) u2803 rfl) : mF [106088, 106091, 106093, 106098, 106099, 106101, 126999] w μ2765 μ2802) rfl rfl ((mG.up (mG.up (mG.upO (mG.upO (mG.upO (mG.upO (mG.upO (mG.upO mG.refl u2782 rfl) u2785 rfl) u2788 rfl) u2791 rfl) u2794 rfl) u2797 rfl) u2800 List.mem_cons_self vc_X12_message_66) u2803 (List.mem_cons_of_mem _ List.mem_cons_self) vc_X12_message_67) : mG [(960, (960 + 1)), ((960 + 1), ((960 + 1) + 1))] μ2765 μ2802) (List.forall_mem_cons.mpr ⟨vc_X12_message_69, (List.forall_mem_cons.mpr ⟨vc_X12_message_68, (fun _ h => absurd h List.not_mem_nil)⟩)⟩)) vc_X12_message_65
            have h4286 : 0 ≤ z2764 ∧ z2764 ≤ 255 := (vc_X12_message_70 h2779 h2767)
            refine sv_aload_n (pc := 30) dX12_message_30 rfl rfl ?_
            refine gf_X12_94 (pc := 31) dX12_message_31 wF_X12_475 (A_106 hw) T2768 ?_
            refine mr_iload_n (pc := 34) (z := z2764) dX12_message_34 rfl rfl ?_
            refine mr_iconst (pc := 35) (z := 0) dX12_message_35 ?_
            refine ss_171 (pc := 36) dX12_message_36 (A_171 hw) T2768 (rIx (n := 256) h4286 rfl) (rW (c := 0) (d := 1) (rR (x := 0)) rfl) fun μ4287 u4288 T4289 => ?_
            refine mr_iinc (pc := 37) (lv' := [(1, iv (z2764 + 1)), (0, .ref 106)]) dX12_message_37 rfl (by decide) rfl ?_
            refine sv_goto (pc := 40) (tgt := 23) dX12_message_40 (by decide) ?_
            refine mr_lvS (lv' := [(0, .ref 106), (1, iv (z2764 + 1))]) (List.forall_mem_cons.mpr ⟨rfl, List.forall_mem_cons.mpr ⟨rfl, fun _ h => absurd h List.not_mem_nil⟩⟩) ?_
            exact ih2773 (z2764 + 1) μ4287 T4289 (mF.up (mF.call mF.refl F2769 rfl) (A_171 hw) u4288 rfl) (rW (c := 0) (d := 256) (rAdd (e := 1) (f := 256) h4286 (rR (x := 1)) rfl) rfl) (G1.keep I2771 hw ((mF.up mF.refl (A_171 hw) u4288 rfl) : mF [171999] w μ2765 μ4287) rfl rfl ((mG.upO mG.refl u4288 rfl) : mG [] μ2765 μ4287) (fun _ h => absurd h List.not_mem_nil)) (vc_X12_message_71 (nS h2772) h2779 h4286)
        refine mr_lvS (lv' := [(0, .ref 106), (1, iv 0)]) (List.forall_mem_cons.mpr ⟨rfl, List.forall_mem_cons.mpr ⟨rfl, fun _ h => absurd h List.not_mem_nil⟩⟩) ?_
        exact L2766 258 0 μ1784 T1787 mF.refl (rW (c := 0) (d := 256) (rR (x := 0)) rfl) I1790 vc_X12_message_72
      have h4290 : 0 ≤ z1783 ∧ z1783 ≤ 3 := (vc_X12_message_73 h1798 h1786)
      refine sv_aload_n (pc := 7) dX12_message_7 rfl rfl ?_
      refine gf_X12_95 (pc := 8) dX12_message_8 wF_X12_478 (A_106 hw) T1787 ?_
      refine mr_iload_n (pc := 11) (z := z1783) dX12_message_11 rfl rfl ?_
      refine mr_ldc (pc := 12) (z := (-99999999)) dX12_message_12 wG_X12_29 (by decide) ?_
      refine ss_172 (pc := 14) dX12_message_14 (A_172 hw) T1787 (rIx (n := 4) h4290 rfl) (rW (c := (-2147483648)) (d := 2147483647) (rR (x := (-99999999))) rfl) fun μ4291 u4292 T4293 => ?_
      refine mr_iinc (pc := 15) (lv' := [(1, iv (z1783 + 1)), (0, .ref 106)]) dX12_message_15 rfl (by decide) rfl ?_
      refine sv_goto (pc := 18) (tgt := 2) dX12_message_18 (by decide) ?_
      refine mr_lvS (lv' := [(0, .ref 106), (1, iv (z1783 + 1))]) (List.forall_mem_cons.mpr ⟨rfl, List.forall_mem_cons.mpr ⟨rfl, fun _ h => absurd h List.not_mem_nil⟩⟩) ?_
      exact ih1792 (z1783 + 1) μ4291 T4293 (mF.up (mF.call mF.refl F1788 rfl) (A_172 hw) u4292 rfl) (rW (c := 0) (d := 4) (rAdd (e := 1) (f := 4) h4290 (rR (x := 1)) rfl) rfl) (G1.keep I1790 hw ((mF.up mF.refl (A_172 hw) u4292 rfl) : mF [172999] w μ1784 μ4291) rfl rfl ((mG.upO mG.refl u4292 rfl) : mG [] μ1784 μ4291) (fun _ h => absurd h List.not_mem_nil)) (vc_X12_message_74 (nS h1791) h1798 h4290)
  refine mr_lvS (lv' := [(0, .ref 106), (1, iv 0)]) (List.forall_mem_cons.mpr ⟨rfl, List.forall_mem_cons.mpr ⟨rfl, fun _ h => absurd h List.not_mem_nil⟩⟩) ?_
  exact L1785 6 0 μ hT mF.refl (rW (c := 0) (d := 4) (rR (x := 0)) rfl) hIG1 vc_X12_message_75
