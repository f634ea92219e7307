theorem vc_X10_maskOf_v_1 {p1 : Int} (h0 : ¬ p1 = 0) (h1 : 0 ≤ p1 ∧ p1 ≤ 32) : 1 ≤ p1 ∧ p1 ≤ 32 := by omega
theorem vc_X10_maskOf_v_2 {p1 : Int} (h0 : ¬ p1 = 0) (h1 : 1 ≤ p1 ∧ p1 ≤ 32) : ¬ p1 = 0 := by omega
theorem vc_X10_maskOf_v_3 {p1 : Int} (h0 : p1 = 0) (h1 : 0 ≤ p1 ∧ p1 ≤ 32) : 0 ≤ p1 ∧ p1 ≤ 0 := by omega
set_option maxRecDepth 4000 in
set_option maxHeartbeats 4000000 in
theorem c_X10_maskOf_v {l : Launch} {D : va_G} {c : Nat → ClassId} {H0 : Heap} {sa : Nat × Nat × (Nat → Int32)} {w : mW} {μ : mM} (hw : mWF w) (hT : mT w μ) {p1 : Int} (hp1 : 0 ≤ p1 ∧ p1 ≤ 32) : sC (gG l D c H0 sa) mX10_maskOf 1 0 0 [iv p1] (mk w μ) (qP w μ (fun z => ((-2147483648) ≤ z ∧ z ≤ 2147483647) ∧ (z = mskF p1) ∧ True)) := by
  refine sC.of rfl (by decide) (le_t rfl) ?_
  refine mr_lvE (lv' := [(0, iv p1)]) rfl ?_
  refine mr_iload_n (pc := 0) (z := p1) dX10_maskOf_0 rfl rfl ?_
  refine mr_if_ne (pc := 1) (tgt := 8) dX10_maskOf_1 (by decide) (r32 hp1 rfl) (fun h1 => ?_) (fun h1 => ?_)
  · have h2 : 1 ≤ p1 ∧ p1 ≤ 32 := (vc_X10_maskOf_v_1 h1 hp1)
    refine mr_iconst (pc := 8) (z := (-1)) dX10_maskOf_8 ?_
    refine mr_bipush (pc := 9) (z := 32) dX10_maskOf_9 (by decide) ?_
    refine mr_iload_n (pc := 11) (z := p1) dX10_maskOf_11 rfl rfl ?_
    refine mr_isub (pc := 12) (x := 32) (y := p1) dX10_maskOf_12 ?_
    refine mr_ishl (pc := 13) (x := (-1)) (y := (32 - p1)) dX10_maskOf_13 ?_
    refine mr_gen (P := fun z => (-2147483648) ≤ z ∧ z ≤ 2147483647) (r32i _) fun z3 q4 h5 => ?_
    exact mr_iretP dX10_maskOf_14 rfl (le_t rfl) (le_t rfl) ⟨h5, (mskF.pos (vc_X10_maskOf_v_2 h1 h2) q4), trivial⟩
  have h6 : 0 ≤ p1 ∧ p1 ≤ 0 := (vc_X10_maskOf_v_3 h1 hp1)
  refine mr_iconst (pc := 4) (z := 0) dX10_maskOf_4 ?_
  refine sv_goto (pc := 5) (tgt := 14) dX10_maskOf_5 (by decide) ?_
  exact mr_iretP dX10_maskOf_14 rfl (le_t rfl) (le_t rfl) ⟨(rW (c := (-2147483648)) (d := 2147483647) (rR (x := 0)) rfl), (mskF.zero (vc_X12_goes_7 h1 h6)), trivial⟩
set_option maxRecDepth 4000 in
set_option maxHeartbeats 4000000 in
theorem c_X12_mask_v {l : Launch} {D : va_G} {c : Nat → ClassId} {H0 : Heap} {sa : Nat × Nat × (Nat → Int32)} {w : mW} {μ : mM} (hw : mWF w) (hT : mT w μ) {p1 : Int} (hp1 : 0 ≤ p1 ∧ p1 ≤ 32) : sC (gG l D c H0 sa) mX12_mask 1 0 0 [iv p1] (mk w μ) (qP w μ (fun z => ((-2147483648) ≤ z ∧ z ≤ 2147483647) ∧ (z = mskF p1) ∧ True)) := by
  refine sC.of rfl (by decide) (le_t rfl) ?_
  refine mr_lvE (lv' := [(0, iv p1)]) rfl ?_
  refine mr_iload_n (pc := 0) (z := p1) dX12_mask_0 rfl rfl ?_
  refine mr_if_ne (pc := 1) (tgt := 8) dX12_mask_1 (by decide) (r32 hp1 rfl) (fun h1 => ?_) (fun h1 => ?_)
  · have h2 : 1 ≤ p1 ∧ p1 ≤ 32 := (vc_X10_maskOf_v_1 h1 hp1)
    refine mr_iconst (pc := 8) (z := (-1)) dX12_mask_8 ?_
    refine mr_bipush (pc := 9) (z := 32) dX12_mask_9 (by decide) ?_
    refine mr_iload_n (pc := 11) (z := p1) dX12_mask_11 rfl rfl ?_
    refine mr_isub (pc := 12) (x := 32) (y := p1) dX12_mask_12 ?_
    refine mr_ishl (pc := 13) (x := (-1)) (y := (32 - p1)) dX12_mask_13 ?_
    refine mr_gen (P := fun z => (-2147483648) ≤ z ∧ z ≤ 2147483647) (r32i _) fun z3 q4 h5 => ?_
    exact mr_iretP dX12_mask_14 rfl (le_t rfl) (le_t rfl) ⟨h5, (mskF.pos (vc_X10_maskOf_v_2 h1 h2) q4), trivial⟩
  have h6 : 0 ≤ p1 ∧ p1 ≤ 0 := (vc_X10_maskOf_v_3 h1 hp1)
  refine mr_iconst (pc := 4) (z := 0) dX12_mask_4 ?_
  refine sv_goto (pc := 5) (tgt := 14) dX12_mask_5 (by decide) ?_
  exact mr_iretP dX12_mask_14 rfl (le_t rfl) (le_t rfl) ⟨(rW (c := (-2147483648)) (d := 2147483647) (rR (x := 0)) rfl), (mskF.zero (vc_X12_goes_7 h1 h6)), trivial⟩
theorem vc_X10_findPrefix_v_2  : ¬ (0 : Int) ≤ (((-1) : Int) : Int) := by omega
theorem vc_X10_findPrefix_v_7 {f_n z161 : Int} (h0 : z161 < f_n) (h1 : 1 ≤ f_n ∧ f_n ≤ 10) (h2 : 0 ≤ z161 ∧ z161 ≤ 9) : 0 ≤ z161 := by omega
theorem vc_X10_findPrefix_v_8 {p1 z173 : Int} (h0 : ¬ z173 = p1) (h1 : (-2147483648) ≤ p1 ∧ p1 ≤ 2147483647) (h2 : (-2147483648) ≤ z173 ∧ z173 ≤ 2147483647) : ¬ z173 = p1 := by omega
theorem vc_X10_findPrefix_v_9 {p2 z177 : Int} (h0 : ¬ z177 = p2) (h1 : (-2147483648) ≤ p2 ∧ p2 ≤ 2147483647) (h2 : 0 ≤ z177 ∧ z177 ≤ 32) : ¬ z177 = p2 := by omega
theorem vc_X10_findPrefix_v_11 {f_n z161 : Int} (h0 : z161 < f_n) (h1 : 1 ≤ f_n ∧ f_n ≤ 10) (h2 : 0 ≤ z161 ∧ z161 ≤ 9) : 0 ≤ z161 ∧ z161 < f_n := by omega
theorem vc_X10_findPrefix_v_12 {p1 z173 : Int} (h0 : z173 = p1) (h1 : (-2147483648) ≤ p1 ∧ p1 ≤ 2147483647) (h2 : (-2147483648) ≤ z173 ∧ z173 ≤ 2147483647) : z173 = p1 := by omega
theorem vc_X10_findPrefix_v_13 {p2 z177 : Int} (h0 : z177 = p2) (h1 : 0 ≤ p2 ∧ p2 ≤ 32) (h2 : 0 ≤ z177 ∧ z177 ≤ 32) : z177 = p2 := by omega
theorem vc_X10_findPrefix_v_14 {f_n z161 : Int} (h0 : z161 < f_n) (h1 : 1 ≤ f_n ∧ f_n ≤ 10) (h2 : 0 ≤ z161 ∧ z161 ≤ 9) : ¬ z161 < 0 := by omega
theorem vc_X10_findPrefix_v_16  : ((0 : Int) : Int) ≤ (0 : Int) := by omega
set_option maxRecDepth 4000 in
set_option maxHeartbeats 4000000 in
theorem c_X10_findPrefix_v {l : Launch} {D : va_G} {c : Nat → ClassId} {H0 : Heap} {sa : Nat × Nat × (Nat → Int32)} {w : mW} {μ : mM} (hw : mWF w) (hT : mT w μ) {p1 : Int} (hp1 : (-2147483648) ≤ p1 ∧ p1 ≤ 2147483647) {p2 : Int} (hp2 : (-2147483648) ≤ p2 ∧ p2 ≤ 2147483647) {f_n : Int} (q_f_n : μ 6 14 = f_n) : sC (gG l D c H0 sa) mX10_findPrefix 1 0 0 [.ref 6, iv p1, iv p2] (mk w μ) (qP w μ (fun z => ((-1) ≤ z ∧ z ≤ 9) ∧ (0 ≤ z → hasP μ 7 8 f_n p1 p2) ∧ (z < 0 → ¬ hasP μ 7 8 f_n p1 p2) ∧ True)) := by
  refine sC.of rfl (by decide) (le_t rfl) ?_
  have ht_f_n : (0 ≤ f_n ∧ f_n ≤ 10) := by rw [← q_f_n]; exact hT 6 6 (A_6 hw) 14
  refine mr_lvE (lv' := [(0, .ref 6), (1, iv p1), (2, iv p2)]) rfl ?_
  refine mr_iconst (pc := 0) (z := 0) dX10_findPrefix_0 ?_
  refine mr_istore_n (pc := 1) (lv' := [(3, iv 0), (0, .ref 6), (1, iv p1), (2, iv p2)]) dX10_findPrefix_1 rfl (by decide) rfl ?_
  have L162 : ∀ (nL162 : Nat) (z161 : Int), True → (0 ≤ z161 ∧ z161 ≤ 10) → noneP μ 7 8 z161 p1 p2 → (11 - z161) < (nL162 : Int) → sV (gG l D c H0 sa) mX10_findPrefix (sRm 1 0 0) (sZ (gG l D c H0 sa) 0 0 (qP w μ (fun z => ((-1) ≤ z ∧ z ≤ 9) ∧ (0 ≤ z → hasP μ 7 8 f_n p1 p2) ∧ (z < 0 → ¬ hasP μ 7 8 f_n p1 p2) ∧ True))) 2 [(0, .ref 6), (1, iv p1), (2, iv p2), (3, iv z161)] [] (mk w μ) 0 0 := by
    intro nL162
    induction nL162 with
    | zero => intro z161 _ h163 R167 h168; exact ((vc_X12_ring_2 h168 h163)).elim
    | succ nL162 ih169 =>
      intro z161 _ h163 R167 h168
      refine mr_iload_n (pc := 2) (z := z161) dX10_findPrefix_2 rfl rfl ?_
      refine sv_aload_n (pc := 3) dX10_findPrefix_3 rfl rfl ?_
      refine gk_X10_14 (pc := 4) dX10_findPrefix_4 wF_X10_60 (A_6 hw) q_f_n ?_
      refine mr_icmp_ge (pc := 7) (tgt := 38) dX10_findPrefix_7 (by decide) (r32 h163 rfl) (r32 ht_f_n rfl) (fun h170 => ?_) (fun h170 => ?_)
      · refine mr_iconst (pc := 38) (z := (-1)) dX10_findPrefix_38 ?_
        exact mr_iretP dX10_findPrefix_39 rfl (le_t rfl) (le_t rfl) ⟨(rW (c := (-1)) (d := 9) (rR (x := (-1))) rfl), (fun h => absurd h vc_X10_findPrefix_v_2), (fun _ => noneP.no R167 (vc_X12_lookAll_u_5 h170 ht_f_n h163)), trivial⟩
      have h171 : 0 ≤ z161 ∧ z161 ≤ 9 := (vc_X12_lookAll_u_6 h170 ht_f_n h163)
      have h172 : 1 ≤ f_n ∧ f_n ≤ 10 := (vc_X12_say_u_2 h170 ht_f_n h171)
      refine sv_aload_n (pc := 10) dX10_findPrefix_10 rfl rfl ?_
      refine gf_X10_0 (pc := 11) dX10_findPrefix_11 wF_X10_9 (A_6 hw) hT ?_
      refine mr_iload_n (pc := 14) (z := z161) dX10_findPrefix_14 rfl rfl ?_
      refine la_7 (pc := 15) dX10_findPrefix_15 (A_7 hw) hT (rIx (n := 10) h171 rfl) fun z173 q174 h175 => ?_
      refine mr_iload_n (pc := 16) (z := p1) dX10_findPrefix_16 rfl rfl ?_
      refine mr_icmp_ne (pc := 17) (tgt := 32) dX10_findPrefix_17 (by decide) h175 hp1 (fun h176 => ?_) (fun h176 => ?_)
      · refine mr_iinc (pc := 32) (lv' := [(3, iv (z161 + 1)), (0, .ref 6), (1, iv p1), (2, iv p2)]) dX10_findPrefix_32 rfl (by decide) rfl ?_
        refine sv_goto (pc := 35) (tgt := 2) dX10_findPrefix_35 (by decide) ?_
        refine mr_lvS (lv' := [(0, .ref 6), (1, iv p1), (2, iv p2), (3, iv (z161 + 1))]) (List.forall_mem_cons.mpr ⟨rfl, List.forall_mem_cons.mpr ⟨rfl, List.forall_mem_cons.mpr ⟨rfl, List.forall_mem_cons.mpr ⟨rfl, fun _ h => absurd h List.not_mem_nil⟩⟩⟩⟩) ?_
        exact ih169 (z161 + 1) trivial (rW (c := 0) (d := 10) (rAdd (e := 1) (f := 10) h171 (rR (x := 1)) rfl) rfl) (noneP.succ (v := 0) R167 (vc_X10_findPrefix_v_7 h170 h172 h171) q174 (vc_X10_findPrefix_v_8 h176 hp1 h175)) (vc_X12_lookAll_u_9 (nS h168) h170 h172 h171)
      refine sv_aload_n (pc := 20) dX10_findPrefix_20 rfl rfl ?_
      refine gf_X10_1 (pc := 21) dX10_findPrefix_21 wF_X10_15 (A_6 hw) hT ?_
      refine mr_iload_n (pc := 24) (z := z161) dX10_findPrefix_24 rfl rfl ?_
      refine la_8 (pc := 25) dX10_findPrefix_25 (A_8 hw) hT (rIx (n := 10) h171 rfl) fun z177 q178 h179 => ?_
      refine mr_iload_n (pc := 26) (z := p2) dX10_findPrefix_26 rfl rfl ?_
      refine mr_icmp_ne (pc := 27) (tgt := 32) dX10_findPrefix_27 (by decide) (r32 h179 rfl) hp2 (fun h180 => ?_) (fun h180 => ?_)
      · refine mr_iinc (pc := 32) (lv' := [(3, iv (z161 + 1)), (0, .ref 6), (1, iv p1), (2, iv p2)]) dX10_findPrefix_32 rfl (by decide) rfl ?_
        refine sv_goto (pc := 35) (tgt := 2) dX10_findPrefix_35 (by decide) ?_
        refine mr_lvS (lv' := [(0, .ref 6), (1, iv p1), (2, iv p2), (3, iv (z161 + 1))]) (List.forall_mem_cons.mpr ⟨rfl, List.forall_mem_cons.mpr ⟨rfl, List.forall_mem_cons.mpr ⟨rfl, List.forall_mem_cons.mpr ⟨rfl, fun _ h => absurd h List.not_mem_nil⟩⟩⟩⟩) ?_
        exact ih169 (z161 + 1) trivial (rW (c := 0) (d := 10) (rAdd (e := 1) (f := 10) h171 (rR (x := 1)) rfl) rfl) (noneP.succ2 (u := 0) R167 (vc_X10_findPrefix_v_7 h170 h172 h171) q178 (vc_X10_findPrefix_v_9 h180 hp2 h179)) (vc_X12_lookAll_u_9 (nS h168) h170 h172 h171)
      have h181 : 0 ≤ p2 ∧ p2 ≤ 32 := (vc_X10_findPrefix_5 h180 hp2 h179)
      refine mr_iload_n (pc := 30) (z := z161) dX10_findPrefix_30 rfl rfl ?_
      exact mr_iretP dX10_findPrefix_31 rfl (le_t rfl) (le_t rfl) ⟨(rW (c := (-1)) (d := 9) h171 rfl), (fun _ => hasP.of (vc_X10_findPrefix_v_11 h170 h172 h171) q174 q178 (vc_X10_findPrefix_v_12 h176 hp1 h175) (vc_X10_findPrefix_v_13 h180 h181 h179)), (fun h => absurd h (vc_X10_findPrefix_v_14 h170 h172 h171)), trivial⟩
  refine mr_lvS (lv' := [(0, .ref 6), (1, iv p1), (2, iv p2), (3, iv 0)]) (List.forall_mem_cons.mpr ⟨rfl, List.forall_mem_cons.mpr ⟨rfl, List.forall_mem_cons.mpr ⟨rfl, List.forall_mem_cons.mpr ⟨rfl, fun _ h => absurd h List.not_mem_nil⟩⟩⟩⟩) ?_
  exact L162 12 0 trivial (rW (c := 0) (d := 10) (rR (x := 0)) rfl) (noneP.zero vc_X10_findPrefix_v_16) vc_X12_ring_27
theorem vc_X12_prefixOf_v_3  : ¬ (0 : Int) ≤ (((-99999999) : Int) : Int) := by omega
set_option maxRecDepth 4000 in
set_option maxHeartbeats 4000000 in
theorem c_X12_prefixOf_v {l : Launch} {D : va_G} {c : Nat → ClassId} {H0 : Heap} {sa : Nat × Nat × (Nat → Int32)} {w : mW} {μ : mM} (hw : mWF w) (hT : mT w μ) {p1 : Int} (hp1 : (-2147483648) ≤ p1 ∧ p1 ≤ 2147483647) {p2 : Int} (hp2 : (-2147483648) ≤ p2 ∧ p2 ≤ 2147483647) {f_n : Int} (q_f_n : μ 106 2 = f_n) : sC (gG l D c H0 sa) mX12_prefixOf 1 0 0 [.ref 106, iv p1, iv p2] (mk w μ) (qP w μ (fun z => ((-99999999) ≤ z ∧ z ≤ 9) ∧ (z = -99999999 ∨ (0 ≤ z ∧ z ≤ 9)) ∧ (0 ≤ z → hasP μ 108 109 f_n p1 p2) ∧ (z < 0 → ¬ hasP μ 108 109 f_n p1 p2) ∧ True)) := by
  refine sC.of rfl (by decide) (le_t rfl) ?_
  have ht_f_n : (0 ≤ f_n ∧ f_n ≤ 10) := by rw [← q_f_n]; exact hT 106 106 (A_106 hw) 2
  refine mr_lvE (lv' := [(0, .ref 106), (1, iv p1), (2, iv p2)]) rfl ?_
  refine mr_iconst (pc := 0) (z := 0) dX12_prefixOf_0 ?_
  refine mr_istore_n (pc := 1) (lv' := [(3, iv 0), (0, .ref 106), (1, iv p1), (2, iv p2)]) dX12_prefixOf_1 rfl (by decide) rfl ?_
  have L162 : ∀ (nL162 : Nat) (z161 : Int), True → (0 ≤ z161 ∧ z161 ≤ 10) → noneP μ 108 109 z161 p1 p2 → (11 - z161) < (nL162 : Int) → sV (gG l D c H0 sa) mX12_prefixOf (sRm 1 0 0) (sZ (gG l D c H0 sa) 0 0 (qP w μ (fun z => ((-99999999) ≤ z ∧ z ≤ 9) ∧ (z = -99999999 ∨ (0 ≤ z ∧ z ≤ 9)) ∧ (0 ≤ z → hasP μ 108 109 f_n p1 p2) ∧ (z < 0 → ¬ hasP μ 108 109 f_n p1 p2) ∧ True))) 2 [(0, .ref 106), (1, iv p1), (2, iv p2), (3, iv z161)] [] (mk w μ) 0 0 := by
    intro nL162
    induction nL162 with
    | zero => intro z161 _ h163 R167 h168; exact ((vc_X12_ring_2 h168 h163)).elim
    | succ nL162 ih169 =>
      intro z161 _ h163 R167 h168
      refine mr_iload_n (pc := 2) (z := z161) dX12_prefixOf_2 rfl rfl ?_
      refine sv_aload_n (pc := 3) dX12_prefixOf_3 rfl rfl ?_
      refine gk_X12_2 (pc := 4) dX12_prefixOf_4 wF_X12_15 (A_106 hw) q_f_n ?_
      refine mr_icmp_ge (pc := 7) (tgt := 38) dX12_prefixOf_7 (by decide) (r32 h163 rfl) (r32 ht_f_n rfl) (fun h170 => ?_) (fun h170 => ?_)
      · refine mr_ldc (pc := 38) (z := (-99999999)) dX12_prefixOf_38 wG_X12_29 (by decide) ?_
        exact mr_iretP dX12_prefixOf_40 rfl (le_t rfl) (le_t rfl) ⟨(rW (c := (-99999999)) (d := 9) (rR (x := (-99999999))) rfl), vc_X12_prefixOf_u_2, (fun h => absurd h vc_X12_prefixOf_v_3), (fun _ => noneP.no R167 (vc_X12_lookAll_u_5 h170 ht_f_n h163)), trivial⟩
      have h171 : 0 ≤ z161 ∧ z161 ≤ 9 := (vc_X12_lookAll_u_6 h170 ht_f_n h163)
      have h172 : 1 ≤ f_n ∧ f_n ≤ 10 := (vc_X12_say_u_2 h170 ht_f_n h171)
      refine sv_aload_n (pc := 10) dX12_prefixOf_10 rfl rfl ?_
      refine gf_X12_3 (pc := 11) dX12_prefixOf_11 wF_X12_22 (A_106 hw) hT ?_
      refine mr_iload_n (pc := 14) (z := z161) dX12_prefixOf_14 rfl rfl ?_
      refine la_108 (pc := 15) dX12_prefixOf_15 (A_108 hw) hT (rIx (n := 10) h171 rfl) fun z173 q174 h175 => ?_
      refine mr_iload_n (pc := 16) (z := p1) dX12_prefixOf_16 rfl rfl ?_
      refine mr_icmp_ne (pc := 17) (tgt := 32) dX12_prefixOf_17 (by decide) h175 hp1 (fun h176 => ?_) (fun h176 => ?_)
      · refine mr_iinc (pc := 32) (lv' := [(3, iv (z161 + 1)), (0, .ref 106), (1, iv p1), (2, iv p2)]) dX12_prefixOf_32 rfl (by decide) rfl ?_
        refine sv_goto (pc := 35) (tgt := 2) dX12_prefixOf_35 (by decide) ?_
        refine mr_lvS (lv' := [(0, .ref 106), (1, iv p1), (2, iv p2), (3, iv (z161 + 1))]) (List.forall_mem_cons.mpr ⟨rfl, List.forall_mem_cons.mpr ⟨rfl, List.forall_mem_cons.mpr ⟨rfl, List.forall_mem_cons.mpr ⟨rfl, fun _ h => absurd h List.not_mem_nil⟩⟩⟩⟩) ?_
        exact ih169 (z161 + 1) trivial (rW (c := 0) (d := 10) (rAdd (e := 1) (f := 10) h171 (rR (x := 1)) rfl) rfl) (noneP.succ (v := 0) R167 (vc_X10_findPrefix_v_7 h170 h172 h171) q174 (vc_X10_findPrefix_v_8 h176 hp1 h175)) (vc_X12_lookAll_u_9 (nS h168) h170 h172 h171)
      refine sv_aload_n (pc := 20) dX12_prefixOf_20 rfl rfl ?_
      refine gf_X12_4 (pc := 21) dX12_prefixOf_21 wF_X12_26 (A_106 hw) hT ?_
      refine mr_iload_n (pc := 24) (z := z161) dX12_prefixOf_24 rfl rfl ?_
      refine la_109 (pc := 25) dX12_prefixOf_25 (A_109 hw) hT (rIx (n := 10) h171 rfl) fun z177 q178 h179 => ?_
      refine mr_iload_n (pc := 26) (z := p2) dX12_prefixOf_26 rfl rfl ?_
      refine mr_icmp_ne (pc := 27) (tgt := 32) dX12_prefixOf_27 (by decide) (r32 h179 rfl) hp2 (fun h180 => ?_) (fun h180 => ?_)
      · refine mr_iinc (pc := 32) (lv' := [(3, iv (z161 + 1)), (0, .ref 106), (1, iv p1), (2, iv p2)]) dX12_prefixOf_32 rfl (by decide) rfl ?_
        refine sv_goto (pc := 35) (tgt := 2) dX12_prefixOf_35 (by decide) ?_
        refine mr_lvS (lv' := [(0, .ref 106), (1, iv p1), (2, iv p2), (3, iv (z161 + 1))]) (List.forall_mem_cons.mpr ⟨rfl, List.forall_mem_cons.mpr ⟨rfl, List.forall_mem_cons.mpr ⟨rfl, List.forall_mem_cons.mpr ⟨rfl, fun _ h => absurd h List.not_mem_nil⟩⟩⟩⟩) ?_
        exact ih169 (z161 + 1) trivial (rW (c := 0) (d := 10) (rAdd (e := 1) (f := 10) h171 (rR (x := 1)) rfl) rfl) (noneP.succ2 (u := 0) R167 (vc_X10_findPrefix_v_7 h170 h172 h171) q178 (vc_X10_findPrefix_v_9 h180 hp2 h179)) (vc_X12_lookAll_u_9 (nS h168) h170 h172 h171)
      have h181 : 0 ≤ p2 ∧ p2 ≤ 32 := (vc_X10_findPrefix_5 h180 hp2 h179)
      refine mr_iload_n (pc := 30) (z := z161) dX12_prefixOf_30 rfl rfl ?_
      exact mr_iretP dX12_prefixOf_31 rfl (le_t rfl) (le_t rfl) ⟨(rW (c := (-99999999)) (d := 9) h171 rfl), (vc_X12_prefixOf_u_8 h170 h172 h171), (fun _ => hasP.of (vc_X10_findPrefix_v_11 h170 h172 h171) q174 q178 (vc_X10_findPrefix_v_12 h176 hp1 h175) (vc_X10_findPrefix_v_13 h180 h181 h179)), (fun h => absurd h (vc_X10_findPrefix_v_14 h170 h172 h171)), trivial⟩
  refine mr_lvS (lv' := [(0, .ref 106), (1, iv p1), (2, iv p2), (3, iv 0)]) (List.forall_mem_cons.mpr ⟨rfl, List.forall_mem_cons.mpr ⟨rfl, List.forall_mem_cons.mpr ⟨rfl, List.forall_mem_cons.mpr ⟨rfl, fun _ h => absurd h List.not_mem_nil⟩⟩⟩⟩) ?_
  exact L162 12 0 trivial (rW (c := 0) (d := 10) (rR (x := 0)) rfl) (noneP.zero vc_X10_findPrefix_v_16) vc_X12_ring_27
theorem vc_X10_addPrefix_v_1 {f_p : Int} (h0 : f_p ≤ 9) (h1 : 0 ≤ f_p ∧ f_p ≤ 10) : 0 ≤ f_p ∧ f_p ≤ 9 := by omega
theorem vc_X10_addPrefix_v_2 {f_p : Int} (h0 : f_p ≤ 9) (h1 : 0 ≤ f_p ∧ f_p ≤ 9) : ((f_p + 1) - 1) = f_p := by omega
theorem vc_X10_addPrefix_v_3 {f_p : Int} (h0 : f_p ≤ 9) (h1 : 0 ≤ f_p ∧ f_p ≤ 9) : (f_p + 1) = f_p + 1 := by omega
set_option maxRecDepth 4000 in
set_option maxHeartbeats 4000000 in
theorem c_X10_addPrefix_v {l : Launch} {D : va_G} {c : Nat → ClassId} {H0 : Heap} {sa : Nat × Nat × (Nat → Int32)} {w : mW} {μ : mM} (hw : mWF w) (hT : mT w μ) {p1 : Int} (hp1 : (-2147483648) ≤ p1 ∧ p1 ≤ 2147483647) {p2 : Int} (hp2 : 0 ≤ p2 ∧ p2 ≤ 32) {f_p : Int} (q_f_p : μ 6 14 = f_p) (hq0 : f_p ≤ 9) : sC (gG l D c H0 sa) mX10_addPrefix 2 0 0 [.ref 6, iv p1, iv p2] (mk w μ) (qI w [6014, 7999, 8999, 9999] μ (fun z μ1 => ∃ o_n : Int, μ1 6 14 = o_n ∧ ((-2147483648) ≤ z ∧ z ≤ 2147483647) ∧ (z = f_p) ∧ (o_n = f_p + 1) ∧ (adT μ μ1 7 8 f_p p1 p2) ∧ True)) := by
  refine sC.of rfl (by decide) (le_t rfl) ?_
  have ht_f_p : (0 ≤ f_p ∧ f_p ≤ 10) := by rw [← q_f_p]; exact hT 6 6 (A_6 hw) 14
  have h1 : 0 ≤ f_p ∧ f_p ≤ 9 := (vc_X10_addPrefix_v_1 hq0 ht_f_p)
  refine mr_lvE (lv' := [(0, .ref 6), (1, iv p1), (2, iv p2)]) rfl ?_
  refine sv_aload_n (pc := 0) dX10_addPrefix_0 rfl rfl ?_
  refine gf_X10_0 (pc := 1) dX10_addPrefix_1 wF_X10_9 (A_6 hw) hT ?_
  refine sv_aload_n (pc := 4) dX10_addPrefix_4 rfl rfl ?_
  refine gk_X10_14 (pc := 5) dX10_addPrefix_5 wF_X10_60 (A_6 hw) q_f_p ?_
  refine mr_iload_n (pc := 8) (z := p1) dX10_addPrefix_8 rfl rfl ?_
  refine ss_7 (pc := 9) dX10_addPrefix_9 (A_7 hw) hT (rIx (n := 10) h1 rfl) hp1 fun μ53 u54 T55 => ?_
  refine sv_aload_n (pc := 10) dX10_addPrefix_10 rfl rfl ?_
  refine gf_X10_1 (pc := 11) dX10_addPrefix_11 wF_X10_15 (A_6 hw) T55 ?_
  refine sv_aload_n (pc := 14) dX10_addPrefix_14 rfl rfl ?_
  refine gk_X10_14 (pc := 15) dX10_addPrefix_15 wF_X10_60 (A_6 hw) (u54.f (Or.inl (mAt.ne (A_7 hw) (A_6 hw) rfl)) q_f_p) ?_
  refine mr_iload_n (pc := 18) (z := p2) dX10_addPrefix_18 rfl rfl ?_
  refine ss_8 (pc := 19) dX10_addPrefix_19 (A_8 hw) T55 (rIx (n := 10) h1 rfl) hp2 fun μ56 u57 T58 => ?_
  refine sv_aload_n (pc := 20) dX10_addPrefix_20 rfl rfl ?_
  refine gf_X10_2 (pc := 21) dX10_addPrefix_21 wF_X10_18 (A_6 hw) T58 ?_
  refine sv_aload_n (pc := 24) dX10_addPrefix_24 rfl rfl ?_
  refine gk_X10_14 (pc := 25) dX10_addPrefix_25 wF_X10_60 (A_6 hw) (u57.f (Or.inl (mAt.ne (A_8 hw) (A_6 hw) rfl)) (u54.f (Or.inl (mAt.ne (A_7 hw) (A_6 hw) rfl)) q_f_p)) ?_
  refine mr_iload_n (pc := 28) (z := p2) dX10_addPrefix_28 rfl rfl ?_
  refine mr_cSP (pc := 29) (c_X10_maskOf hw T58 (rW (c := (-2147483648)) (d := 2147483647) hp2 rfl)) (gOk _ _ _ _ _) dX10_addPrefix_29 (tX10_maskOf _ _ _ _ _) wS_X10_maskOf wM_X10_64 ⟨le_t rfl, le_t rfl⟩ ⟨le_t rfl, le_t rfl⟩ rfl (le_t rfl) fun z63 h62 => ?_
  refine ss_9 (pc := 32) dX10_addPrefix_32 (A_9 hw) T58 (rIx (n := 10) h1 rfl) h62.1 fun μ64 u65 T66 => ?_
  refine sv_aload_n (pc := 33) dX10_addPrefix_33 rfl rfl ?_
  refine sv_dup (pc := 34) dX10_addPrefix_34 rfl ?_
  refine gk_X10_14 (pc := 35) dX10_addPrefix_35 wF_X10_60 (A_6 hw) (u65.f (Or.inl (mAt.ne (A_9 hw) (A_6 hw) rfl)) (u57.f (Or.inl (mAt.ne (A_8 hw) (A_6 hw) rfl)) (u54.f (Or.inl (mAt.ne (A_7 hw) (A_6 hw) rfl)) q_f_p))) ?_
  refine mr_iconst (pc := 38) (z := 1) dX10_addPrefix_38 ?_
  refine mr_iadd (pc := 39) (x := f_p) (y := 1) dX10_addPrefix_39 ?_
  refine pf_X10_14 (pc := 40) dX10_addPrefix_40 wF_X10_60 (A_6 hw) T66 (rW (c := 0) (d := 10) (rAdd (e := 1) (f := 10) h1 (rR (x := 1)) rfl) rfl) fun μ67 u68 T69 => ?_
  refine sv_aload_n (pc := 43) dX10_addPrefix_43 rfl rfl ?_
  refine gk_X10_14 (pc := 44) dX10_addPrefix_44 wF_X10_60 (A_6 hw) u68.1 ?_
  refine mr_iconst (pc := 47) (z := 1) dX10_addPrefix_47 ?_
  refine mr_isub (pc := 48) (x := (f_p + 1)) (y := 1) dX10_addPrefix_48 ?_
  exact mr_iret dX10_addPrefix_49 rfl (le_t rfl) (le_t rfl) T69 (mF.up (mF.up (mF.up (mF.up mF.refl (A_7 hw) u54 rfl) (A_8 hw) u57 rfl) (A_9 hw) u65 rfl) (A_6 hw) u68 rfl) ⟨(f_p + 1), u68.1, (rW (c := (-2147483648)) (d := 2147483647) (rSub (e := 0) (f := 9) (rAdd (e := 1) (f := 10) h1 (rR (x := 1)) rfl) (rR (x := 1)) rfl) rfl), (vc_X10_addPrefix_v_2 hq0 h1), (vc_X10_addPrefix_v_3 hq0 h1), (adT.oth (adT.oth (adT.two u54 u57 (by decide)) u65 (by decide) (by decide)) u68 (by decide) (by decide)), trivial⟩
theorem vc_X11_prefix_v_2 {p2 : Int} (h0 : p2 < 0) (h1 : (-2147483648) ≤ p2 ∧ p2 ≤ (-1)) : p2 < 0 ∨ 32 < p2 := by omega
theorem vc_X11_prefix_v_5 {p2 : Int} (h0 : 32 < p2) (h1 : 0 ≤ p2) (h2 : 0 ≤ p2 ∧ p2 ≤ 2147483647) : 33 ≤ p2 ∧ p2 ≤ 2147483647 := by omega
theorem vc_X11_prefix_v_6 {p2 : Int} (h0 : 0 ≤ p2) (h1 : 32 < p2) (h2 : 33 ≤ p2 ∧ p2 ≤ 2147483647) : p2 < 0 ∨ 32 < p2 := by omega
theorem vc_X11_prefix_v_7 {p2 : Int} (h0 : p2 ≤ 32) (h1 : 0 ≤ p2) (h2 : 0 ≤ p2 ∧ p2 ≤ 2147483647) : 0 ≤ p2 ∧ p2 ≤ 32 := by omega
theorem vc_X11_prefix_v_11 {f_n : Int} (h0 : f_n < 10) (h1 : 0 ≤ f_n ∧ f_n ≤ 9) : f_n ≤ 9 := by omega
theorem vc_X11_prefix_v_12 {f_n z141 : Int} (h0 : z141 = f_n) (h1 : f_n < 10) (h2 : 0 ≤ f_n ∧ f_n ≤ 9) (h3 : (-2147483648) ≤ z141 ∧ z141 ≤ 2147483647) : 0 ≤ z141 ∧ z141 ≤ 9 := by omega
theorem vc_X11_prefix_v_13 {p2 : Int} (h0 : 0 ≤ p2) (h1 : p2 ≤ 32) (h2 : 0 ≤ p2 ∧ p2 ≤ 32) : 0 ≤ p2 ∧ p2 ≤ 32 := by omega
theorem vc_X11_prefix_v_15 {z132 : Int} (h0 : z132 < 0) (h1 : (-1) ≤ z132 ∧ z132 ≤ (-1)) : z132 < 0 := by omega
theorem vc_X11_prefix_v_16 {f_n z141 z142 : Int} (h0 : f_n < 10) (h1 : z141 = f_n) (h2 : z142 = f_n + 1) (h3 : 0 ≤ f_n ∧ f_n ≤ 9) (h4 : 0 ≤ z141 ∧ z141 ≤ 9) (h5 : 0 ≤ z142 ∧ z142 ≤ 10) : f_n < 10 := by omega
theorem vc_X11_prefix_v_17 {f_n z141 z142 : Int} (h0 : f_n < 10) (h1 : z141 = f_n) (h2 : z142 = f_n + 1) (h3 : 0 ≤ f_n ∧ f_n ≤ 9) (h4 : 0 ≤ z141 ∧ z141 ≤ 9) (h5 : 0 ≤ z142 ∧ z142 ≤ 10) : z141 = f_n := by omega
theorem vc_X11_prefix_v_18 {f_n z141 z142 : Int} (h0 : z141 = f_n) (h1 : f_n < 10) (h2 : z142 = f_n + 1) (h3 : 0 ≤ f_n ∧ f_n ≤ 9) (h4 : 0 ≤ z141 ∧ z141 ≤ 9) (h5 : 0 ≤ z142 ∧ z142 ≤ 10) : 0 ≤ z141 := by omega
theorem vc_X11_prefix_v_19 {f_n z141 z142 : Int} (h0 : f_n < 10) (h1 : z141 = f_n) (h2 : z142 = f_n + 1) (h3 : 0 ≤ f_n ∧ f_n ≤ 9) (h4 : 0 ≤ z141 ∧ z141 ≤ 9) (h5 : 0 ≤ z142 ∧ z142 ≤ 10) : (f_n + 1) = f_n + 1 := by omega
theorem vc_X11_prefix_v_21 {f_n : Int} (h0 : 10 ≤ f_n) (h1 : 10 ≤ f_n ∧ f_n ≤ 10) : 10 ≤ f_n := by omega
theorem vc_X11_prefix_v_22  : (((-3) : Int) : Int) < (0 : Int) := by omega
theorem vc_X11_prefix_v_24 {z132 : Int} (h0 : 0 ≤ z132) (h1 : 0 ≤ z132 ∧ z132 ≤ 9) : 0 ≤ z132 := by omega
theorem vc_X11_prefix_v_25  : (((-2) : Int) : Int) < (0 : Int) := by omega
theorem vc_X11_prefix_v_26 {z123 : Int} (h0 : ¬ z123 = 0) (h1 : (-2147483648) ≤ z123 ∧ z123 ≤ 2147483647) : ¬ z123 = 0 := by omega
set_option maxRecDepth 4000 in
set_option maxHeartbeats 4000000 in
theorem c_X11_prefix_v {l : Launch} {D : va_G} {c : Nat → ClassId} {H0 : Heap} {sa : Nat × Nat × (Nat → Int32)} {w : mW} {μ : mM} (hw : mWF w) (hT : mT w μ) {p1 : Int} (hp1 : (-2147483648) ≤ p1 ∧ p1 ≤ 2147483647) {p2 : Int} (hp2 : (-2147483648) ≤ p2 ∧ p2 ≤ 2147483647) {f_n : Int} (q_f_n : μ 6 14 = f_n) : sC (gG l D c H0 sa) mX11_prefix 3 0 0 [.ref 0, iv p1, iv p2] (mk w μ) (qI w [6014, 7999, 8999, 9999] μ (fun z μ1 => ((-2147483648) ≤ z ∧ z ≤ 2147483647) ∧ (preA (hasP μ 7 8 f_n p1 p2) f_n p1 p2 z) ∧ (adQ μ μ1 6 14 7 8 p1 p2 z) ∧ True)) := by
  refine sC.of rfl (by decide) (le_t rfl) ?_
  have ht_f_n : (0 ≤ f_n ∧ f_n ≤ 10) := by rw [← q_f_n]; exact hT 6 6 (A_6 hw) 14
  refine mr_lvE (lv' := [(0, .ref 0), (1, iv p1), (2, iv p2)]) rfl ?_
  refine mr_iload_n (pc := 0) (z := p2) dX11_prefix_0 rfl rfl ?_
  refine mr_if_lt (pc := 1) (tgt := 21) dX11_prefix_1 (by decide) hp2 (fun h109 => ?_) (fun h109 => ?_)
  · have h110 : (-2147483648) ≤ p2 ∧ p2 ≤ (-1) := (vc_X12_cut_1 h109 hp2)
    refine mr_iconst (pc := 21) (z := (-1)) dX11_prefix_21 ?_
    exact mr_iret dX11_prefix_22 rfl (le_t rfl) (le_t rfl) hT mF.refl ⟨(rW (c := (-2147483648)) (d := 2147483647) (rR (x := (-1))) rfl), (Or.inl ⟨badP.r (vc_X11_prefix_v_2 h109 h110), rfl⟩), (Or.inr ⟨vc_X12_raise_u_49, rfl⟩), trivial⟩
  have h111 : 0 ≤ p2 ∧ p2 ≤ 2147483647 := (vc_X12_cut_2 h109 hp2)
  refine mr_iload_n (pc := 4) (z := p2) dX11_prefix_4 rfl rfl ?_
  refine mr_bipush (pc := 5) (z := 32) dX11_prefix_5 (by decide) ?_
  refine mr_icmp_gt (pc := 7) (tgt := 21) dX11_prefix_7 (by decide) (r32 h111 rfl) (r32 (rR (x := 32)) rfl) (fun h112 => ?_) (fun h112 => ?_)
  · have h113 : 33 ≤ p2 ∧ p2 ≤ 2147483647 := (vc_X11_prefix_v_5 h112 h109 h111)
    refine mr_iconst (pc := 21) (z := (-1)) dX11_prefix_21 ?_
    exact mr_iret dX11_prefix_22 rfl (le_t rfl) (le_t rfl) hT mF.refl ⟨(rW (c := (-2147483648)) (d := 2147483647) (rR (x := (-1))) rfl), (Or.inl ⟨badP.r (vc_X11_prefix_v_6 h109 h112 h113), rfl⟩), (Or.inr ⟨vc_X12_raise_u_49, rfl⟩), trivial⟩
  have h114 : 0 ≤ p2 ∧ p2 ≤ 32 := (vc_X11_prefix_v_7 h112 h109 h111)
  refine mr_iload_n (pc := 10) (z := p1) dX11_prefix_10 rfl rfl ?_
  refine mr_iload_n (pc := 11) (z := p2) dX11_prefix_11 rfl rfl ?_
  refine mr_cSP (pc := 12) (c_X10_maskOf_v hw hT h114) (gOk _ _ _ _ _) dX11_prefix_12 (tX10_maskOf _ _ _ _ _) wS_X10_maskOf wM_X11_84 ⟨le_t rfl, le_t rfl⟩ ⟨le_t rfl, le_t rfl⟩ rfl (le_t rfl) fun z119 h118 => ?_
  refine mr_iconst (pc := 15) (z := (-1)) dX11_prefix_15 ?_
  refine mr_ixor (pc := 16) (x := z119) (y := (-1)) dX11_prefix_16 ?_
  refine mr_gen (P := fun z => (-2147483648) ≤ z ∧ z ≤ 2147483647) (r32i _) fun z120 q121 h122 => ?_
  refine mr_iand (pc := 17) (x := p1) (y := z120) dX11_prefix_17 ?_
  refine mr_gen (P := fun z => (-2147483648) ≤ z ∧ z ≤ 2147483647) (r32i _) fun z123 q124 h125 => ?_
  refine mr_if_eq (pc := 18) (tgt := 23) dX11_prefix_18 (by decide) h125 (fun h126 => ?_) (fun h126 => ?_)
  · have h127 : 0 ≤ z123 ∧ z123 ≤ 0 := (vc_X12_mask_1 h126 h125)
    refine sv_aload_n (pc := 23) dX11_prefix_23 rfl rfl ?_
    refine gf_X11_3 (pc := 24) dX11_prefix_24 wF_X11_26 (A_0 hw) hT ?_
    refine mr_iload_n (pc := 27) (z := p1) dX11_prefix_27 rfl rfl ?_
    refine mr_iload_n (pc := 28) (z := p2) dX11_prefix_28 rfl rfl ?_
    refine mr_cVP (pc := 29) (c_X10_findPrefix_v hw hT hp1 (rW (c := (-2147483648)) (d := 2147483647) h114 rfl) q_f_n) (gOk _ _ _ _ _) dX11_prefix_29 (tX10_findPrefix _ _ _ _ _) ⟨wV_X10_findPrefix, wL_X10_findPrefix⟩ wM_X11_88 (gCX10 _ _ _ _ _) rfl (A_6 hw) rfl ⟨le_t rfl, le_t rfl⟩ ⟨le_t rfl, le_t rfl⟩ rfl (le_t rfl) fun z132 h131 => ?_
    refine mr_if_lt (pc := 32) (tgt := 38) dX11_prefix_32 (by decide) (r32 h131.1 rfl) (fun h133 => ?_) (fun h133 => ?_)
    · have h134 : (-1) ≤ z132 ∧ z132 ≤ (-1) := (vc_X12_isThere_3 h133 h131.1)
      refine sv_aload_n (pc := 38) dX11_prefix_38 rfl rfl ?_
      refine gf_X11_3 (pc := 39) dX11_prefix_39 wF_X11_26 (A_0 hw) hT ?_
      refine gk_X10_14 (pc := 42) dX11_prefix_42 wF_X11_92 (A_6 hw) q_f_n ?_
      refine mr_bipush (pc := 45) (z := 10) dX11_prefix_45 (by decide) ?_
      refine mr_icmp_lt (pc := 47) (tgt := 53) dX11_prefix_47 (by decide) (r32 ht_f_n rfl) (r32 (rR (x := 10)) rfl) (fun h135 => ?_) (fun h135 => ?_)
      · have h136 : 0 ≤ f_n ∧ f_n ≤ 9 := (vc_X12_ring_57 h135 ht_f_n)
        refine sv_aload_n (pc := 53) dX11_prefix_53 rfl rfl ?_
        refine gf_X11_3 (pc := 54) dX11_prefix_54 wF_X11_26 (A_0 hw) hT ?_
        refine mr_iload_n (pc := 57) (z := p1) dX11_prefix_57 rfl rfl ?_
        refine mr_iload_n (pc := 58) (z := p2) dX11_prefix_58 rfl rfl ?_
        refine mr_cVI (pc := 59) (c_X10_addPrefix_v hw hT hp1 h114 q_f_n (vc_X11_prefix_v_11 h135 h136)) (gOk _ _ _ _ _) dX11_prefix_59 (tX10_addPrefix _ _ _ _ _) ⟨wV_X10_addPrefix, wL_X10_addPrefix⟩ wM_X11_95 (gCX10 _ _ _ _ _) rfl (A_6 hw) rfl ⟨le_t rfl, le_t rfl⟩ ⟨le_t rfl, le_t rfl⟩ rfl (le_t rfl) fun z141 μ137 T138 F139 h140 => ?_
        obtain ⟨z142, q143, h144⟩ := h140
        have h145 : (0 ≤ z142 ∧ z142 ≤ 10) := by rw [← q143]; exact T138 6 6 (A_6 hw) 14
        have h146 : 0 ≤ z141 ∧ z141 ≤ 9 := (vc_X11_prefix_v_12 h144.2.1 h135 h136 h144.1)
        have q147 : μ137 6 14 = (f_n + 1) := q143.trans h144.2.2.1
        exact mr_iret dX11_prefix_62 rfl (le_t rfl) (le_t rfl) T138 (mF.call mF.refl F139 rfl) ⟨(rW (c := (-2147483648)) (d := 2147483647) h146 rfl), (Or.inr ⟨(badP.n (vc_X11_prefix_v_13 h109 h112 h114) (andMk h118.2.1 q121 q124) (vc_X12_goes_7 h126 h127)), Or.inr ⟨(h131.2.2.1 (vc_X11_prefix_v_15 h133 h134)), Or.inr ⟨(vc_X11_prefix_v_16 h135 h144.2.1 h144.2.2.1 h136 h146 h145), (vc_X11_prefix_v_17 h135 h144.2.1 h144.2.2.1 h136 h146 h145)⟩⟩⟩), (adQ.add q_f_n (vc_X11_prefix_v_18 h144.2.1 h135 h144.2.2.1 h136 h146 h145) q147 (vc_X11_prefix_v_19 h135 h144.2.1 h144.2.2.1 h136 h146 h145) h144.2.2.2.1), trivial⟩
      have h148 : 10 ≤ f_n ∧ f_n ≤ 10 := (vc_X12_ring_6 h135 ht_f_n)
      refine mr_bipush (pc := 50) (z := (-3)) dX11_prefix_50 (by decide) ?_
      exact mr_iret dX11_prefix_52 rfl (le_t rfl) (le_t rfl) hT mF.refl ⟨(rW (c := (-2147483648)) (d := 2147483647) (rR (x := (-3))) rfl), (Or.inr ⟨(badP.n (vc_X11_prefix_v_13 h109 h112 h114) (andMk h118.2.1 q121 q124) (vc_X12_goes_7 h126 h127)), Or.inr ⟨(h131.2.2.1 (vc_X11_prefix_v_15 h133 h134)), Or.inl ⟨(vc_X11_prefix_v_21 h135 h148), rfl⟩⟩⟩), (Or.inr ⟨vc_X11_prefix_v_22, rfl⟩), trivial⟩
    have h149 : 0 ≤ z132 ∧ z132 ≤ 9 := (vc_X12_isThere_6 h133 h131.1)
    refine mr_bipush (pc := 35) (z := (-2)) dX11_prefix_35 (by decide) ?_
    exact mr_iret dX11_prefix_37 rfl (le_t rfl) (le_t rfl) hT mF.refl ⟨(rW (c := (-2147483648)) (d := 2147483647) (rR (x := (-2))) rfl), (Or.inr ⟨(badP.n (vc_X11_prefix_v_13 h109 h112 h114) (andMk h118.2.1 q121 q124) (vc_X12_goes_7 h126 h127)), Or.inl ⟨h131.2.1 (vc_X11_prefix_v_24 h133 h149), rfl⟩⟩), (Or.inr ⟨vc_X11_prefix_v_25, rfl⟩), trivial⟩
  refine mr_iconst (pc := 21) (z := (-1)) dX11_prefix_21 ?_
  exact mr_iret dX11_prefix_22 rfl (le_t rfl) (le_t rfl) hT mF.refl ⟨(rW (c := (-2147483648)) (d := 2147483647) (rR (x := (-1))) rfl), (Or.inl ⟨badP.a (andMk h118.2.1 q121 q124) (vc_X11_prefix_v_26 h126 h125), rfl⟩), (Or.inr ⟨vc_X12_raise_u_49, rfl⟩), trivial⟩
theorem vc_X12_prefix_v_1 {p2 z125 : Int} (h0 : z125 = 0) (h1 : (z125 = 1 → (0 : Int) ≤ p2 ∧ p2 ≤ (32 : Int))) (h2 : (z125 = 0 → p2 < (0 : Int) ∨ (32 : Int) < p2)) (h3 : (-2147483648) ≤ p2 ∧ p2 ≤ 2147483647) (h4 : 0 ≤ z125 ∧ z125 ≤ 1) : 0 ≤ z125 ∧ z125 ≤ 0 := by omega
theorem vc_X12_prefix_v_2 {p2 z125 : Int} (h0 : (z125 = 1 → (0 : Int) ≤ p2 ∧ p2 ≤ (32 : Int))) (h1 : (z125 = 0 → p2 < (0 : Int) ∨ (32 : Int) < p2)) (h2 : z125 = 0) (h3 : (-2147483648) ≤ p2 ∧ p2 ≤ 2147483647) (h4 : 0 ≤ z125 ∧ z125 ≤ 0) : z125 = 0 := by omega
theorem vc_X12_prefix_v_3 {p2 z125 : Int} (h0 : (z125 = 1 → (0 : Int) ≤ p2 ∧ p2 ≤ (32 : Int))) (h1 : (z125 = 0 → p2 < (0 : Int) ∨ (32 : Int) < p2)) (h2 : p2 < (0 : Int) ∨ (32 : Int) < p2) (h3 : z125 = 0) (h4 : (-2147483648) ≤ p2 ∧ p2 ≤ 2147483647) (h5 : 0 ≤ z125 ∧ z125 ≤ 0) : p2 < 0 ∨ 32 < p2 := by omega
theorem vc_X12_prefix_v_5 {p2 z125 : Int} (h0 : ¬ z125 = 0) (h1 : (z125 = 1 → (0 : Int) ≤ p2 ∧ p2 ≤ (32 : Int))) (h2 : (z125 = 0 → p2 < (0 : Int) ∨ (32 : Int) < p2)) (h3 : (-2147483648) ≤ p2 ∧ p2 ≤ 2147483647) (h4 : 0 ≤ z125 ∧ z125 ≤ 1) : 1 ≤ z125 ∧ z125 ≤ 1 := by omega
theorem vc_X12_prefix_v_6 {p2 z125 : Int} (h0 : (z125 = 1 → (0 : Int) ≤ p2 ∧ p2 ≤ (32 : Int))) (h1 : (z125 = 0 → p2 < (0 : Int) ∨ (32 : Int) < p2)) (h2 : ¬ z125 = 0) (h3 : (-2147483648) ≤ p2 ∧ p2 ≤ 2147483647) (h4 : 1 ≤ z125 ∧ z125 ≤ 1) : z125 = 1 := by omega
theorem vc_X12_prefix_v_7 {p2 z125 : Int} (h0 : (0 : Int) ≤ p2 ∧ p2 ≤ (32 : Int)) (h1 : (z125 = 1 → (0 : Int) ≤ p2 ∧ p2 ≤ (32 : Int))) (h2 : (z125 = 0 → p2 < (0 : Int) ∨ (32 : Int) < p2)) (h3 : (-2147483648) ≤ p2 ∧ p2 ≤ 2147483647) (h4 : 1 ≤ z125 ∧ z125 ≤ 1) : 0 ≤ p2 ∧ p2 ≤ 32 := by omega
theorem vc_X12_prefix_v_9 {z149 : Int} (h0 : z149 = (-99999999)) (h1 : z149 = -99999999 ∨ (0 ≤ z149 ∧ z149 ≤ 9)) (h2 : (-99999999) ≤ z149 ∧ z149 ≤ 9) : (-99999999) ≤ z149 ∧ z149 ≤ (-99999999) := by omega
theorem vc_X12_prefix_v_11 {f_n : Int} (h0 : ¬ f_n = 10) (h1 : 0 ≤ f_n ∧ f_n ≤ 9) : f_n ≤ (f_n + 1) := by omega
theorem vc_X12_prefix_v_12 {f_n : Int} (h0 : ¬ f_n = 10) (h1 : 0 ≤ f_n ∧ f_n ≤ 9) : (f_n + 1) = f_n + 1 := by omega
theorem vc_X12_prefix_v_13 {p2 z125 : Int} (h0 : (z125 = 1 → (0 : Int) ≤ p2 ∧ p2 ≤ (32 : Int))) (h1 : (z125 = 0 → p2 < (0 : Int) ∨ (32 : Int) < p2)) (h2 : (0 : Int) ≤ p2 ∧ p2 ≤ (32 : Int)) (h3 : ¬ z125 = 0) (h4 : 0 ≤ p2 ∧ p2 ≤ 32) (h5 : 1 ≤ z125 ∧ z125 ≤ 1) : 0 ≤ p2 ∧ p2 ≤ 32 := by omega
theorem vc_X12_prefix_v_15 {z149 : Int} (h0 : z149 = -99999999 ∨ (0 ≤ z149 ∧ z149 ≤ 9)) (h1 : z149 = (-99999999)) (h2 : (-99999999) ≤ z149 ∧ z149 ≤ (-99999999)) : z149 < 0 := by omega
theorem vc_X12_prefix_v_16 {f_n : Int} (h0 : ¬ f_n = 10) (h1 : 0 ≤ f_n ∧ f_n ≤ 9) : f_n < 10 := by omega
theorem vc_X12_prefix_v_17 {f_n : Int} (h0 : ¬ f_n = 10) (h1 : 0 ≤ f_n ∧ f_n ≤ 9) : ((f_n + 1) - 1) = f_n := by omega
theorem vc_X12_prefix_v_18 {f_n : Int} (h0 : ¬ f_n = 10) (h1 : 0 ≤ f_n ∧ f_n ≤ 9) : 0 ≤ ((f_n + 1) - 1) := by omega
theorem vc_X12_prefix_v_20 {f_n : Int} (h0 : f_n = 10) (h1 : 10 ≤ f_n ∧ f_n ≤ 10) : 10 ≤ f_n := by omega
theorem vc_X12_prefix_v_22 {z149 : Int} (h0 : ¬ z149 = (-99999999)) (h1 : z149 = -99999999 ∨ (0 ≤ z149 ∧ z149 ≤ 9)) (h2 : (-99999999) ≤ z149 ∧ z149 ≤ 9) : 0 ≤ z149 ∧ z149 ≤ 9 := by omega
theorem vc_X12_prefix_v_23 {z149 : Int} (h0 : z149 = -99999999 ∨ (0 ≤ z149 ∧ z149 ≤ 9)) (h1 : ¬ z149 = (-99999999)) (h2 : 0 ≤ z149 ∧ z149 ≤ 9) : 0 ≤ z149 := by omega
set_option maxRecDepth 4000 in
set_option maxHeartbeats 4000000 in
theorem c_X12_prefix_v {l : Launch} {D : va_G} {c : Nat → ClassId} {H0 : Heap} {sa : Nat × Nat × (Nat → Int32)} {w : mW} {μ : mM} (hw : mWF w) (hT : mT w μ) {p1 : Int} (hp1 : (-2147483648) ≤ p1 ∧ p1 ≤ 2147483647) {p2 : Int} (hp2 : (-2147483648) ≤ p2 ∧ p2 ≤ 2147483647) {f_n : Int} (q_f_n : μ 106 2 = f_n) (hIJC : JC l D c H0 sa μ) (hIRP : RP μ) (hIEP : EP μ) (hIHP : HP μ) (hIUP : UP l D c H0 sa μ) (hIRR : RR μ) (hIG1 : G1 μ) (hIEV : EV μ) (hIPK : PK μ) : sC (gG l D c H0 sa) mX12_prefix 2 0 0 [.ref 106, iv p1, iv p2] (mk w μ) (qI w [106002, 108999, 109999] μ (fun z μ1 => ((-2147483648) ≤ z ∧ z ≤ 2147483647) ∧ JC l D c H0 sa μ1 ∧ RP μ1 ∧ EP μ1 ∧ HP μ1 ∧ UP l D c H0 sa μ1 ∧ RR μ1 ∧ G1 μ1 ∧ EV μ1 ∧ PK μ1 ∧ (preA (hasP μ 108 109 f_n p1 p2) f_n p1 p2 z) ∧ (adQ μ μ1 106 2 108 109 p1 p2 z) ∧ True)) := by
  refine sC.of rfl (by decide) (le_t rfl) ?_
  have ht_f_n : (0 ≤ f_n ∧ f_n ≤ 10) := by rw [← q_f_n]; exact hT 106 106 (A_106 hw) 2
  refine mr_lvE (lv' := [(0, .ref 106), (1, iv p1), (2, iv p2)]) rfl ?_
  refine mr_iload_n (pc := 0) (z := p2) dX12_prefix_0 rfl rfl ?_
  refine mr_iconst (pc := 1) (z := 0) dX12_prefix_1 ?_
  refine mr_bipush (pc := 2) (z := 32) dX12_prefix_2 (by decide) ?_
  refine mr_cSP (pc := 4) (c_X12_in hw hT hp2 (rW (c := (-2147483648)) (d := 2147483647) (rR (x := 0)) rfl) (rW (c := (-2147483648)) (d := 2147483647) (rR (x := 32)) rfl)) (gOk _ _ _ _ _) dX12_prefix_4 (tX12_in _ _ _ _ _) wS_X12_in wM_X12_18 ⟨le_t rfl, le_t rfl⟩ ⟨le_t rfl, le_t rfl⟩ rfl (le_t rfl) fun z125 h124 => ?_
  refine mr_if_eq (pc := 7) (tgt := 21) dX12_prefix_7 (by decide) (r32 h124.1 rfl) (fun h126 => ?_) (fun h126 => ?_)
  · have h127 : 0 ≤ z125 ∧ z125 ≤ 0 := (vc_X12_prefix_v_1 h126 h124.2.1 h124.2.2.1 hp2 h124.1)
    have h128 : p2 < (0 : Int) ∨ (32 : Int) < p2 := (h124.2.2.1 (vc_X12_prefix_v_2 h124.2.1 h124.2.2.1 h126 hp2 h127))
    refine mr_iconst (pc := 21) (z := (-1)) dX12_prefix_21 ?_
    exact mr_iret dX12_prefix_22 rfl (le_t rfl) (le_t rfl) hT mF.refl ⟨(rW (c := (-2147483648)) (d := 2147483647) (rR (x := (-1))) rfl), hIJC, hIRP, hIEP, hIHP, hIUP, hIRR, hIG1, hIEV, hIPK, (Or.inl ⟨badP.r (vc_X12_prefix_v_3 h124.2.1 h124.2.2.1 h128 h126 hp2 h127), rfl⟩), (Or.inr ⟨vc_X12_raise_u_49, rfl⟩), trivial⟩
  have h129 : 1 ≤ z125 ∧ z125 ≤ 1 := (vc_X12_prefix_v_5 h126 h124.2.1 h124.2.2.1 hp2 h124.1)
  have h130 : (0 : Int) ≤ p2 ∧ p2 ≤ (32 : Int) := (h124.2.1 (vc_X12_prefix_v_6 h124.2.1 h124.2.2.1 h126 hp2 h129))
  have h131 : 0 ≤ p2 ∧ p2 ≤ 32 := (vc_X12_prefix_v_7 h130 h124.2.1 h124.2.2.1 hp2 h129)
  refine mr_iload_n (pc := 10) (z := p1) dX12_prefix_10 rfl rfl ?_
  refine mr_iload_n (pc := 11) (z := p2) dX12_prefix_11 rfl rfl ?_
  refine mr_cSP (pc := 12) (c_X12_mask_v hw hT h131) (gOk _ _ _ _ _) dX12_prefix_12 (tX12_mask _ _ _ _ _) wS_X12_mask wM_X12_11 ⟨le_t rfl, le_t rfl⟩ ⟨le_t rfl, le_t rfl⟩ rfl (le_t rfl) fun z136 h135 => ?_
  refine mr_iconst (pc := 15) (z := (-1)) dX12_prefix_15 ?_
  refine mr_ixor (pc := 16) (x := z136) (y := (-1)) dX12_prefix_16 ?_
  refine mr_gen (P := fun z => (-2147483648) ≤ z ∧ z ≤ 2147483647) (r32i _) fun z137 q138 h139 => ?_
  refine mr_iand (pc := 17) (x := p1) (y := z137) dX12_prefix_17 ?_
  refine mr_gen (P := fun z => (-2147483648) ≤ z ∧ z ≤ 2147483647) (r32i _) fun z140 q141 h142 => ?_
  refine mr_if_eq (pc := 18) (tgt := 23) dX12_prefix_18 (by decide) h142 (fun h143 => ?_) (fun h143 => ?_)
  · have h144 : 0 ≤ z140 ∧ z140 ≤ 0 := (vc_X12_mask_1 h143 h142)
    refine sv_aload_n (pc := 23) dX12_prefix_23 rfl rfl ?_
    refine mr_iload_n (pc := 24) (z := p1) dX12_prefix_24 rfl rfl ?_
    refine mr_iload_n (pc := 25) (z := p2) dX12_prefix_25 rfl rfl ?_
    refine mr_cVP (pc := 26) (c_X12_prefixOf_v hw hT hp1 (rW (c := (-2147483648)) (d := 2147483647) h131 rfl) q_f_n) (gOk _ _ _ _ _) dX12_prefix_26 (tX12_prefixOf _ _ _ _ _) ⟨wV_X12_prefixOf, wL_X12_prefixOf⟩ wM_X12_30 (gCX12 _ _ _ _ _) rfl (A_106 hw) rfl ⟨le_t rfl, le_t rfl⟩ ⟨le_t rfl, le_t rfl⟩ rfl (le_t rfl) fun z149 h148 => ?_
    refine mr_ldc (pc := 29) (z := (-99999999)) dX12_prefix_29 wG_X12_29 (by decide) ?_
    refine mr_icmp_eq (pc := 31) (tgt := 37) dX12_prefix_31 (by decide) (r32 h148.1 rfl) (r32 (rR (x := (-99999999))) rfl) (fun h150 => ?_) (fun h150 => ?_)
    · have h151 : (-99999999) ≤ z149 ∧ z149 ≤ (-99999999) := (vc_X12_prefix_v_9 h150 h148.2.1 h148.1)
      refine sv_aload_n (pc := 37) dX12_prefix_37 rfl rfl ?_
      refine gk_X12_2 (pc := 38) dX12_prefix_38 wF_X12_15 (A_106 hw) q_f_n ?_
      refine mr_bipush (pc := 41) (z := 10) dX12_prefix_41 (by decide) ?_
      refine mr_icmp_ne (pc := 43) (tgt := 49) dX12_prefix_43 (by decide) (r32 ht_f_n rfl) (r32 (rR (x := 10)) rfl) (fun h152 => ?_) (fun h152 => ?_)
      · have h153 : 0 ≤ f_n ∧ f_n ≤ 9 := (vc_X12_domain_v_1 h152 ht_f_n)
        refine sv_aload_n (pc := 49) dX12_prefix_49 rfl rfl ?_
        refine gf_X12_3 (pc := 50) dX12_prefix_50 wF_X12_22 (A_106 hw) hT ?_
        refine sv_aload_n (pc := 53) dX12_prefix_53 rfl rfl ?_
        refine gk_X12_2 (pc := 54) dX12_prefix_54 wF_X12_15 (A_106 hw) q_f_n ?_
        refine mr_iload_n (pc := 57) (z := p1) dX12_prefix_57 rfl rfl ?_
        refine ss_108 (pc := 58) dX12_prefix_58 (A_108 hw) hT (rIx (n := 10) h153 rfl) hp1 fun μ154 u155 T156 => ?_
        refine sv_aload_n (pc := 59) dX12_prefix_59 rfl rfl ?_
        refine gf_X12_4 (pc := 60) dX12_prefix_60 wF_X12_26 (A_106 hw) T156 ?_
        refine sv_aload_n (pc := 63) dX12_prefix_63 rfl rfl ?_
        refine gk_X12_2 (pc := 64) dX12_prefix_64 wF_X12_15 (A_106 hw) (u155.f (Or.inl (mAt.ne (A_108 hw) (A_106 hw) rfl)) q_f_n) ?_
        refine mr_iload_n (pc := 67) (z := p2) dX12_prefix_67 rfl rfl ?_
        refine ss_109 (pc := 68) dX12_prefix_68 (A_109 hw) T156 (rIx (n := 10) h153 rfl) h131 fun μ157 u158 T159 => ?_
        refine sv_aload_n (pc := 69) dX12_prefix_69 rfl rfl ?_
        refine sv_dup (pc := 70) dX12_prefix_70 rfl ?_
        refine gk_X12_2 (pc := 71) dX12_prefix_71 wF_X12_15 (A_106 hw) (u158.f (Or.inl (mAt.ne (A_109 hw) (A_106 hw) rfl)) (u155.f (Or.inl (mAt.ne (A_108 hw) (A_106 hw) rfl)) q_f_n)) ?_
        refine mr_iconst (pc := 74) (z := 1) dX12_prefix_74 ?_
        refine mr_iadd (pc := 75) (x := f_n) (y := 1) dX12_prefix_75 ?_
        refine pf_X12_2 (pc := 76) dX12_prefix_76 wF_X12_15 (A_106 hw) T159 (rW (c := 0) (d := 10) (rAdd (e := 1) (f := 10) h153 (rR (x := 1)) rfl) rfl) fun μ160 u161 T162 => ?_
        have I163 : RP μ160 := RP.grow (RP.keep hIRP hw ((mF.up (mF.up mF.refl (A_108 hw) u155 rfl) (A_109 hw) u158 rfl) : mF [108999, 109999] w μ μ157) rfl ((mG.upO (mG.upO mG.refl u155 rfl) u158 rfl) : mG [] μ μ157) (fun _ h => absurd h List.not_mem_nil)) (u158.f (Or.inl (mAt.ne (A_109 hw) (A_106 hw) rfl)) (u155.f (Or.inl (mAt.ne (A_108 hw) (A_106 hw) rfl)) q_f_n)) u161 (vc_X12_prefix_v_11 h152 h153)
        have I164 : EP μ160 := EP.grow (EP.keep hIEP hw ((mF.up (mF.up mF.refl (A_108 hw) u155 rfl) (A_109 hw) u158 rfl) : mF [108999, 109999] w μ μ157) rfl) (u158.f (Or.inl (mAt.ne (A_109 hw) (A_106 hw) rfl)) (u155.f (Or.inl (mAt.ne (A_108 hw) (A_106 hw) rfl)) q_f_n)) u161 (vc_X12_prefix_v_11 h152 h153)
        have I165 : HP μ160 := HP.grow2 (HP.keep hIHP hw ((mF.up (mF.up mF.refl (A_108 hw) u155 rfl) (A_109 hw) u158 rfl) : mF [108999, 109999] w μ μ157) rfl ((mG.upO (mG.upO mG.refl u155 rfl) u158 rfl) : mG [] μ μ157) (fun _ h => absurd h List.not_mem_nil)) (u158.f (Or.inl (mAt.ne (A_109 hw) (A_106 hw) rfl)) (u155.f (Or.inl (mAt.ne (A_108 hw) (A_106 hw) rfl)) q_f_n)) u161 (vc_X12_prefix_v_11 h152 h153)
        have I166 : RR μ160 := RR.grow (RR.keep hIRR hw ((mF.up (mF.up mF.refl (A_108 hw) u155 rfl) (A_109 hw) u158 rfl) : mF [108999, 109999] w μ μ157) rfl rfl rfl) (u158.f (Or.inl (mAt.ne (A_109 hw) (A_106 hw) rfl)) (u155.f (Or.inl (mAt.ne (A_108 hw) (A_106 hw) rfl)) q_f_n)) u161 (vc_X12_prefix_v_11 h152 h153)
        have I167 : JC l D c H0 sa μ160 := PX.jc hIJC hIRR hw hT q_f_n u155 u158 u161 (vc_X12_prefix_v_11 h152 h153)
        have I168 : UP l D c H0 sa μ160 := PX.up hIUP hIHP hIRP hIRR hw hT T162 (PK.keep hIPK hw ((mF.up (mF.up (mF.up mF.refl (A_108 hw) u155 rfl) (A_109 hw) u158 rfl) (A_106 hw) u161 rfl) : mF [106002, 108999, 109999] w μ μ160) rfl) q_f_n u155 u158 u161 (vc_X12_prefix_v_12 h152 h153)
        refine sv_aload_n (pc := 79) dX12_prefix_79 rfl rfl ?_
        refine gk_X12_2 (pc := 80) dX12_prefix_80 wF_X12_15 (A_106 hw) u161.1 ?_
        refine mr_iconst (pc := 83) (z := 1) dX12_prefix_83 ?_
        refine mr_isub (pc := 84) (x := (f_n + 1)) (y := 1) dX12_prefix_84 ?_
        exact mr_iret dX12_prefix_85 rfl (le_t rfl) (le_t rfl) T162 (mF.up (mF.up (mF.up mF.refl (A_108 hw) u155 rfl) (A_109 hw) u158 rfl) (A_106 hw) u161 rfl) ⟨(rW (c := (-2147483648)) (d := 2147483647) (rSub (e := 0) (f := 9) (rAdd (e := 1) (f := 10) h153 (rR (x := 1)) rfl) (rR (x := 1)) rfl) rfl), I167, I163, I164, I165, I168, I166, (G1.keep hIG1 hw ((mF.up (mF.up (mF.up mF.refl (A_108 hw) u155 rfl) (A_109 hw) u158 rfl) (A_106 hw) u161 rfl) : mF [106002, 108999, 109999] w μ μ160) rfl rfl ((mG.upO (mG.upO (mG.upO mG.refl u155 rfl) u158 rfl) u161 rfl) : mG [] μ μ160) (fun _ h => absurd h List.not_mem_nil)), (EV.keep hIEV hw ((mF.up (mF.up (mF.up mF.refl (A_108 hw) u155 rfl) (A_109 hw) u158 rfl) (A_106 hw) u161 rfl) : mF [106002, 108999, 109999] w μ μ160) rfl), (PK.keep hIPK hw ((mF.up (mF.up (mF.up mF.refl (A_108 hw) u155 rfl) (A_109 hw) u158 rfl) (A_106 hw) u161 rfl) : mF [106002, 108999, 109999] w μ μ160) rfl), (Or.inr ⟨(badP.n (vc_X12_prefix_v_13 h124.2.1 h124.2.2.1 h130 h126 h131 h129) (andMk h135.2.1 q138 q141) (vc_X12_goes_7 h143 h144)), Or.inr ⟨(h148.2.2.2.1 (vc_X12_prefix_v_15 h148.2.1 h150 h151)), Or.inr ⟨(vc_X12_prefix_v_16 h152 h153), (vc_X12_prefix_v_17 h152 h153)⟩⟩⟩), (adQ.add q_f_n (vc_X12_prefix_v_18 h152 h153) u161.1 (vc_X12_prefix_v_12 h152 h153) (adT.oth (adT.two u155 u158 (by decide)) u161 (by decide) (by decide))), trivial⟩
      have h169 : 10 ≤ f_n ∧ f_n ≤ 10 := (vc_X12_domain_v_4 h152 ht_f_n)
      refine mr_bipush (pc := 46) (z := (-3)) dX12_prefix_46 (by decide) ?_
      exact mr_iret dX12_prefix_48 rfl (le_t rfl) (le_t rfl) hT mF.refl ⟨(rW (c := (-2147483648)) (d := 2147483647) (rR (x := (-3))) rfl), hIJC, hIRP, hIEP, hIHP, hIUP, hIRR, hIG1, hIEV, hIPK, (Or.inr ⟨(badP.n (vc_X12_prefix_v_13 h124.2.1 h124.2.2.1 h130 h126 h131 h129) (andMk h135.2.1 q138 q141) (vc_X12_goes_7 h143 h144)), Or.inr ⟨(h148.2.2.2.1 (vc_X12_prefix_v_15 h148.2.1 h150 h151)), Or.inl ⟨(vc_X12_prefix_v_20 h152 h169), rfl⟩⟩⟩), (Or.inr ⟨vc_X11_prefix_v_22, rfl⟩), trivial⟩
    have h170 : 0 ≤ z149 ∧ z149 ≤ 9 := (vc_X12_prefix_v_22 h150 h148.2.1 h148.1)
    refine mr_bipush (pc := 34) (z := (-2)) dX12_prefix_34 (by decide) ?_
    exact mr_iret dX12_prefix_36 rfl (le_t rfl) (le_t rfl) hT mF.refl ⟨(rW (c := (-2147483648)) (d := 2147483647) (rR (x := (-2))) rfl), hIJC, hIRP, hIEP, hIHP, hIUP, hIRR, hIG1, hIEV, hIPK, (Or.inr ⟨(badP.n (vc_X12_prefix_v_13 h124.2.1 h124.2.2.1 h130 h126 h131 h129) (andMk h135.2.1 q138 q141) (vc_X12_goes_7 h143 h144)), Or.inl ⟨h148.2.2.1 (vc_X12_prefix_v_23 h148.2.1 h150 h170), rfl⟩⟩), (Or.inr ⟨vc_X11_prefix_v_25, rfl⟩), trivial⟩
  refine mr_iconst (pc := 21) (z := (-1)) dX12_prefix_21 ?_
  exact mr_iret dX12_prefix_22 rfl (le_t rfl) (le_t rfl) hT mF.refl ⟨(rW (c := (-2147483648)) (d := 2147483647) (rR (x := (-1))) rfl), hIJC, hIRP, hIEP, hIHP, hIUP, hIRR, hIG1, hIEV, hIPK, (Or.inl ⟨badP.a (andMk h135.2.1 q138 q141) (vc_X11_prefix_v_26 h143 h142), rfl⟩), (Or.inr ⟨vc_X12_raise_u_49, rfl⟩), trivial⟩
theorem vc_X11_route_v_1 {f_n p1 z137 : Int} (h0 : z137 = 0) (h1 : (z137 = 1 → 0 ≤ p1 ∧ p1 < f_n)) (h2 : (z137 = 0 → p1 < 0 ∨ f_n ≤ p1)) (h3 : 0 ≤ f_n ∧ f_n ≤ 10) (h4 : (-2147483648) ≤ p1 ∧ p1 ≤ 2147483647) (h5 : 0 ≤ z137 ∧ z137 ≤ 1) : 0 ≤ z137 ∧ z137 ≤ 0 := by omega
theorem vc_X11_route_v_2 {f_n p1 z137 : Int} (h0 : (z137 = 1 → 0 ≤ p1 ∧ p1 < f_n)) (h1 : (z137 = 0 → p1 < 0 ∨ f_n ≤ p1)) (h2 : z137 = 0) (h3 : 0 ≤ f_n ∧ f_n ≤ 10) (h4 : (-2147483648) ≤ p1 ∧ p1 ≤ 2147483647) (h5 : 0 ≤ z137 ∧ z137 ≤ 0) : z137 = 0 := by omega
theorem vc_X11_route_v_3 {f_n p1 p2 p3 p4 z137 : Int} (h0 : (z137 = 1 → 0 ≤ p1 ∧ p1 < f_n)) (h1 : (z137 = 0 → p1 < 0 ∨ f_n ≤ p1)) (h2 : p1 < 0 ∨ f_n ≤ p1) (h3 : z137 = 0) (h4 : 0 ≤ f_n ∧ f_n ≤ 10) (h5 : (-2147483648) ≤ p1 ∧ p1 ≤ 2147483647) (h6 : (-2147483648) ≤ p2 ∧ p2 ≤ 2147483647) (h7 : (-2147483648) ≤ p3 ∧ p3 ≤ 2147483647) (h8 : (-2147483648) ≤ p4 ∧ p4 ≤ 2147483647) (h9 : 0 ≤ z137 ∧ z137 ≤ 0) : p1 < 0 ∨ f_n ≤ p1 ∨ p2 < 0 ∨ 1000 < p2 ∨ p3 < 0 ∨ 2 < p3 ∨ p4 < 0 ∨ 1000000 < p4 → (-1 : Int) = -1 := by omega
theorem vc_X11_route_v_4 {f_n p1 p2 p3 p4 z137 : Int} (h0 : (z137 = 1 → 0 ≤ p1 ∧ p1 < f_n)) (h1 : (z137 = 0 → p1 < 0 ∨ f_n ≤ p1)) (h2 : p1 < 0 ∨ f_n ≤ p1) (h3 : z137 = 0) (h4 : 0 ≤ f_n ∧ f_n ≤ 10) (h5 : (-2147483648) ≤ p1 ∧ p1 ≤ 2147483647) (h6 : (-2147483648) ≤ p2 ∧ p2 ≤ 2147483647) (h7 : (-2147483648) ≤ p3 ∧ p3 ≤ 2147483647) (h8 : (-2147483648) ≤ p4 ∧ p4 ≤ 2147483647) (h9 : 0 ≤ z137 ∧ z137 ≤ 0) : 0 ≤ p1 → p1 < f_n → 0 ≤ p2 → p2 ≤ 1000 → 0 ≤ p3 → p3 ≤ 2 → 0 ≤ p4 → p4 ≤ 1000000 → (-1 : Int) = 0 := by omega
theorem vc_X11_route_v_5 {f_n p1 z137 : Int} (h0 : ¬ z137 = 0) (h1 : (z137 = 1 → 0 ≤ p1 ∧ p1 < f_n)) (h2 : (z137 = 0 → p1 < 0 ∨ f_n ≤ p1)) (h3 : 0 ≤ f_n ∧ f_n ≤ 10) (h4 : (-2147483648) ≤ p1 ∧ p1 ≤ 2147483647) (h5 : 0 ≤ z137 ∧ z137 ≤ 1) : 1 ≤ z137 ∧ z137 ≤ 1 := by omega
theorem vc_X11_route_v_6 {f_n p1 z137 : Int} (h0 : (z137 = 1 → 0 ≤ p1 ∧ p1 < f_n)) (h1 : (z137 = 0 → p1 < 0 ∨ f_n ≤ p1)) (h2 : ¬ z137 = 0) (h3 : 0 ≤ f_n ∧ f_n ≤ 10) (h4 : (-2147483648) ≤ p1 ∧ p1 ≤ 2147483647) (h5 : 1 ≤ z137 ∧ z137 ≤ 1) : z137 = 1 := by omega
theorem vc_X11_route_v_7 {f_n p1 z137 : Int} (h0 : 0 ≤ p1 ∧ p1 < f_n) (h1 : (z137 = 1 → 0 ≤ p1 ∧ p1 < f_n)) (h2 : (z137 = 0 → p1 < 0 ∨ f_n ≤ p1)) (h3 : 0 ≤ f_n ∧ f_n ≤ 10) (h4 : (-2147483648) ≤ p1 ∧ p1 ≤ 2147483647) (h5 : 1 ≤ z137 ∧ z137 ≤ 1) : 0 ≤ p1 ∧ p1 ≤ 9 := by omega
theorem vc_X11_route_v_8 {f_n p1 z137 : Int} (h0 : 0 ≤ p1 ∧ p1 < f_n) (h1 : (z137 = 1 → 0 ≤ p1 ∧ p1 < f_n)) (h2 : (z137 = 0 → p1 < 0 ∨ f_n ≤ p1)) (h3 : 0 ≤ f_n ∧ f_n ≤ 10) (h4 : 0 ≤ p1 ∧ p1 ≤ 9) (h5 : 1 ≤ z137 ∧ z137 ≤ 1) : 1 ≤ f_n ∧ f_n ≤ 10 := by omega
theorem vc_X11_route_v_10 {f_n p1 p2 p3 p4 z137 : Int} (h0 : (z137 = 1 → 0 ≤ p1 ∧ p1 < f_n)) (h1 : (z137 = 0 → p1 < 0 ∨ f_n ≤ p1)) (h2 : 0 ≤ p1 ∧ p1 < f_n) (h3 : p2 < 0) (h4 : ¬ z137 = 0) (h5 : 1 ≤ f_n ∧ f_n ≤ 10) (h6 : 0 ≤ p1 ∧ p1 ≤ 9) (h7 : (-2147483648) ≤ p2 ∧ p2 ≤ (-1)) (h8 : (-2147483648) ≤ p3 ∧ p3 ≤ 2147483647) (h9 : (-2147483648) ≤ p4 ∧ p4 ≤ 2147483647) (h10 : 1 ≤ z137 ∧ z137 ≤ 1) : p1 < 0 ∨ f_n ≤ p1 ∨ p2 < 0 ∨ 1000 < p2 ∨ p3 < 0 ∨ 2 < p3 ∨ p4 < 0 ∨ 1000000 < p4 → (-1 : Int) = -1 := by omega
theorem vc_X11_route_v_11 {f_n p1 p2 p3 p4 z137 : Int} (h0 : (z137 = 1 → 0 ≤ p1 ∧ p1 < f_n)) (h1 : (z137 = 0 → p1 < 0 ∨ f_n ≤ p1)) (h2 : 0 ≤ p1 ∧ p1 < f_n) (h3 : p2 < 0) (h4 : ¬ z137 = 0) (h5 : 1 ≤ f_n ∧ f_n ≤ 10) (h6 : 0 ≤ p1 ∧ p1 ≤ 9) (h7 : (-2147483648) ≤ p2 ∧ p2 ≤ (-1)) (h8 : (-2147483648) ≤ p3 ∧ p3 ≤ 2147483647) (h9 : (-2147483648) ≤ p4 ∧ p4 ≤ 2147483647) (h10 : 1 ≤ z137 ∧ z137 ≤ 1) : 0 ≤ p1 → p1 < f_n → 0 ≤ p2 → p2 ≤ 1000 → 0 ≤ p3 → p3 ≤ 2 → 0 ≤ p4 → p4 ≤ 1000000 → (-1 : Int) = 0 := by omega
theorem vc_X11_route_v_15 {f_n p1 p2 p3 p4 z137 : Int} (h0 : (z137 = 1 → 0 ≤ p1 ∧ p1 < f_n)) (h1 : (z137 = 0 → p1 < 0 ∨ f_n ≤ p1)) (h2 : 0 ≤ p1 ∧ p1 < f_n) (h3 : 0 ≤ p2) (h4 : p2 ≤ 1000) (h5 : p3 < 0) (h6 : ¬ z137 = 0) (h7 : 1 ≤ f_n ∧ f_n ≤ 10) (h8 : 0 ≤ p1 ∧ p1 ≤ 9) (h9 : 0 ≤ p2 ∧ p2 ≤ 1000) (h10 : (-2147483648) ≤ p3 ∧ p3 ≤ (-1)) (h11 : (-2147483648) ≤ p4 ∧ p4 ≤ 2147483647) (h12 : 1 ≤ z137 ∧ z137 ≤ 1) : p1 < 0 ∨ f_n ≤ p1 ∨ p2 < 0 ∨ 1000 < p2 ∨ p3 < 0 ∨ 2 < p3 ∨ p4 < 0 ∨ 1000000 < p4 → (-1 : Int) = -1 := by omega
theorem vc_X11_route_v_16 {f_n p1 p2 p3 p4 z137 : Int} (h0 : (z137 = 1 → 0 ≤ p1 ∧ p1 < f_n)) (h1 : (z137 = 0 → p1 < 0 ∨ f_n ≤ p1)) (h2 : 0 ≤ p1 ∧ p1 < f_n) (h3 : 0 ≤ p2) (h4 : p2 ≤ 1000) (h5 : p3 < 0) (h6 : ¬ z137 = 0) (h7 : 1 ≤ f_n ∧ f_n ≤ 10) (h8 : 0 ≤ p1 ∧ p1 ≤ 9) (h9 : 0 ≤ p2 ∧ p2 ≤ 1000) (h10 : (-2147483648) ≤ p3 ∧ p3 ≤ (-1)) (h11 : (-2147483648) ≤ p4 ∧ p4 ≤ 2147483647) (h12 : 1 ≤ z137 ∧ z137 ≤ 1) : 0 ≤ p1 → p1 < f_n → 0 ≤ p2 → p2 ≤ 1000 → 0 ≤ p3 → p3 ≤ 2 → 0 ≤ p4 → p4 ≤ 1000000 → (-1 : Int) = 0 := by omega
theorem vc_X11_route_v_19 {f_n p1 p2 p3 p4 z137 : Int} (h0 : (z137 = 1 → 0 ≤ p1 ∧ p1 < f_n)) (h1 : (z137 = 0 → p1 < 0 ∨ f_n ≤ p1)) (h2 : 0 ≤ p1 ∧ p1 < f_n) (h3 : 0 ≤ p2) (h4 : p2 ≤ 1000) (h5 : 0 ≤ p3) (h6 : 2 < p3) (h7 : ¬ z137 = 0) (h8 : 1 ≤ f_n ∧ f_n ≤ 10) (h9 : 0 ≤ p1 ∧ p1 ≤ 9) (h10 : 0 ≤ p2 ∧ p2 ≤ 1000) (h11 : 3 ≤ p3 ∧ p3 ≤ 2147483647) (h12 : (-2147483648) ≤ p4 ∧ p4 ≤ 2147483647) (h13 : 1 ≤ z137 ∧ z137 ≤ 1) : p1 < 0 ∨ f_n ≤ p1 ∨ p2 < 0 ∨ 1000 < p2 ∨ p3 < 0 ∨ 2 < p3 ∨ p4 < 0 ∨ 1000000 < p4 → (-1 : Int) = -1 := by omega
theorem vc_X11_route_v_20 {f_n p1 p2 p3 p4 z137 : Int} (h0 : (z137 = 1 → 0 ≤ p1 ∧ p1 < f_n)) (h1 : (z137 = 0 → p1 < 0 ∨ f_n ≤ p1)) (h2 : 0 ≤ p1 ∧ p1 < f_n) (h3 : 0 ≤ p2) (h4 : p2 ≤ 1000) (h5 : 0 ≤ p3) (h6 : 2 < p3) (h7 : ¬ z137 = 0) (h8 : 1 ≤ f_n ∧ f_n ≤ 10) (h9 : 0 ≤ p1 ∧ p1 ≤ 9) (h10 : 0 ≤ p2 ∧ p2 ≤ 1000) (h11 : 3 ≤ p3 ∧ p3 ≤ 2147483647) (h12 : (-2147483648) ≤ p4 ∧ p4 ≤ 2147483647) (h13 : 1 ≤ z137 ∧ z137 ≤ 1) : 0 ≤ p1 → p1 < f_n → 0 ≤ p2 → p2 ≤ 1000 → 0 ≤ p3 → p3 ≤ 2 → 0 ≤ p4 → p4 ≤ 1000000 → (-1 : Int) = 0 := by omega
theorem vc_X11_route_v_23 {f_n p1 p2 p3 p4 z137 : Int} (h0 : (z137 = 1 → 0 ≤ p1 ∧ p1 < f_n)) (h1 : (z137 = 0 → p1 < 0 ∨ f_n ≤ p1)) (h2 : 0 ≤ p1 ∧ p1 < f_n) (h3 : 0 ≤ p2) (h4 : p2 ≤ 1000) (h5 : 0 ≤ p3) (h6 : p3 ≤ 2) (h7 : p4 < 0) (h8 : ¬ z137 = 0) (h9 : 1 ≤ f_n ∧ f_n ≤ 10) (h10 : 0 ≤ p1 ∧ p1 ≤ 9) (h11 : 0 ≤ p2 ∧ p2 ≤ 1000) (h12 : 0 ≤ p3 ∧ p3 ≤ 2) (h13 : (-2147483648) ≤ p4 ∧ p4 ≤ (-1)) (h14 : 1 ≤ z137 ∧ z137 ≤ 1) : p1 < 0 ∨ f_n ≤ p1 ∨ p2 < 0 ∨ 1000 < p2 ∨ p3 < 0 ∨ 2 < p3 ∨ p4 < 0 ∨ 1000000 < p4 → (-1 : Int) = -1 := by omega
theorem vc_X11_route_v_24 {f_n p1 p2 p3 p4 z137 : Int} (h0 : (z137 = 1 → 0 ≤ p1 ∧ p1 < f_n)) (h1 : (z137 = 0 → p1 < 0 ∨ f_n ≤ p1)) (h2 : 0 ≤ p1 ∧ p1 < f_n) (h3 : 0 ≤ p2) (h4 : p2 ≤ 1000) (h5 : 0 ≤ p3) (h6 : p3 ≤ 2) (h7 : p4 < 0) (h8 : ¬ z137 = 0) (h9 : 1 ≤ f_n ∧ f_n ≤ 10) (h10 : 0 ≤ p1 ∧ p1 ≤ 9) (h11 : 0 ≤ p2 ∧ p2 ≤ 1000) (h12 : 0 ≤ p3 ∧ p3 ≤ 2) (h13 : (-2147483648) ≤ p4 ∧ p4 ≤ (-1)) (h14 : 1 ≤ z137 ∧ z137 ≤ 1) : 0 ≤ p1 → p1 < f_n → 0 ≤ p2 → p2 ≤ 1000 → 0 ≤ p3 → p3 ≤ 2 → 0 ≤ p4 → p4 ≤ 1000000 → (-1 : Int) = 0 := by omega
theorem vc_X11_route_v_30 {f_n p1 p2 p3 p4 z137 : Int} (h0 : (z137 = 1 → 0 ≤ p1 ∧ p1 < f_n)) (h1 : (z137 = 0 → p1 < 0 ∨ f_n ≤ p1)) (h2 : 0 ≤ p1 ∧ p1 < f_n) (h3 : 0 ≤ p2) (h4 : p2 ≤ 1000) (h5 : 0 ≤ p3) (h6 : p3 ≤ 2) (h7 : 0 ≤ p4) (h8 : p4 ≤ 1000000) (h9 : ¬ z137 = 0) (h10 : 1 ≤ f_n ∧ f_n ≤ 10) (h11 : 0 ≤ p1 ∧ p1 ≤ 9) (h12 : 0 ≤ p2 ∧ p2 ≤ 1000) (h13 : 0 ≤ p3 ∧ p3 ≤ 2) (h14 : 0 ≤ p4 ∧ p4 ≤ 1000000) (h15 : 1 ≤ z137 ∧ z137 ≤ 1) : p1 < 0 ∨ f_n ≤ p1 ∨ p2 < 0 ∨ 1000 < p2 ∨ p3 < 0 ∨ 2 < p3 ∨ p4 < 0 ∨ 1000000 < p4 → (0 : Int) = -1 := by omega
theorem vc_X11_route_v_31 {f_n p1 p2 p3 p4 z137 : Int} (h0 : (z137 = 1 → 0 ≤ p1 ∧ p1 < f_n)) (h1 : (z137 = 0 → p1 < 0 ∨ f_n ≤ p1)) (h2 : 0 ≤ p1 ∧ p1 < f_n) (h3 : 0 ≤ p2) (h4 : p2 ≤ 1000) (h5 : 0 ≤ p3) (h6 : p3 ≤ 2) (h7 : 0 ≤ p4) (h8 : p4 ≤ 1000000) (h9 : ¬ z137 = 0) (h10 : 1 ≤ f_n ∧ f_n ≤ 10) (h11 : 0 ≤ p1 ∧ p1 ≤ 9) (h12 : 0 ≤ p2 ∧ p2 ≤ 1000) (h13 : 0 ≤ p3 ∧ p3 ≤ 2) (h14 : 0 ≤ p4 ∧ p4 ≤ 1000000) (h15 : 1 ≤ z137 ∧ z137 ≤ 1) : 0 ≤ p1 → p1 < f_n → 0 ≤ p2 → p2 ≤ 1000 → 0 ≤ p3 → p3 ≤ 2 → 0 ≤ p4 → p4 ≤ 1000000 → (0 : Int) = 0 := by omega
theorem vc_X11_route_v_33 {f_n p1 p2 p3 p4 z137 : Int} (h0 : (z137 = 1 → 0 ≤ p1 ∧ p1 < f_n)) (h1 : (z137 = 0 → p1 < 0 ∨ f_n ≤ p1)) (h2 : 0 ≤ p1 ∧ p1 < f_n) (h3 : 0 ≤ p2) (h4 : p2 ≤ 1000) (h5 : 0 ≤ p3) (h6 : p3 ≤ 2) (h7 : 0 ≤ p4) (h8 : 1000000 < p4) (h9 : ¬ z137 = 0) (h10 : 1 ≤ f_n ∧ f_n ≤ 10) (h11 : 0 ≤ p1 ∧ p1 ≤ 9) (h12 : 0 ≤ p2 ∧ p2 ≤ 1000) (h13 : 0 ≤ p3 ∧ p3 ≤ 2) (h14 : 1000001 ≤ p4 ∧ p4 ≤ 2147483647) (h15 : 1 ≤ z137 ∧ z137 ≤ 1) : p1 < 0 ∨ f_n ≤ p1 ∨ p2 < 0 ∨ 1000 < p2 ∨ p3 < 0 ∨ 2 < p3 ∨ p4 < 0 ∨ 1000000 < p4 → (-1 : Int) = -1 := by omega
theorem vc_X11_route_v_34 {f_n p1 p2 p3 p4 z137 : Int} (h0 : (z137 = 1 → 0 ≤ p1 ∧ p1 < f_n)) (h1 : (z137 = 0 → p1 < 0 ∨ f_n ≤ p1)) (h2 : 0 ≤ p1 ∧ p1 < f_n) (h3 : 0 ≤ p2) (h4 : p2 ≤ 1000) (h5 : 0 ≤ p3) (h6 : p3 ≤ 2) (h7 : 0 ≤ p4) (h8 : 1000000 < p4) (h9 : ¬ z137 = 0) (h10 : 1 ≤ f_n ∧ f_n ≤ 10) (h11 : 0 ≤ p1 ∧ p1 ≤ 9) (h12 : 0 ≤ p2 ∧ p2 ≤ 1000) (h13 : 0 ≤ p3 ∧ p3 ≤ 2) (h14 : 1000001 ≤ p4 ∧ p4 ≤ 2147483647) (h15 : 1 ≤ z137 ∧ z137 ≤ 1) : 0 ≤ p1 → p1 < f_n → 0 ≤ p2 → p2 ≤ 1000 → 0 ≤ p3 → p3 ≤ 2 → 0 ≤ p4 → p4 ≤ 1000000 → (-1 : Int) = 0 := by omega
theorem vc_X11_route_v_36 {f_n p1 p2 p3 p4 z137 : Int} (h0 : (z137 = 1 → 0 ≤ p1 ∧ p1 < f_n)) (h1 : (z137 = 0 → p1 < 0 ∨ f_n ≤ p1)) (h2 : 0 ≤ p1 ∧ p1 < f_n) (h3 : 0 ≤ p2) (h4 : 1000 < p2) (h5 : ¬ z137 = 0) (h6 : 1 ≤ f_n ∧ f_n ≤ 10) (h7 : 0 ≤ p1 ∧ p1 ≤ 9) (h8 : 1001 ≤ p2 ∧ p2 ≤ 2147483647) (h9 : (-2147483648) ≤ p3 ∧ p3 ≤ 2147483647) (h10 : (-2147483648) ≤ p4 ∧ p4 ≤ 2147483647) (h11 : 1 ≤ z137 ∧ z137 ≤ 1) : p1 < 0 ∨ f_n ≤ p1 ∨ p2 < 0 ∨ 1000 < p2 ∨ p3 < 0 ∨ 2 < p3 ∨ p4 < 0 ∨ 1000000 < p4 → (-1 : Int) = -1 := by omega
theorem vc_X11_route_v_37 {f_n p1 p2 p3 p4 z137 : Int} (h0 : (z137 = 1 → 0 ≤ p1 ∧ p1 < f_n)) (h1 : (z137 = 0 → p1 < 0 ∨ f_n ≤ p1)) (h2 : 0 ≤ p1 ∧ p1 < f_n) (h3 : 0 ≤ p2) (h4 : 1000 < p2) (h5 : ¬ z137 = 0) (h6 : 1 ≤ f_n ∧ f_n ≤ 10) (h7 : 0 ≤ p1 ∧ p1 ≤ 9) (h8 : 1001 ≤ p2 ∧ p2 ≤ 2147483647) (h9 : (-2147483648) ≤ p3 ∧ p3 ≤ 2147483647) (h10 : (-2147483648) ≤ p4 ∧ p4 ≤ 2147483647) (h11 : 1 ≤ z137 ∧ z137 ≤ 1) : 0 ≤ p1 → p1 < f_n → 0 ≤ p2 → p2 ≤ 1000 → 0 ≤ p3 → p3 ≤ 2 → 0 ≤ p4 → p4 ≤ 1000000 → (-1 : Int) = 0 := by omega
set_option maxRecDepth 4000 in
set_option maxHeartbeats 4000000 in
theorem c_X11_route_v {l : Launch} {D : va_G} {c : Nat → ClassId} {H0 : Heap} {sa : Nat × Nat × (Nat → Int32)} {w : mW} {μ : mM} (hw : mWF w) (hT : mT w μ) {p1 : Int} (hp1 : (-2147483648) ≤ p1 ∧ p1 ≤ 2147483647) {p2 : Int} (hp2 : (-2147483648) ≤ p2 ∧ p2 ≤ 2147483647) {p3 : Int} (hp3 : (-2147483648) ≤ p3 ∧ p3 ≤ 2147483647) {p4 : Int} (hp4 : (-2147483648) ≤ p4 ∧ p4 ≤ 2147483647) {f_n : Int} (q_f_n : μ 6 14 = f_n) : sC (gG l D c H0 sa) mX11_route 3 0 0 [.ref 0, iv p1, iv p2, iv p3, iv p4] (mk w μ) (qI w [200002, 200003, 200004, 200005, 200006, 200007, 200008, 201999] μ (fun z μ1 => ((-2147483648) ≤ z ∧ z ≤ 2147483647) ∧ (p1 < 0 ∨ f_n ≤ p1 ∨ p2 < 0 ∨ 1000 < p2 ∨ p3 < 0 ∨ 2 < p3 ∨ p4 < 0 ∨ 1000000 < p4 → z = -1) ∧ (0 ≤ p1 → p1 < f_n → 0 ≤ p2 → p2 ≤ 1000 → 0 ≤ p3 → p3 ≤ 2 → 0 ≤ p4 → p4 ≤ 1000000 → z = 0) ∧ True)) := by
  refine sC.of rfl (by decide) (le_t rfl) ?_
  have ht_f_n : (0 ≤ f_n ∧ f_n ≤ 10) := by rw [← q_f_n]; exact hT 6 6 (A_6 hw) 14
  refine mr_lvE (lv' := [(0, .ref 0), (1, iv p1), (2, iv p2), (3, iv p3), (4, iv p4)]) rfl ?_
  refine sv_aload_n (pc := 0) dX11_route_0 rfl rfl ?_
  refine mr_iload_n (pc := 1) (z := p1) dX11_route_1 rfl rfl ?_
  refine mr_cVP (pc := 2) (c_X11_isPrefix hw hT hp1 q_f_n) (gOk _ _ _ _ _) dX11_route_2 (tX11_isPrefix _ _ _ _ _) ⟨wV_X11_isPrefix, wL_X11_isPrefix⟩ wM_X11_182 (gCX11 _ _ _ _ _) rfl (A_0 hw) rfl ⟨le_t rfl, le_t rfl⟩ ⟨le_t rfl, le_t rfl⟩ rfl (le_t rfl) fun z137 h136 => ?_
  refine mr_if_eq (pc := 5) (tgt := 19) dX11_route_5 (by decide) (r32 h136.1 rfl) (fun h138 => ?_) (fun h138 => ?_)
  · have h139 : 0 ≤ z137 ∧ z137 ≤ 0 := (vc_X11_route_v_1 h138 h136.2.1 h136.2.2.1 ht_f_n hp1 h136.1)
    have h140 : p1 < 0 ∨ f_n ≤ p1 := (h136.2.2.1 (vc_X11_route_v_2 h136.2.1 h136.2.2.1 h138 ht_f_n hp1 h139))
    refine mr_iconst (pc := 19) (z := (-1)) dX11_route_19 ?_
    exact mr_iret dX11_route_20 rfl (le_t rfl) (le_t rfl) hT mF.refl ⟨(rW (c := (-2147483648)) (d := 2147483647) (rR (x := (-1))) rfl), (vc_X11_route_v_3 h136.2.1 h136.2.2.1 h140 h138 ht_f_n hp1 hp2 hp3 hp4 h139), (vc_X11_route_v_4 h136.2.1 h136.2.2.1 h140 h138 ht_f_n hp1 hp2 hp3 hp4 h139), trivial⟩
  have h141 : 1 ≤ z137 ∧ z137 ≤ 1 := (vc_X11_route_v_5 h138 h136.2.1 h136.2.2.1 ht_f_n hp1 h136.1)
  have h142 : 0 ≤ p1 ∧ p1 < f_n := (h136.2.1 (vc_X11_route_v_6 h136.2.1 h136.2.2.1 h138 ht_f_n hp1 h141))
  have h143 : 0 ≤ p1 ∧ p1 ≤ 9 := (vc_X11_route_v_7 h142 h136.2.1 h136.2.2.1 ht_f_n hp1 h141)
  have h144 : 1 ≤ f_n ∧ f_n ≤ 10 := (vc_X11_route_v_8 h142 h136.2.1 h136.2.2.1 ht_f_n h143 h141)
  refine mr_iload_n (pc := 8) (z := p2) dX11_route_8 rfl rfl ?_
  refine mr_if_lt (pc := 9) (tgt := 19) dX11_route_9 (by decide) hp2 (fun h145 => ?_) (fun h145 => ?_)
  · have h146 : (-2147483648) ≤ p2 ∧ p2 ≤ (-1) := (vc_X12_cut_1 h145 hp2)
    refine mr_iconst (pc := 19) (z := (-1)) dX11_route_19 ?_
    exact mr_iret dX11_route_20 rfl (le_t rfl) (le_t rfl) hT mF.refl ⟨(rW (c := (-2147483648)) (d := 2147483647) (rR (x := (-1))) rfl), (vc_X11_route_v_10 h136.2.1 h136.2.2.1 h142 h145 h138 h144 h143 h146 hp3 hp4 h141), (vc_X11_route_v_11 h136.2.1 h136.2.2.1 h142 h145 h138 h144 h143 h146 hp3 hp4 h141), trivial⟩
  have h147 : 0 ≤ p2 ∧ p2 ≤ 2147483647 := (vc_X12_cut_2 h145 hp2)
  refine mr_iload_n (pc := 12) (z := p2) dX11_route_12 rfl rfl ?_
  refine mr_sipush (pc := 13) (z := 1000) dX11_route_13 (by decide) ?_
  refine mr_icmp_le (pc := 16) (tgt := 21) dX11_route_16 (by decide) (r32 h147 rfl) (r32 (rR (x := 1000)) rfl) (fun h148 => ?_) (fun h148 => ?_)
  · have h149 : 0 ≤ p2 ∧ p2 ≤ 1000 := (vc_X11_pace_13 h148 h145 h147)
    refine mr_iload_n (pc := 21) (z := p3) dX11_route_21 rfl rfl ?_
    refine mr_if_lt (pc := 22) (tgt := 42) dX11_route_22 (by decide) hp3 (fun h150 => ?_) (fun h150 => ?_)
    · have h151 : (-2147483648) ≤ p3 ∧ p3 ≤ (-1) := (vc_X12_cut_1 h150 hp3)
      refine mr_iconst (pc := 42) (z := (-1)) dX11_route_42 ?_
      exact mr_iret dX11_route_43 rfl (le_t rfl) (le_t rfl) hT mF.refl ⟨(rW (c := (-2147483648)) (d := 2147483647) (rR (x := (-1))) rfl), (vc_X11_route_v_15 h136.2.1 h136.2.2.1 h142 h145 h148 h150 h138 h144 h143 h149 h151 hp4 h141), (vc_X11_route_v_16 h136.2.1 h136.2.2.1 h142 h145 h148 h150 h138 h144 h143 h149 h151 hp4 h141), trivial⟩
    have h152 : 0 ≤ p3 ∧ p3 ≤ 2147483647 := (vc_X12_cut_2 h150 hp3)
    refine mr_iload_n (pc := 25) (z := p3) dX11_route_25 rfl rfl ?_
    refine mr_iconst (pc := 26) (z := 2) dX11_route_26 ?_
    refine mr_icmp_gt (pc := 27) (tgt := 42) dX11_route_27 (by decide) (r32 h152 rfl) (r32 (rR (x := 2)) rfl) (fun h153 => ?_) (fun h153 => ?_)
    · have h154 : 3 ≤ p3 ∧ p3 ≤ 2147483647 := (vc_X11_announce_17 h153 h150 h152)
      refine mr_iconst (pc := 42) (z := (-1)) dX11_route_42 ?_
      exact mr_iret dX11_route_43 rfl (le_t rfl) (le_t rfl) hT mF.refl ⟨(rW (c := (-2147483648)) (d := 2147483647) (rR (x := (-1))) rfl), (vc_X11_route_v_19 h136.2.1 h136.2.2.1 h142 h145 h148 h150 h153 h138 h144 h143 h149 h154 hp4 h141), (vc_X11_route_v_20 h136.2.1 h136.2.2.1 h142 h145 h148 h150 h153 h138 h144 h143 h149 h154 hp4 h141), trivial⟩
    have h155 : 0 ≤ p3 ∧ p3 ≤ 2 := (vc_X11_announce_14 h153 h150 h152)
    refine mr_iload (pc := 30) (z := p4) dX11_route_30 rfl ?_
    refine mr_if_lt (pc := 32) (tgt := 42) dX11_route_32 (by decide) hp4 (fun h156 => ?_) (fun h156 => ?_)
    · have h157 : (-2147483648) ≤ p4 ∧ p4 ≤ (-1) := (vc_X12_cut_1 h156 hp4)
      refine mr_iconst (pc := 42) (z := (-1)) dX11_route_42 ?_
      exact mr_iret dX11_route_43 rfl (le_t rfl) (le_t rfl) hT mF.refl ⟨(rW (c := (-2147483648)) (d := 2147483647) (rR (x := (-1))) rfl), (vc_X11_route_v_23 h136.2.1 h136.2.2.1 h142 h145 h148 h150 h153 h156 h138 h144 h143 h149 h155 h157 h141), (vc_X11_route_v_24 h136.2.1 h136.2.2.1 h142 h145 h148 h150 h153 h156 h138 h144 h143 h149 h155 h157 h141), trivial⟩
    have h158 : 0 ≤ p4 ∧ p4 ≤ 2147483647 := (vc_X12_cut_2 h156 hp4)
    refine mr_iload (pc := 35) (z := p4) dX11_route_35 rfl ?_
    refine mr_ldc (pc := 37) (z := 1000000) dX11_route_37 wG_X11_226 (by decide) ?_
    refine mr_icmp_le (pc := 39) (tgt := 44) dX11_route_39 (by decide) (r32 h158 rfl) (r32 (rR (x := 1000000)) rfl) (fun h159 => ?_) (fun h159 => ?_)
    · have h160 : 0 ≤ p4 ∧ p4 ≤ 1000000 := (vc_X3_readCost_5 h159 h156 h158)
      refine sv_aload_n (pc := 44) dX11_route_44 rfl rfl ?_
      refine gf_X11_2 (pc := 45) dX11_route_45 wF_X11_19 (A_0 hw) hT ?_
      refine mr_iload_n (pc := 48) (z := p1) dX11_route_48 rfl rfl ?_
      refine mr_iload_n (pc := 49) (z := p3) dX11_route_49 rfl rfl ?_
      refine mr_cVV (pc := 50) (c_X7_begin hw hT (A_3 hw) h143 (rW (c := (-2147483648)) (d := 2147483647) h155 rfl)) (gOk _ _ _ _ _) dX11_route_50 (tX7_begin _ _ _ _ _) ⟨wV_X7_begin, wL_X7_begin⟩ wM_X11_227 (gCX7 _ _ _ _ _) rfl (A_3 hw) rfl ⟨le_t rfl, le_t rfl⟩ ⟨le_t rfl, le_t rfl⟩ rfl (le_t rfl) fun μ161 T162 F163 h164 => ?_
      refine sv_aload_n (pc := 53) dX11_route_53 rfl rfl ?_
      refine gf_X11_2 (pc := 54) dX11_route_54 wF_X11_19 (A_0 hw) T162 ?_
      refine mr_iload_n (pc := 57) (z := p2) dX11_route_57 rfl rfl ?_
      refine pf_X7_4 (pc := 58) dX11_route_58 wF_X11_230 (A_3 hw) T162 (rW (c := (-2147483648)) (d := 2147483647) h149 rfl) fun μ165 u166 T167 => ?_
      refine sv_aload_n (pc := 61) dX11_route_61 rfl rfl ?_
      refine gf_X11_2 (pc := 62) dX11_route_62 wF_X11_19 (A_0 hw) T167 ?_
      refine mr_iload (pc := 65) (z := p4) dX11_route_65 rfl ?_
      refine pf_X7_6 (pc := 67) dX11_route_67 wF_X11_233 (A_3 hw) T167 (rW (c := (-2147483648)) (d := 2147483647) h160 rfl) fun μ168 u169 T170 => ?_
      refine sv_aload_n (pc := 70) dX11_route_70 rfl rfl ?_
      refine gf_X11_1 (pc := 71) dX11_route_71 wF_X11_13 (A_0 hw) T170 ?_
      refine mr_iconst (pc := 74) (z := 0) dX11_route_74 ?_
      refine sv_aload_n (pc := 75) dX11_route_75 rfl rfl ?_
      refine gf_X11_2 (pc := 76) dX11_route_76 wF_X11_19 (A_0 hw) T170 ?_
      refine gf_X7_0 (pc := 79) dX11_route_79 wF_X11_236 (A_3 hw) T170 fun A171 => ?_
      refine mr_iconst (pc := 82) (z := 0) dX11_route_82 ?_
      refine sv_aload_n (pc := 83) dX11_route_83 rfl rfl ?_
      refine gf_X11_11 (pc := 84) dX11_route_84 wF_X11_169 (A_0 hw) T170 fun z172 q173 h174 => ?_
      refine mr_ac (pc := 87) (sp := 0) (dp := 0) (n := z172) dX11_route_87 wM_X11_239 wN_J_ac wS_J_ac wI_J_sys rfl (A_2 hw) rfl A171 rfl vc_X7_become_1 vc_X7_become_1 (vc_X7_become_2 h174) (by have h := (A_2 hw).2.2.2 rfl; rw [h]; exact (vc_X7_become_3 h174)) (by have h := A171.2.2.2 rfl; rw [h]; exact (vc_X7_become_3 h174)) (Nat.le_trans (A_2 hw).2.2.1 (le_t rfl)) (Nat.le_trans A171.2.2.1 (le_t rfl)) (le_t rfl) (le_t rfl) (le_t rfl) T170 (fun i j _ _ => rW (T170 _ _ (A_2 hw) i) rfl) fun μ175 q176 T177 => ?_
      have F178 : mF [201999] w μ168 μ175 := mF.cell q176.1 A171 rfl
      refine sv_aload_n (pc := 90) dX11_route_90 rfl rfl ?_
      refine gf_X11_2 (pc := 91) dX11_route_91 wF_X11_19 (A_0 hw) T177 ?_
      refine sv_aload_n (pc := 94) dX11_route_94 rfl rfl ?_
      refine gk_X11_11 (pc := 95) dX11_route_95 wF_X11_169 (A_0 hw) (F178.f (A_0 hw) rfl q173) ?_
      refine pf_X7_7 (pc := 98) dX11_route_98 wF_X11_245 (A_3 hw) T177 h174 fun μ179 u180 T181 => ?_
      refine mr_iconst (pc := 101) (z := 0) dX11_route_101 ?_
      exact mr_iret dX11_route_102 rfl (le_t rfl) (le_t rfl) T181 (mF.up (mF.call (mF.up (mF.up (mF.call mF.refl F163 rfl) (A_3 hw) u166 rfl) (A_3 hw) u169 rfl) F178 rfl) (A_3 hw) u180 rfl) ⟨(rW (c := (-2147483648)) (d := 2147483647) (rR (x := 0)) rfl), (vc_X11_route_v_30 h136.2.1 h136.2.2.1 h142 h145 h148 h150 h153 h156 h159 h138 h144 h143 h149 h155 h160 h141), (vc_X11_route_v_31 h136.2.1 h136.2.2.1 h142 h145 h148 h150 h153 h156 h159 h138 h144 h143 h149 h155 h160 h141), trivial⟩
    have h182 : 1000001 ≤ p4 ∧ p4 ≤ 2147483647 := (vc_X3_readCost_6 h159 h156 h158)
    refine mr_iconst (pc := 42) (z := (-1)) dX11_route_42 ?_
    exact mr_iret dX11_route_43 rfl (le_t rfl) (le_t rfl) hT mF.refl ⟨(rW (c := (-2147483648)) (d := 2147483647) (rR (x := (-1))) rfl), (vc_X11_route_v_33 h136.2.1 h136.2.2.1 h142 h145 h148 h150 h153 h156 h159 h138 h144 h143 h149 h155 h182 h141), (vc_X11_route_v_34 h136.2.1 h136.2.2.1 h142 h145 h148 h150 h153 h156 h159 h138 h144 h143 h149 h155 h182 h141), trivial⟩
  have h183 : 1001 ≤ p2 ∧ p2 ≤ 2147483647 := (vc_X11_pace_15 h148 h145 h147)
  refine mr_iconst (pc := 19) (z := (-1)) dX11_route_19 ?_
  exact mr_iret dX11_route_20 rfl (le_t rfl) (le_t rfl) hT mF.refl ⟨(rW (c := (-2147483648)) (d := 2147483647) (rR (x := (-1))) rfl), (vc_X11_route_v_36 h136.2.1 h136.2.2.1 h142 h145 h148 h138 h144 h143 h183 hp3 hp4 h141), (vc_X11_route_v_37 h136.2.1 h136.2.2.1 h142 h145 h148 h138 h144 h143 h183 hp3 hp4 h141), trivial⟩
theorem vc_X12_route_v_11 {f_n p1 p2 p3 p4 z465 z477 : Int} (h0 : (z465 = 1 → 0 ≤ p1 ∧ p1 < f_n)) (h1 : (z465 = 0 → p1 < 0 ∨ f_n ≤ p1)) (h2 : 0 ≤ p1 ∧ p1 < f_n) (h3 : (z477 = 1 → (0 : Int) ≤ p2 ∧ p2 ≤ (1000 : Int))) (h4 : (z477 = 0 → p2 < (0 : Int) ∨ (1000 : Int) < p2)) (h5 : p2 < (0 : Int) ∨ (1000 : Int) < p2) (h6 : ¬ z465 = 0) (h7 : z477 = 0) (h8 : 1 ≤ f_n ∧ f_n ≤ 10) (h9 : 0 ≤ p1 ∧ p1 ≤ 9) (h10 : (-2147483648) ≤ p2 ∧ p2 ≤ 2147483647) (h11 : (-2147483648) ≤ p3 ∧ p3 ≤ 2147483647) (h12 : (-2147483648) ≤ p4 ∧ p4 ≤ 2147483647) (h13 : 1 ≤ z465 ∧ z465 ≤ 1) (h14 : 0 ≤ z477 ∧ z477 ≤ 0) : p1 < 0 ∨ f_n ≤ p1 ∨ p2 < 0 ∨ 1000 < p2 ∨ p3 < 0 ∨ 2 < p3 ∨ p4 < 0 ∨ 1000000 < p4 → (-1 : Int) = -1 := by omega
theorem vc_X12_route_v_12 {f_n p1 p2 p3 p4 z465 z477 : Int} (h0 : (z465 = 1 → 0 ≤ p1 ∧ p1 < f_n)) (h1 : (z465 = 0 → p1 < 0 ∨ f_n ≤ p1)) (h2 : 0 ≤ p1 ∧ p1 < f_n) (h3 : (z477 = 1 → (0 : Int) ≤ p2 ∧ p2 ≤ (1000 : Int))) (h4 : (z477 = 0 → p2 < (0 : Int) ∨ (1000 : Int) < p2)) (h5 : p2 < (0 : Int) ∨ (1000 : Int) < p2) (h6 : ¬ z465 = 0) (h7 : z477 = 0) (h8 : 1 ≤ f_n ∧ f_n ≤ 10) (h9 : 0 ≤ p1 ∧ p1 ≤ 9) (h10 : (-2147483648) ≤ p2 ∧ p2 ≤ 2147483647) (h11 : (-2147483648) ≤ p3 ∧ p3 ≤ 2147483647) (h12 : (-2147483648) ≤ p4 ∧ p4 ≤ 2147483647) (h13 : 1 ≤ z465 ∧ z465 ≤ 1) (h14 : 0 ≤ z477 ∧ z477 ≤ 0) : 0 ≤ p1 → p1 < f_n → 0 ≤ p2 → p2 ≤ 1000 → 0 ≤ p3 → p3 ≤ 2 → 0 ≤ p4 → p4 ≤ 1000000 → (-1 : Int) = 0 := by omega
theorem vc_X12_route_v_18 {f_n p1 p2 p3 p4 z465 z477 z488 : Int} (h0 : (z465 = 1 → 0 ≤ p1 ∧ p1 < f_n)) (h1 : (z465 = 0 → p1 < 0 ∨ f_n ≤ p1)) (h2 : 0 ≤ p1 ∧ p1 < f_n) (h3 : (z477 = 1 → (0 : Int) ≤ p2 ∧ p2 ≤ (1000 : Int))) (h4 : (z477 = 0 → p2 < (0 : Int) ∨ (1000 : Int) < p2)) (h5 : (0 : Int) ≤ p2 ∧ p2 ≤ (1000 : Int)) (h6 : (z488 = 1 → (0 : Int) ≤ p3 ∧ p3 ≤ (2 : Int))) (h7 : (z488 = 0 → p3 < (0 : Int) ∨ (2 : Int) < p3)) (h8 : p3 < (0 : Int) ∨ (2 : Int) < p3) (h9 : ¬ z465 = 0) (h10 : ¬ z477 = 0) (h11 : z488 = 0) (h12 : 1 ≤ f_n ∧ f_n ≤ 10) (h13 : 0 ≤ p1 ∧ p1 ≤ 9) (h14 : 0 ≤ p2 ∧ p2 ≤ 1000) (h15 : (-2147483648) ≤ p3 ∧ p3 ≤ 2147483647) (h16 : (-2147483648) ≤ p4 ∧ p4 ≤ 2147483647) (h17 : 1 ≤ z465 ∧ z465 ≤ 1) (h18 : 1 ≤ z477 ∧ z477 ≤ 1) (h19 : 0 ≤ z488 ∧ z488 ≤ 0) : p1 < 0 ∨ f_n ≤ p1 ∨ p2 < 0 ∨ 1000 < p2 ∨ p3 < 0 ∨ 2 < p3 ∨ p4 < 0 ∨ 1000000 < p4 → (-1 : Int) = -1 := by omega
theorem vc_X12_route_v_19 {f_n p1 p2 p3 p4 z465 z477 z488 : Int} (h0 : (z465 = 1 → 0 ≤ p1 ∧ p1 < f_n)) (h1 : (z465 = 0 → p1 < 0 ∨ f_n ≤ p1)) (h2 : 0 ≤ p1 ∧ p1 < f_n) (h3 : (z477 = 1 → (0 : Int) ≤ p2 ∧ p2 ≤ (1000 : Int))) (h4 : (z477 = 0 → p2 < (0 : Int) ∨ (1000 : Int) < p2)) (h5 : (0 : Int) ≤ p2 ∧ p2 ≤ (1000 : Int)) (h6 : (z488 = 1 → (0 : Int) ≤ p3 ∧ p3 ≤ (2 : Int))) (h7 : (z488 = 0 → p3 < (0 : Int) ∨ (2 : Int) < p3)) (h8 : p3 < (0 : Int) ∨ (2 : Int) < p3) (h9 : ¬ z465 = 0) (h10 : ¬ z477 = 0) (h11 : z488 = 0) (h12 : 1 ≤ f_n ∧ f_n ≤ 10) (h13 : 0 ≤ p1 ∧ p1 ≤ 9) (h14 : 0 ≤ p2 ∧ p2 ≤ 1000) (h15 : (-2147483648) ≤ p3 ∧ p3 ≤ 2147483647) (h16 : (-2147483648) ≤ p4 ∧ p4 ≤ 2147483647) (h17 : 1 ≤ z465 ∧ z465 ≤ 1) (h18 : 1 ≤ z477 ∧ z477 ≤ 1) (h19 : 0 ≤ z488 ∧ z488 ≤ 0) : 0 ≤ p1 → p1 < f_n → 0 ≤ p2 → p2 ≤ 1000 → 0 ≤ p3 → p3 ≤ 2 → 0 ≤ p4 → p4 ≤ 1000000 → (-1 : Int) = 0 := by omega
theorem vc_X12_route_v_23 {p4 z499 : Int} (h0 : ¬ z499 = 0) (h1 : (z499 = 1 → (0 : Int) ≤ p4 ∧ p4 ≤ (1000000 : Int))) (h2 : (z499 = 0 → p4 < (0 : Int) ∨ (1000000 : Int) < p4)) (h3 : (-2147483648) ≤ p4 ∧ p4 ≤ 2147483647) (h4 : 0 ≤ z499 ∧ z499 ≤ 1) : 1 ≤ z499 ∧ z499 ≤ 1 := by omega
theorem vc_X12_route_v_24 {p4 z499 : Int} (h0 : (z499 = 1 → (0 : Int) ≤ p4 ∧ p4 ≤ (1000000 : Int))) (h1 : (z499 = 0 → p4 < (0 : Int) ∨ (1000000 : Int) < p4)) (h2 : ¬ z499 = 0) (h3 : (-2147483648) ≤ p4 ∧ p4 ≤ 2147483647) (h4 : 1 ≤ z499 ∧ z499 ≤ 1) : z499 = 1 := by omega
theorem vc_X12_route_v_25 {p4 z499 : Int} (h0 : (0 : Int) ≤ p4 ∧ p4 ≤ (1000000 : Int)) (h1 : (z499 = 1 → (0 : Int) ≤ p4 ∧ p4 ≤ (1000000 : Int))) (h2 : (z499 = 0 → p4 < (0 : Int) ∨ (1000000 : Int) < p4)) (h3 : (-2147483648) ≤ p4 ∧ p4 ≤ 2147483647) (h4 : 1 ≤ z499 ∧ z499 ≤ 1) : 0 ≤ p4 ∧ p4 ≤ 1000000 := by omega
theorem vc_X12_route_v_26 {f_n p1 z465 : Int} (h0 : (z465 = 1 → 0 ≤ p1 ∧ p1 < f_n)) (h1 : (z465 = 0 → p1 < 0 ∨ f_n ≤ p1)) (h2 : 0 ≤ p1 ∧ p1 < f_n) (h3 : ¬ z465 = 0) (h4 : 1 ≤ f_n ∧ f_n ≤ 10) (h5 : 0 ≤ p1 ∧ p1 ≤ 9) (h6 : 1 ≤ z465 ∧ z465 ≤ 1) : (-2147483648 ≤ p1 ∧ p1 ≤ 2147483647) ∧ ((0 : Int) % 40 = 0 → -1 ≤ p1 ∧ p1 ≤ 9) ∧ ((0 : Int) % 40 = 4 → 0 ≤ p1 ∧ p1 ≤ 20) ∧ ((0 : Int) % 40 = 5 → 0 ≤ p1 ∧ p1 ≤ 8) := by omega
theorem vc_X12_route_v_28 {f_n p1 z465 : Int} (h0 : (z465 = 1 → 0 ≤ p1 ∧ p1 < f_n)) (h1 : (z465 = 0 → p1 < 0 ∨ f_n ≤ p1)) (h2 : 0 ≤ p1 ∧ p1 < f_n) (h3 : ¬ z465 = 0) (h4 : 1 ≤ f_n ∧ f_n ≤ 10) (h5 : 0 ≤ p1 ∧ p1 ≤ 9) (h6 : 1 ≤ z465 ∧ z465 ≤ 1) : ¬ (0 : Int) % 40 = 0 ∨ 56000 ≤ (0 : Int) ∨ ((0 : Int) = 960 ∧ p1 ≤ 0) ∨ (¬ (0 : Int) = 960 ∧ p1 < f_n) := by omega
theorem vc_X12_route_v_29  : (0 : Int) ≤ (0 : Int) ∧ (0 : Int) ≤ (0 : Int) ∧ (0 : Int) < ((0 : Int) + (1 : Int)) := by omega
theorem vc_X12_route_v_30  : (((0 : Int) + (1 : Int)) : Int) ≤ (1200 : Int) ∨ (5200 : Int) ≤ ((0 : Int) : Int) := by omega
theorem vc_X12_route_v_31 {f_n p1 z465 : Int} (h0 : (z465 = 1 → 0 ≤ p1 ∧ p1 < f_n)) (h1 : (z465 = 0 → p1 < 0 ∨ f_n ≤ p1)) (h2 : 0 ≤ p1 ∧ p1 < f_n) (h3 : ¬ z465 = 0) (h4 : 1 ≤ f_n ∧ f_n ≤ 10) (h5 : 0 ≤ p1 ∧ p1 ≤ 9) (h6 : 1 ≤ z465 ∧ z465 ≤ 1) : 0 ≤ p1 := by omega
theorem vc_X12_route_v_32 {p2 z477 : Int} (h0 : (z477 = 1 → (0 : Int) ≤ p2 ∧ p2 ≤ (1000 : Int))) (h1 : (z477 = 0 → p2 < (0 : Int) ∨ (1000 : Int) < p2)) (h2 : (0 : Int) ≤ p2 ∧ p2 ≤ (1000 : Int)) (h3 : ¬ z477 = 0) (h4 : 0 ≤ p2 ∧ p2 ≤ 1000) (h5 : 1 ≤ z477 ∧ z477 ≤ 1) : (-2147483648 ≤ p2 ∧ p2 ≤ 2147483647) ∧ ((1 : Int) % 40 = 0 → -1 ≤ p2 ∧ p2 ≤ 9) ∧ ((1 : Int) % 40 = 4 → 0 ≤ p2 ∧ p2 ≤ 20) ∧ ((1 : Int) % 40 = 5 → 0 ≤ p2 ∧ p2 ≤ 8) := by omega
theorem vc_X12_route_v_34 {f_n p1 p2 z465 z477 : Int} (h0 : (z465 = 1 → 0 ≤ p1 ∧ p1 < f_n)) (h1 : (z465 = 0 → p1 < 0 ∨ f_n ≤ p1)) (h2 : 0 ≤ p1 ∧ p1 < f_n) (h3 : (z477 = 1 → (0 : Int) ≤ p2 ∧ p2 ≤ (1000 : Int))) (h4 : (z477 = 0 → p2 < (0 : Int) ∨ (1000 : Int) < p2)) (h5 : (0 : Int) ≤ p2 ∧ p2 ≤ (1000 : Int)) (h6 : ¬ z465 = 0) (h7 : ¬ z477 = 0) (h8 : 1 ≤ f_n ∧ f_n ≤ 10) (h9 : 0 ≤ p1 ∧ p1 ≤ 9) (h10 : 0 ≤ p2 ∧ p2 ≤ 1000) (h11 : 1 ≤ z465 ∧ z465 ≤ 1) (h12 : 1 ≤ z477 ∧ z477 ≤ 1) : ¬ (1 : Int) % 40 = 0 ∨ 56000 ≤ (1 : Int) ∨ ((1 : Int) = 960 ∧ p2 ≤ 0) ∨ (¬ (1 : Int) = 960 ∧ p2 < f_n) := by omega
theorem vc_X12_route_v_35 {p3 z488 : Int} (h0 : (z488 = 1 → (0 : Int) ≤ p3 ∧ p3 ≤ (2 : Int))) (h1 : (z488 = 0 → p3 < (0 : Int) ∨ (2 : Int) < p3)) (h2 : (0 : Int) ≤ p3 ∧ p3 ≤ (2 : Int)) (h3 : ¬ z488 = 0) (h4 : 0 ≤ p3 ∧ p3 ≤ 2) (h5 : 1 ≤ z488 ∧ z488 ≤ 1) : (-2147483648 ≤ p3 ∧ p3 ≤ 2147483647) ∧ ((2 : Int) % 40 = 0 → -1 ≤ p3 ∧ p3 ≤ 9) ∧ ((2 : Int) % 40 = 4 → 0 ≤ p3 ∧ p3 ≤ 20) ∧ ((2 : Int) % 40 = 5 → 0 ≤ p3 ∧ p3 ≤ 8) := by omega
theorem vc_X12_route_v_36  : (0 : Int) ≤ ((2 : Int) : Int) := by omega
theorem vc_X12_route_v_37 {f_n p1 p3 z465 z488 : Int} (h0 : (z465 = 1 → 0 ≤ p1 ∧ p1 < f_n)) (h1 : (z465 = 0 → p1 < 0 ∨ f_n ≤ p1)) (h2 : 0 ≤ p1 ∧ p1 < f_n) (h3 : (z488 = 1 → (0 : Int) ≤ p3 ∧ p3 ≤ (2 : Int))) (h4 : (z488 = 0 → p3 < (0 : Int) ∨ (2 : Int) < p3)) (h5 : (0 : Int) ≤ p3 ∧ p3 ≤ (2 : Int)) (h6 : ¬ z465 = 0) (h7 : ¬ z488 = 0) (h8 : 1 ≤ f_n ∧ f_n ≤ 10) (h9 : 0 ≤ p1 ∧ p1 ≤ 9) (h10 : 0 ≤ p3 ∧ p3 ≤ 2) (h11 : 1 ≤ z465 ∧ z465 ≤ 1) (h12 : 1 ≤ z488 ∧ z488 ≤ 1) : ¬ (2 : Int) % 40 = 0 ∨ 56000 ≤ (2 : Int) ∨ ((2 : Int) = 960 ∧ p3 ≤ 0) ∨ (¬ (2 : Int) = 960 ∧ p3 < f_n) := by omega
theorem vc_X12_route_v_38 {p4 z499 : Int} (h0 : (z499 = 1 → (0 : Int) ≤ p4 ∧ p4 ≤ (1000000 : Int))) (h1 : (z499 = 0 → p4 < (0 : Int) ∨ (1000000 : Int) < p4)) (h2 : (0 : Int) ≤ p4 ∧ p4 ≤ (1000000 : Int)) (h3 : ¬ z499 = 0) (h4 : 0 ≤ p4 ∧ p4 ≤ 1000000) (h5 : 1 ≤ z499 ∧ z499 ≤ 1) : (-2147483648 ≤ p4 ∧ p4 ≤ 2147483647) ∧ ((3 : Int) % 40 = 0 → -1 ≤ p4 ∧ p4 ≤ 9) ∧ ((3 : Int) % 40 = 4 → 0 ≤ p4 ∧ p4 ≤ 20) ∧ ((3 : Int) % 40 = 5 → 0 ≤ p4 ∧ p4 ≤ 8) := by omega
theorem vc_X12_route_v_39  : (0 : Int) ≤ ((3 : Int) : Int) := by omega
theorem vc_X12_route_v_40 {f_n p1 p4 z465 z499 : Int} (h0 : (z465 = 1 → 0 ≤ p1 ∧ p1 < f_n)) (h1 : (z465 = 0 → p1 < 0 ∨ f_n ≤ p1)) (h2 : 0 ≤ p1 ∧ p1 < f_n) (h3 : (z499 = 1 → (0 : Int) ≤ p4 ∧ p4 ≤ (1000000 : Int))) (h4 : (z499 = 0 → p4 < (0 : Int) ∨ (1000000 : Int) < p4)) (h5 : (0 : Int) ≤ p4 ∧ p4 ≤ (1000000 : Int)) (h6 : ¬ z465 = 0) (h7 : ¬ z499 = 0) (h8 : 1 ≤ f_n ∧ f_n ≤ 10) (h9 : 0 ≤ p1 ∧ p1 ≤ 9) (h10 : 0 ≤ p4 ∧ p4 ≤ 1000000) (h11 : 1 ≤ z465 ∧ z465 ≤ 1) (h12 : 1 ≤ z499 ∧ z499 ≤ 1) : ¬ (3 : Int) % 40 = 0 ∨ 56000 ≤ (3 : Int) ∨ ((3 : Int) = 960 ∧ p4 ≤ 0) ∨ (¬ (3 : Int) = 960 ∧ p4 < f_n) := by omega
theorem vc_X12_route_v_41 {z521 : Int} (h0 : 0 ≤ z521 ∧ z521 ≤ 20) : (-2147483648 ≤ z521 ∧ z521 ≤ 2147483647) ∧ ((4 : Int) % 40 = 0 → -1 ≤ z521 ∧ z521 ≤ 9) ∧ ((4 : Int) % 40 = 4 → 0 ≤ z521 ∧ z521 ≤ 20) ∧ ((4 : Int) % 40 = 5 → 0 ≤ z521 ∧ z521 ≤ 8) := by omega
theorem vc_X12_route_v_42  : (0 : Int) ≤ ((4 : Int) : Int) := by omega
theorem vc_X12_route_v_43 {f_n p1 z465 z521 : Int} (h0 : (z465 = 1 → 0 ≤ p1 ∧ p1 < f_n)) (h1 : (z465 = 0 → p1 < 0 ∨ f_n ≤ p1)) (h2 : 0 ≤ p1 ∧ p1 < f_n) (h3 : ¬ z465 = 0) (h4 : 1 ≤ f_n ∧ f_n ≤ 10) (h5 : 0 ≤ p1 ∧ p1 ≤ 9) (h6 : 1 ≤ z465 ∧ z465 ≤ 1) (h7 : 0 ≤ z521 ∧ z521 ≤ 20) : ¬ (4 : Int) % 40 = 0 ∨ 56000 ≤ (4 : Int) ∨ ((4 : Int) = 960 ∧ z521 ≤ 0) ∨ (¬ (4 : Int) = 960 ∧ z521 < f_n) := by omega
theorem vc_X12_route_v_44  : (-(2147483648 : Int) ≤ ((0 : Int) : Int) ∧ ((0 : Int) : Int) ≤ (2147483647 : Int)) ∧ (((5 : Int) : Int) % (40 : Int) = (0 : Int) → -(1 : Int) ≤ ((0 : Int) : Int) ∧ ((0 : Int) : Int) ≤ (9 : Int)) ∧ (((5 : Int) : Int) % (40 : Int) = (4 : Int) → (0 : Int) ≤ ((0 : Int) : Int) ∧ ((0 : Int) : Int) ≤ (20 : Int)) ∧ (((5 : Int) : Int) % (40 : Int) = (5 : Int) → (0 : Int) ≤ ((0 : Int) : Int) ∧ ((0 : Int) : Int) ≤ (8 : Int)) := by omega
theorem vc_X12_route_v_45  : (0 : Int) ≤ ((5 : Int) : Int) := by omega
theorem vc_X12_route_v_46 {f_n p1 z465 : Int} (h0 : (z465 = 1 → 0 ≤ p1 ∧ p1 < f_n)) (h1 : (z465 = 0 → p1 < 0 ∨ f_n ≤ p1)) (h2 : 0 ≤ p1 ∧ p1 < f_n) (h3 : ¬ z465 = 0) (h4 : 1 ≤ f_n ∧ f_n ≤ 10) (h5 : 0 ≤ p1 ∧ p1 ≤ 9) (h6 : 1 ≤ z465 ∧ z465 ≤ 1) : ¬ (5 : Int) % 40 = 0 ∨ 56000 ≤ (5 : Int) ∨ ((5 : Int) = 960 ∧ (0 : Int) ≤ 0) ∨ (¬ (5 : Int) = 960 ∧ (0 : Int) < f_n) := by omega
theorem vc_X12_route_v_50 {f_n f_q p1 z465 : Int} (h0 : f_q = p1) (h1 : (z465 = 1 → 0 ≤ p1 ∧ p1 < f_n)) (h2 : (z465 = 0 → p1 < 0 ∨ f_n ≤ p1)) (h3 : 0 ≤ p1 ∧ p1 < f_n) (h4 : 1 ≤ f_n ∧ f_n ≤ 10) (h5 : (-1) ≤ f_q ∧ f_q ≤ 9) (h6 : 0 ≤ p1 ∧ p1 ≤ 9) (h7 : 1 ≤ z465 ∧ z465 ≤ 1) : 0 ≤ f_q := by omega
theorem vc_X12_route_v_51  : (0 : Int) ≤ (0 : Int) ∧ (0 : Int) ≤ (0 : Int) ∧ (0 : Int) < (40 : Int) := by omega
theorem vc_X12_route_v_52  : (0 : Int) ≤ (1 : Int) ∧ (0 : Int) ≤ (1 : Int) ∧ (1 : Int) < (40 : Int) := by omega
theorem vc_X12_route_v_53  : (0 : Int) ≤ (2 : Int) ∧ (0 : Int) ≤ (2 : Int) ∧ (2 : Int) < (40 : Int) := by omega
theorem vc_X12_route_v_54  : (0 : Int) ≤ (3 : Int) ∧ (0 : Int) ≤ (3 : Int) ∧ (3 : Int) < (40 : Int) := by omega
theorem vc_X12_route_v_55  : (0 : Int) ≤ (4 : Int) ∧ (0 : Int) ≤ (4 : Int) ∧ (4 : Int) < (40 : Int) := by omega
theorem vc_X12_route_v_56  : (0 : Int) ≤ (5 : Int) ∧ (0 : Int) ≤ (5 : Int) ∧ (5 : Int) < (40 : Int) := by omega
theorem vc_X12_route_v_57  : (0 : Int) ≤ (0 : Int) ∧ (40 : Int) ≤ (40 : Int) := by omega
theorem vc_X12_route_v_58 {f_n f_q p1 p2 p3 p4 z465 z477 z488 z499 : Int} (h0 : (z465 = 1 → 0 ≤ p1 ∧ p1 < f_n)) (h1 : (z465 = 0 → p1 < 0 ∨ f_n ≤ p1)) (h2 : 0 ≤ p1 ∧ p1 < f_n) (h3 : (z477 = 1 → (0 : Int) ≤ p2 ∧ p2 ≤ (1000 : Int))) (h4 : (z477 = 0 → p2 < (0 : Int) ∨ (1000 : Int) < p2)) (h5 : (0 : Int) ≤ p2 ∧ p2 ≤ (1000 : Int)) (h6 : (z488 = 1 → (0 : Int) ≤ p3 ∧ p3 ≤ (2 : Int))) (h7 : (z488 = 0 → p3 < (0 : Int) ∨ (2 : Int) < p3)) (h8 : (0 : Int) ≤ p3 ∧ p3 ≤ (2 : Int)) (h9 : (z499 = 1 → (0 : Int) ≤ p4 ∧ p4 ≤ (1000000 : Int))) (h10 : (z499 = 0 → p4 < (0 : Int) ∨ (1000000 : Int) < p4)) (h11 : (0 : Int) ≤ p4 ∧ p4 ≤ (1000000 : Int)) (h12 : f_q = p1) (h13 : ¬ z465 = 0) (h14 : ¬ z477 = 0) (h15 : ¬ z488 = 0) (h16 : ¬ z499 = 0) (h17 : 1 ≤ f_n ∧ f_n ≤ 10) (h18 : (-1) ≤ f_q ∧ f_q ≤ 9) (h19 : 0 ≤ p1 ∧ p1 ≤ 9) (h20 : 0 ≤ p2 ∧ p2 ≤ 1000) (h21 : 0 ≤ p3 ∧ p3 ≤ 2) (h22 : 0 ≤ p4 ∧ p4 ≤ 1000000) (h23 : 1 ≤ z465 ∧ z465 ≤ 1) (h24 : 1 ≤ z477 ∧ z477 ≤ 1) (h25 : 1 ≤ z488 ∧ z488 ≤ 1) (h26 : 1 ≤ z499 ∧ z499 ≤ 1) : p1 < 0 ∨ f_n ≤ p1 ∨ p2 < 0 ∨ 1000 < p2 ∨ p3 < 0 ∨ 2 < p3 ∨ p4 < 0 ∨ 1000000 < p4 → (0 : Int) = -1 := by omega
theorem vc_X12_route_v_59 {f_n f_q p1 p2 p3 p4 z465 z477 z488 z499 : Int} (h0 : (z465 = 1 → 0 ≤ p1 ∧ p1 < f_n)) (h1 : (z465 = 0 → p1 < 0 ∨ f_n ≤ p1)) (h2 : 0 ≤ p1 ∧ p1 < f_n) (h3 : (z477 = 1 → (0 : Int) ≤ p2 ∧ p2 ≤ (1000 : Int))) (h4 : (z477 = 0 → p2 < (0 : Int) ∨ (1000 : Int) < p2)) (h5 : (0 : Int) ≤ p2 ∧ p2 ≤ (1000 : Int)) (h6 : (z488 = 1 → (0 : Int) ≤ p3 ∧ p3 ≤ (2 : Int))) (h7 : (z488 = 0 → p3 < (0 : Int) ∨ (2 : Int) < p3)) (h8 : (0 : Int) ≤ p3 ∧ p3 ≤ (2 : Int)) (h9 : (z499 = 1 → (0 : Int) ≤ p4 ∧ p4 ≤ (1000000 : Int))) (h10 : (z499 = 0 → p4 < (0 : Int) ∨ (1000000 : Int) < p4)) (h11 : (0 : Int) ≤ p4 ∧ p4 ≤ (1000000 : Int)) (h12 : f_q = p1) (h13 : ¬ z465 = 0) (h14 : ¬ z477 = 0) (h15 : ¬ z488 = 0) (h16 : ¬ z499 = 0) (h17 : 1 ≤ f_n ∧ f_n ≤ 10) (h18 : (-1) ≤ f_q ∧ f_q ≤ 9) (h19 : 0 ≤ p1 ∧ p1 ≤ 9) (h20 : 0 ≤ p2 ∧ p2 ≤ 1000) (h21 : 0 ≤ p3 ∧ p3 ≤ 2) (h22 : 0 ≤ p4 ∧ p4 ≤ 1000000) (h23 : 1 ≤ z465 ∧ z465 ≤ 1) (h24 : 1 ≤ z477 ∧ z477 ≤ 1) (h25 : 1 ≤ z488 ∧ z488 ≤ 1) (h26 : 1 ≤ z499 ∧ z499 ≤ 1) : 0 ≤ p1 → p1 < f_n → 0 ≤ p2 → p2 ≤ 1000 → 0 ≤ p3 → p3 ≤ 2 → 0 ≤ p4 → p4 ≤ 1000000 → (0 : Int) = 0 := by omega
theorem vc_X12_route_v_62 {z521 z756 z790 : Int} (h0 : z756 < z521) (h1 : 1 ≤ z521 ∧ z521 ≤ 20) (h2 : 0 ≤ z756 ∧ z756 ≤ 19) (h3 : 0 ≤ z790 ∧ z790 ≤ 9) : (-2147483648 ≤ z790 ∧ z790 ≤ 2147483647) ∧ ((6 + z756) % 40 = 0 → -1 ≤ z790 ∧ z790 ≤ 9) ∧ ((6 + z756) % 40 = 4 → 0 ≤ z790 ∧ z790 ≤ 20) ∧ ((6 + z756) % 40 = 5 → 0 ≤ z790 ∧ z790 ≤ 8) := by omega
theorem vc_X12_route_v_63 {z521 z756 : Int} (h0 : z756 < z521) (h1 : 1 ≤ z521 ∧ z521 ≤ 20) (h2 : 0 ≤ z756 ∧ z756 ≤ 19) : 0 ≤ (6 + z756) := by omega
theorem vc_X12_route_v_64 {f_n f_q p1 z465 z521 z756 z790 : Int} (h0 : (z465 = 1 → 0 ≤ p1 ∧ p1 < f_n)) (h1 : (z465 = 0 → p1 < 0 ∨ f_n ≤ p1)) (h2 : 0 ≤ p1 ∧ p1 < f_n) (h3 : z756 < z521) (h4 : ¬ z465 = 0) (h5 : f_q = p1) (h6 : 1 ≤ f_n ∧ f_n ≤ 10) (h7 : (-1) ≤ f_q ∧ f_q ≤ 9) (h8 : 0 ≤ p1 ∧ p1 ≤ 9) (h9 : 1 ≤ z465 ∧ z465 ≤ 1) (h10 : 1 ≤ z521 ∧ z521 ≤ 20) (h11 : 0 ≤ z756 ∧ z756 ≤ 19) (h12 : 0 ≤ z790 ∧ z790 ≤ 9) : ¬ (6 + z756) % 40 = 0 ∨ 56000 ≤ (6 + z756) ∨ ((6 + z756) = 960 ∧ z790 ≤ 0) ∨ (¬ (6 + z756) = 960 ∧ z790 < f_n) := by omega
theorem vc_X12_route_v_65 {z521 z756 : Int} (h0 : z756 < z521) (h1 : 1 ≤ z521 ∧ z521 ≤ 20) (h2 : 0 ≤ z756 ∧ z756 ≤ 19) : (0 : Int).toNat ≠ (6 + z756).toNat := by omega
theorem vc_X12_route_v_66 {f_n f_q p1 z465 : Int} (h0 : (z465 = 1 → 0 ≤ p1 ∧ p1 < f_n)) (h1 : (z465 = 0 → p1 < 0 ∨ f_n ≤ p1)) (h2 : 0 ≤ p1 ∧ p1 < f_n) (h3 : f_q = p1) (h4 : ¬ z465 = 0) (h5 : 1 ≤ f_n ∧ f_n ≤ 10) (h6 : (-1) ≤ f_q ∧ f_q ≤ 9) (h7 : 0 ≤ p1 ∧ p1 ≤ 9) (h8 : 1 ≤ z465 ∧ z465 ≤ 1) : f_q = p1 := by omega
theorem vc_X12_route_v_68 {z521 z756 : Int} (h0 : z756 < z521) (h1 : 1 ≤ z521 ∧ z521 ≤ 20) (h2 : 0 ≤ z756 ∧ z756 ≤ 19) : 0 ≤ (6 + z756) ∧ 0 ≤ (6 + z756) ∧ (6 + z756) < 40 := by omega
theorem vc_X12_route_v_69 {z521 z756 : Int} (h0 : z756 < z521) (h1 : 1 ≤ z521 ∧ z521 ≤ 20) (h2 : 0 ≤ z756 ∧ z756 ≤ 19) : 0 ≤ (6 + z756) ∧ (6 + z756) ≤ (6 + z756) ∧ (6 + z756) < ((6 + z756) + 1) := by omega
theorem vc_X12_route_v_70 {z521 z756 : Int} (h0 : z756 < z521) (h1 : 1 ≤ z521 ∧ z521 ≤ 20) (h2 : 0 ≤ z756 ∧ z756 ≤ 19) : ((6 + z756) + 1) ≤ 5200 ∨ 21200 ≤ (6 + z756) := by omega
theorem vc_X12_route_v_71 {z521 z756 : Int} (h0 : z756 < z521) (h1 : 1 ≤ z521 ∧ z521 ≤ 20) (h2 : 0 ≤ z756 ∧ z756 ≤ 19) : (1 ≤ (6 + z756) ∧ ((6 + z756) + 1) ≤ 1200) ∨ 5200 ≤ (6 + z756) := by omega
theorem vc_X12_route_v_72  : (0 : Int).toNat ≠ (1 : Int).toNat := by omega
theorem vc_X12_route_v_73  : (0 : Int).toNat ≠ (2 : Int).toNat := by omega
theorem vc_X12_route_v_74  : (0 : Int).toNat ≠ (3 : Int).toNat := by omega
theorem vc_X12_route_v_75  : (0 : Int).toNat ≠ (4 : Int).toNat := by omega
theorem vc_X12_route_v_76  : (0 : Int).toNat ≠ (5 : Int).toNat := by omega
theorem vc_X12_route_v_77 {f_n p1 z465 : Int} (h0 : (z465 = 1 → 0 ≤ p1 ∧ p1 < f_n)) (h1 : (z465 = 0 → p1 < 0 ∨ f_n ≤ p1)) (h2 : 0 ≤ p1 ∧ p1 < f_n) (h3 : ¬ z465 = 0) (h4 : 1 ≤ f_n ∧ f_n ≤ 10) (h5 : 0 ≤ p1 ∧ p1 ≤ 9) (h6 : 1 ≤ z465 ∧ z465 ≤ 1) : p1 = p1 := by omega
theorem vc_X12_route_v_79  : (0 : Int) ≤ (1 : Int) ∧ (1 : Int) ≤ (1 : Int) ∧ (1 : Int) < ((1 : Int) + (1 : Int)) := by omega
theorem vc_X12_route_v_80  : (0 : Int) ≤ (2 : Int) ∧ (2 : Int) ≤ (2 : Int) ∧ (2 : Int) < ((2 : Int) + (1 : Int)) := by omega
theorem vc_X12_route_v_81  : (0 : Int) ≤ (3 : Int) ∧ (3 : Int) ≤ (3 : Int) ∧ (3 : Int) < ((3 : Int) + (1 : Int)) := by omega
theorem vc_X12_route_v_82  : (0 : Int) ≤ (4 : Int) ∧ (4 : Int) ≤ (4 : Int) ∧ (4 : Int) < ((4 : Int) + (1 : Int)) := by omega
theorem vc_X12_route_v_83  : (0 : Int) ≤ (5 : Int) ∧ (5 : Int) ≤ (5 : Int) ∧ (5 : Int) < ((5 : Int) + (1 : Int)) := by omega
theorem vc_X12_route_v_84  : (((5 : Int) + (1 : Int)) : Int) ≤ (5200 : Int) ∨ (21200 : Int) ≤ ((5 : Int) : Int) := by omega
theorem vc_X12_route_v_85  : (((4 : Int) + (1 : Int)) : Int) ≤ (5200 : Int) ∨ (21200 : Int) ≤ ((4 : Int) : Int) := by omega
theorem vc_X12_route_v_86  : (((3 : Int) + (1 : Int)) : Int) ≤ (5200 : Int) ∨ (21200 : Int) ≤ ((3 : Int) : Int) := by omega
theorem vc_X12_route_v_87  : (((2 : Int) + (1 : Int)) : Int) ≤ (5200 : Int) ∨ (21200 : Int) ≤ ((2 : Int) : Int) := by omega
theorem vc_X12_route_v_88  : (((1 : Int) + (1 : Int)) : Int) ≤ (5200 : Int) ∨ (21200 : Int) ≤ ((1 : Int) : Int) := by omega
theorem vc_X12_route_v_89  : (((0 : Int) + (1 : Int)) : Int) ≤ (5200 : Int) ∨ (21200 : Int) ≤ ((0 : Int) : Int) := by omega
theorem vc_X12_route_v_90  : ((1 : Int) ≤ ((5 : Int) : Int) ∧ (((5 : Int) + (1 : Int)) : Int) ≤ (1200 : Int)) ∨ (5200 : Int) ≤ ((5 : Int) : Int) := by omega
theorem vc_X12_route_v_91  : ((1 : Int) ≤ ((4 : Int) : Int) ∧ (((4 : Int) + (1 : Int)) : Int) ≤ (1200 : Int)) ∨ (5200 : Int) ≤ ((4 : Int) : Int) := by omega
theorem vc_X12_route_v_92  : ((1 : Int) ≤ ((3 : Int) : Int) ∧ (((3 : Int) + (1 : Int)) : Int) ≤ (1200 : Int)) ∨ (5200 : Int) ≤ ((3 : Int) : Int) := by omega
theorem vc_X12_route_v_93  : ((1 : Int) ≤ ((2 : Int) : Int) ∧ (((2 : Int) + (1 : Int)) : Int) ≤ (1200 : Int)) ∨ (5200 : Int) ≤ ((2 : Int) : Int) := by omega
theorem vc_X12_route_v_94  : ((1 : Int) ≤ ((1 : Int) : Int) ∧ (((1 : Int) + (1 : Int)) : Int) ≤ (1200 : Int)) ∨ (5200 : Int) ≤ ((1 : Int) : Int) := by omega
theorem vc_X12_route_v_95 {p4 z499 : Int} (h0 : z499 = 0) (h1 : (z499 = 1 → (0 : Int) ≤ p4 ∧ p4 ≤ (1000000 : Int))) (h2 : (z499 = 0 → p4 < (0 : Int) ∨ (1000000 : Int) < p4)) (h3 : (-2147483648) ≤ p4 ∧ p4 ≤ 2147483647) (h4 : 0 ≤ z499 ∧ z499 ≤ 1) : 0 ≤ z499 ∧ z499 ≤ 0 := by omega
theorem vc_X12_route_v_96 {p4 z499 : Int} (h0 : (z499 = 1 → (0 : Int) ≤ p4 ∧ p4 ≤ (1000000 : Int))) (h1 : (z499 = 0 → p4 < (0 : Int) ∨ (1000000 : Int) < p4)) (h2 : z499 = 0) (h3 : (-2147483648) ≤ p4 ∧ p4 ≤ 2147483647) (h4 : 0 ≤ z499 ∧ z499 ≤ 0) : z499 = 0 := by omega
theorem vc_X12_route_v_97 {f_n p1 p2 p3 p4 z465 z477 z488 z499 : Int} (h0 : (z465 = 1 → 0 ≤ p1 ∧ p1 < f_n)) (h1 : (z465 = 0 → p1 < 0 ∨ f_n ≤ p1)) (h2 : 0 ≤ p1 ∧ p1 < f_n) (h3 : (z477 = 1 → (0 : Int) ≤ p2 ∧ p2 ≤ (1000 : Int))) (h4 : (z477 = 0 → p2 < (0 : Int) ∨ (1000 : Int) < p2)) (h5 : (0 : Int) ≤ p2 ∧ p2 ≤ (1000 : Int)) (h6 : (z488 = 1 → (0 : Int) ≤ p3 ∧ p3 ≤ (2 : Int))) (h7 : (z488 = 0 → p3 < (0 : Int) ∨ (2 : Int) < p3)) (h8 : (0 : Int) ≤ p3 ∧ p3 ≤ (2 : Int)) (h9 : (z499 = 1 → (0 : Int) ≤ p4 ∧ p4 ≤ (1000000 : Int))) (h10 : (z499 = 0 → p4 < (0 : Int) ∨ (1000000 : Int) < p4)) (h11 : p4 < (0 : Int) ∨ (1000000 : Int) < p4) (h12 : ¬ z465 = 0) (h13 : ¬ z477 = 0) (h14 : ¬ z488 = 0) (h15 : z499 = 0) (h16 : 1 ≤ f_n ∧ f_n ≤ 10) (h17 : 0 ≤ p1 ∧ p1 ≤ 9) (h18 : 0 ≤ p2 ∧ p2 ≤ 1000) (h19 : 0 ≤ p3 ∧ p3 ≤ 2) (h20 : (-2147483648) ≤ p4 ∧ p4 ≤ 2147483647) (h21 : 1 ≤ z465 ∧ z465 ≤ 1) (h22 : 1 ≤ z477 ∧ z477 ≤ 1) (h23 : 1 ≤ z488 ∧ z488 ≤ 1) (h24 : 0 ≤ z499 ∧ z499 ≤ 0) : p1 < 0 ∨ f_n ≤ p1 ∨ p2 < 0 ∨ 1000 < p2 ∨ p3 < 0 ∨ 2 < p3 ∨ p4 < 0 ∨ 1000000 < p4 → (-1 : Int) = -1 := by omega
theorem vc_X12_route_v_98 {f_n p1 p2 p3 p4 z465 z477 z488 z499 : Int} (h0 : (z465 = 1 → 0 ≤ p1 ∧ p1 < f_n)) (h1 : (z465 = 0 → p1 < 0 ∨ f_n ≤ p1)) (h2 : 0 ≤ p1 ∧ p1 < f_n) (h3 : (z477 = 1 → (0 : Int) ≤ p2 ∧ p2 ≤ (1000 : Int))) (h4 : (z477 = 0 → p2 < (0 : Int) ∨ (1000 : Int) < p2)) (h5 : (0 : Int) ≤ p2 ∧ p2 ≤ (1000 : Int)) (h6 : (z488 = 1 → (0 : Int) ≤ p3 ∧ p3 ≤ (2 : Int))) (h7 : (z488 = 0 → p3 < (0 : Int) ∨ (2 : Int) < p3)) (h8 : (0 : Int) ≤ p3 ∧ p3 ≤ (2 : Int)) (h9 : (z499 = 1 → (0 : Int) ≤ p4 ∧ p4 ≤ (1000000 : Int))) (h10 : (z499 = 0 → p4 < (0 : Int) ∨ (1000000 : Int) < p4)) (h11 : p4 < (0 : Int) ∨ (1000000 : Int) < p4) (h12 : ¬ z465 = 0) (h13 : ¬ z477 = 0) (h14 : ¬ z488 = 0) (h15 : z499 = 0) (h16 : 1 ≤ f_n ∧ f_n ≤ 10) (h17 : 0 ≤ p1 ∧ p1 ≤ 9) (h18 : 0 ≤ p2 ∧ p2 ≤ 1000) (h19 : 0 ≤ p3 ∧ p3 ≤ 2) (h20 : (-2147483648) ≤ p4 ∧ p4 ≤ 2147483647) (h21 : 1 ≤ z465 ∧ z465 ≤ 1) (h22 : 1 ≤ z477 ∧ z477 ≤ 1) (h23 : 1 ≤ z488 ∧ z488 ≤ 1) (h24 : 0 ≤ z499 ∧ z499 ≤ 0) : 0 ≤ p1 → p1 < f_n → 0 ≤ p2 → p2 ≤ 1000 → 0 ≤ p3 → p3 ≤ 2 → 0 ≤ p4 → p4 ≤ 1000000 → (-1 : Int) = 0 := by omega
set_option maxRecDepth 4000 in
set_option maxHeartbeats 4000000 in
theorem c_X12_route_v {l : Launch} {D : va_G} {c : Nat → ClassId} {H0 : Heap} {sa : Nat × Nat × (Nat → Int32)} {w : mW} {μ : mM} (hw : mWF w) (hT : mT w μ) {p1 : Int} (hp1 : (-2147483648) ≤ p1 ∧ p1 ≤ 2147483647) {p2 : Int} (hp2 : (-2147483648) ≤ p2 ∧ p2 ≤ 2147483647) {p3 : Int} (hp3 : (-2147483648) ≤ p3 ∧ p3 ≤ 2147483647) {p4 : Int} (hp4 : (-2147483648) ≤ p4 ∧ p4 ≤ 2147483647) {f_n : Int} (q_f_n : μ 106 2 = f_n) (hIJC : JC l D c H0 sa μ) (hIRP : RP μ) (hIEP : EP μ) (hIHP : HP μ) (hIUP : UP l D c H0 sa μ) (hIG1 : G1 μ) : sC (gG l D c H0 sa) mX12_route 3 0 0 [.ref 106, iv p1, iv p2, iv p3, iv p4] (mk w μ) (qI w [106070, 126999] μ (fun z μ1 => ((-2147483648) ≤ z ∧ z ≤ 2147483647) ∧ mG [(0, 40)] μ μ1 ∧ JC l D c H0 sa μ1 ∧ RP μ1 ∧ EP μ1 ∧ HP μ1 ∧ UP l D c H0 sa μ1 ∧ G1 μ1 ∧ (p1 < 0 ∨ f_n ≤ p1 ∨ p2 < 0 ∨ 1000 < p2 ∨ p3 < 0 ∨ 2 < p3 ∨ p4 < 0 ∨ 1000000 < p4 → z = -1) ∧ (0 ≤ p1 → p1 < f_n → 0 ≤ p2 → p2 ≤ 1000 → 0 ≤ p3 → p3 ≤ 2 → 0 ≤ p4 → p4 ≤ 1000000 → z = 0) ∧ True)) := by
  refine sC.of rfl (by decide) (le_t rfl) ?_
  have ht_f_n : (0 ≤ f_n ∧ f_n ≤ 10) := by rw [← q_f_n]; exact hT 106 106 (A_106 hw) 2
  refine mr_lvE (lv' := [(0, .ref 106), (1, iv p1), (2, iv p2), (3, iv p3), (4, iv p4)]) rfl ?_
  refine sv_aload_n (pc := 0) dX12_route_0 rfl rfl ?_
  refine mr_iload_n (pc := 1) (z := p1) dX12_route_1 rfl rfl ?_
  refine mr_cVP (pc := 2) (c_X12_isPrefix hw hT hp1 q_f_n) (gOk _ _ _ _ _) dX12_route_2 (tX12_isPrefix _ _ _ _ _) ⟨wV_X12_isPrefix, wL_X12_isPrefix⟩ wM_X12_92 (gCX12 _ _ _ _ _) rfl (A_106 hw) rfl ⟨le_t rfl, le_t rfl⟩ ⟨le_t rfl, le_t rfl⟩ rfl (le_t rfl) fun z465 h464 => ?_
  refine mr_if_eq (pc := 5) (tgt := 40) dX12_route_5 (by decide) (r32 h464.1 rfl) (fun h466 => ?_) (fun h466 => ?_)
  · have h467 : 0 ≤ z465 ∧ z465 ≤ 0 := (vc_X11_route_v_1 h466 h464.2.1 h464.2.2.1 ht_f_n hp1 h464.1)
    have h468 : p1 < 0 ∨ f_n ≤ p1 := (h464.2.2.1 (vc_X11_route_v_2 h464.2.1 h464.2.2.1 h466 ht_f_n hp1 h467))
    refine mr_iconst (pc := 40) (z := (-1)) dX12_route_40 ?_
    exact mr_iret dX12_route_41 rfl (le_t rfl) (le_t rfl) hT mF.refl ⟨(rW (c := (-2147483648)) (d := 2147483647) (rR (x := (-1))) rfl), mG.refl, hIJC, hIRP, hIEP, hIHP, hIUP, hIG1, (vc_X11_route_v_3 h464.2.1 h464.2.2.1 h468 h466 ht_f_n hp1 hp2 hp3 hp4 h467), (vc_X11_route_v_4 h464.2.1 h464.2.2.1 h468 h466 ht_f_n hp1 hp2 hp3 hp4 h467), trivial⟩
  have h469 : 1 ≤ z465 ∧ z465 ≤ 1 := (vc_X11_route_v_5 h466 h464.2.1 h464.2.2.1 ht_f_n hp1 h464.1)
  have h470 : 0 ≤ p1 ∧ p1 < f_n := (h464.2.1 (vc_X11_route_v_6 h464.2.1 h464.2.2.1 h466 ht_f_n hp1 h469))
  have h471 : 0 ≤ p1 ∧ p1 ≤ 9 := (vc_X11_route_v_7 h470 h464.2.1 h464.2.2.1 ht_f_n hp1 h469)
  have h472 : 1 ≤ f_n ∧ f_n ≤ 10 := (vc_X11_route_v_8 h470 h464.2.1 h464.2.2.1 ht_f_n h471 h469)
  refine mr_iload_n (pc := 8) (z := p2) dX12_route_8 rfl rfl ?_
  refine mr_iconst (pc := 9) (z := 0) dX12_route_9 ?_
  refine mr_sipush (pc := 10) (z := 1000) dX12_route_10 (by decide) ?_
  refine mr_cSP (pc := 13) (c_X12_in hw hT hp2 (rW (c := (-2147483648)) (d := 2147483647) (rR (x := 0)) rfl) (rW (c := (-2147483648)) (d := 2147483647) (rR (x := 1000)) rfl)) (gOk _ _ _ _ _) dX12_route_13 (tX12_in _ _ _ _ _) wS_X12_in wM_X12_18 ⟨le_t rfl, le_t rfl⟩ ⟨le_t rfl, le_t rfl⟩ rfl (le_t rfl) fun z477 h476 => ?_
  refine mr_if_eq (pc := 16) (tgt := 40) dX12_route_16 (by decide) (r32 h476.1 rfl) (fun h478 => ?_) (fun h478 => ?_)
  · have h479 : 0 ≤ z477 ∧ z477 ≤ 0 := (vc_X12_pace_15 h478 h476.2.1 h476.2.2.1 hp2 h476.1)
    have h480 : p2 < (0 : Int) ∨ (1000 : Int) < p2 := (h476.2.2.1 (vc_X12_pace_16 h476.2.1 h476.2.2.1 h478 hp2 h479))
    refine mr_iconst (pc := 40) (z := (-1)) dX12_route_40 ?_
    exact mr_iret dX12_route_41 rfl (le_t rfl) (le_t rfl) hT mF.refl ⟨(rW (c := (-2147483648)) (d := 2147483647) (rR (x := (-1))) rfl), mG.refl, hIJC, hIRP, hIEP, hIHP, hIUP, hIG1, (vc_X12_route_v_11 h464.2.1 h464.2.2.1 h470 h476.2.1 h476.2.2.1 h480 h466 h478 h472 h471 hp2 hp3 hp4 h469 h479), (vc_X12_route_v_12 h464.2.1 h464.2.2.1 h470 h476.2.1 h476.2.2.1 h480 h466 h478 h472 h471 hp2 hp3 hp4 h469 h479), trivial⟩
  have h481 : 1 ≤ z477 ∧ z477 ≤ 1 := (vc_X12_pace_12 h478 h476.2.1 h476.2.2.1 hp2 h476.1)
  have h482 : (0 : Int) ≤ p2 ∧ p2 ≤ (1000 : Int) := (h476.2.1 (vc_X12_pace_13 h476.2.1 h476.2.2.1 h478 hp2 h481))
  have h483 : 0 ≤ p2 ∧ p2 ≤ 1000 := (vc_X12_pace_14 h482 h476.2.1 h476.2.2.1 hp2 h481)
  refine mr_iload_n (pc := 19) (z := p3) dX12_route_19 rfl rfl ?_
  refine mr_iconst (pc := 20) (z := 0) dX12_route_20 ?_
  refine mr_iconst (pc := 21) (z := 2) dX12_route_21 ?_
  refine mr_cSP (pc := 22) (c_X12_in hw hT hp3 (rW (c := (-2147483648)) (d := 2147483647) (rR (x := 0)) rfl) (rW (c := (-2147483648)) (d := 2147483647) (rR (x := 2)) rfl)) (gOk _ _ _ _ _) dX12_route_22 (tX12_in _ _ _ _ _) wS_X12_in wM_X12_18 ⟨le_t rfl, le_t rfl⟩ ⟨le_t rfl, le_t rfl⟩ rfl (le_t rfl) fun z488 h487 => ?_
  refine mr_if_eq (pc := 25) (tgt := 40) dX12_route_25 (by decide) (r32 h487.1 rfl) (fun h489 => ?_) (fun h489 => ?_)
  · have h490 : 0 ≤ z488 ∧ z488 ≤ 0 := (vc_X12_units_9 h489 h487.2.1 h487.2.2.1 hp3 h487.1)
    have h491 : p3 < (0 : Int) ∨ (2 : Int) < p3 := (h487.2.2.1 (vc_X12_units_10 h487.2.1 h487.2.2.1 h489 hp3 h490))
    refine mr_iconst (pc := 40) (z := (-1)) dX12_route_40 ?_
    exact mr_iret dX12_route_41 rfl (le_t rfl) (le_t rfl) hT mF.refl ⟨(rW (c := (-2147483648)) (d := 2147483647) (rR (x := (-1))) rfl), mG.refl, hIJC, hIRP, hIEP, hIHP, hIUP, hIG1, (vc_X12_route_v_18 h464.2.1 h464.2.2.1 h470 h476.2.1 h476.2.2.1 h482 h487.2.1 h487.2.2.1 h491 h466 h478 h489 h472 h471 h483 hp3 hp4 h469 h481 h490), (vc_X12_route_v_19 h464.2.1 h464.2.2.1 h470 h476.2.1 h476.2.2.1 h482 h487.2.1 h487.2.2.1 h491 h466 h478 h489 h472 h471 h483 hp3 hp4 h469 h481 h490), trivial⟩
  have h492 : 1 ≤ z488 ∧ z488 ≤ 1 := (vc_X12_units_1 h489 h487.2.1 h487.2.2.1 hp3 h487.1)
  have h493 : (0 : Int) ≤ p3 ∧ p3 ≤ (2 : Int) := (h487.2.1 (vc_X12_units_2 h487.2.1 h487.2.2.1 h489 hp3 h492))
  have h494 : 0 ≤ p3 ∧ p3 ≤ 2 := (vc_X12_units_3 h493 h487.2.1 h487.2.2.1 hp3 h492)
  refine mr_iload (pc := 28) (z := p4) dX12_route_28 rfl ?_
  refine mr_iconst (pc := 30) (z := 0) dX12_route_30 ?_
  refine mr_ldcw (pc := 31) (z := 1000000) dX12_route_31 wG_X12_291 (by decide) ?_
  refine mr_cSP (pc := 34) (c_X12_in hw hT hp4 (rW (c := (-2147483648)) (d := 2147483647) (rR (x := 0)) rfl) (rW (c := (-2147483648)) (d := 2147483647) (rR (x := 1000000)) rfl)) (gOk _ _ _ _ _) dX12_route_34 (tX12_in _ _ _ _ _) wS_X12_in wM_X12_18 ⟨le_t rfl, le_t rfl⟩ ⟨le_t rfl, le_t rfl⟩ rfl (le_t rfl) fun z499 h498 => ?_
  refine mr_if_ne (pc := 37) (tgt := 42) dX12_route_37 (by decide) (r32 h498.1 rfl) (fun h500 => ?_) (fun h500 => ?_)
  · have h501 : 1 ≤ z499 ∧ z499 ≤ 1 := (vc_X12_route_v_23 h500 h498.2.1 h498.2.2.1 hp4 h498.1)
    have h502 : (0 : Int) ≤ p4 ∧ p4 ≤ (1000000 : Int) := (h498.2.1 (vc_X12_route_v_24 h498.2.1 h498.2.2.1 h500 hp4 h501))
    have h503 : 0 ≤ p4 ∧ p4 ≤ 1000000 := (vc_X12_route_v_25 h502 h498.2.1 h498.2.2.1 hp4 h501)
    refine sv_aload_n (pc := 42) dX12_route_42 rfl rfl ?_
    refine gf_X12_32 (pc := 43) dX12_route_43 wF_X12_148 (A_106 hw) hT ?_
    refine mr_iconst (pc := 46) (z := 0) dX12_route_46 ?_
    refine mr_iload_n (pc := 47) (z := p1) dX12_route_47 rfl rfl ?_
    refine ss_126 (pc := 48) dX12_route_48 (A_126 hw) hT (rIx (n := 84000) (rR (x := 0)) rfl) (vc_X12_route_v_26 h464.2.1 h464.2.2.1 h470 h466 h472 h471 h469) fun μ504 u505 T506 => ?_
    have I507 : RP μ504 := RP.up hIRP u505 (u505.f (Or.inl (mAt.ne (A_126 hw) (A_106 hw) rfl)) q_f_n) vc_X12_through_6 (vc_X12_route_v_28 h464.2.1 h464.2.2.1 h470 h466 h472 h471 h469)
    have I508 : G1 μ504 := G1.take hIG1 hw ((mF.up mF.refl (A_126 hw) u505 rfl) : mF [126999] w μ μ504) rfl ((mG.up mG.refl u505 List.mem_cons_self vc_X12_route_v_29) : mG [(0, (0 + 1))] μ μ504) (List.forall_mem_cons.mpr ⟨vc_X12_route_v_30, (fun _ h => absurd h List.not_mem_nil)⟩) u505.1 (vc_X12_route_v_31 h464.2.1 h464.2.2.1 h470 h466 h472 h471 h469)
    refine sv_aload_n (pc := 49) dX12_route_49 rfl rfl ?_
    refine gf_X12_32 (pc := 50) dX12_route_50 wF_X12_148 (A_106 hw) T506 ?_
    refine mr_iconst (pc := 53) (z := 1) dX12_route_53 ?_
    refine mr_iload_n (pc := 54) (z := p2) dX12_route_54 rfl rfl ?_
    refine ss_126 (pc := 55) dX12_route_55 (A_126 hw) T506 (rIx (n := 84000) (rR (x := 1)) rfl) (vc_X12_route_v_32 h476.2.1 h476.2.2.1 h482 h478 h483 h481) fun μ509 u510 T511 => ?_
    have I512 : RP μ509 := RP.up I507 u510 (u510.f (Or.inl (mAt.ne (A_126 hw) (A_106 hw) rfl)) (u505.f (Or.inl (mAt.ne (A_126 hw) (A_106 hw) rfl)) q_f_n)) vc_X12_number_f_13 (vc_X12_route_v_34 h464.2.1 h464.2.2.1 h470 h476.2.1 h476.2.2.1 h482 h466 h478 h472 h471 h483 h469 h481)
    refine sv_aload_n (pc := 56) dX12_route_56 rfl rfl ?_
    refine gf_X12_32 (pc := 57) dX12_route_57 wF_X12_148 (A_106 hw) T511 ?_
    refine mr_iconst (pc := 60) (z := 2) dX12_route_60 ?_
    refine mr_iload_n (pc := 61) (z := p3) dX12_route_61 rfl rfl ?_
    refine ss_126 (pc := 62) dX12_route_62 (A_126 hw) T511 (rIx (n := 84000) (rR (x := 2)) rfl) (vc_X12_route_v_35 h487.2.1 h487.2.2.1 h493 h489 h494 h492) fun μ513 u514 T515 => ?_
    have I516 : RP μ513 := RP.up I512 u514 (u514.f (Or.inl (mAt.ne (A_126 hw) (A_106 hw) rfl)) (u510.f (Or.inl (mAt.ne (A_126 hw) (A_106 hw) rfl)) (u505.f (Or.inl (mAt.ne (A_126 hw) (A_106 hw) rfl)) q_f_n))) vc_X12_route_v_36 (vc_X12_route_v_37 h464.2.1 h464.2.2.1 h470 h487.2.1 h487.2.2.1 h493 h466 h489 h472 h471 h494 h469 h492)
    refine sv_aload_n (pc := 63) dX12_route_63 rfl rfl ?_
    refine gf_X12_32 (pc := 64) dX12_route_64 wF_X12_148 (A_106 hw) T515 ?_
    refine mr_iconst (pc := 67) (z := 3) dX12_route_67 ?_
    refine mr_iload (pc := 68) (z := p4) dX12_route_68 rfl ?_
    refine ss_126 (pc := 70) dX12_route_70 (A_126 hw) T515 (rIx (n := 84000) (rR (x := 3)) rfl) (vc_X12_route_v_38 h498.2.1 h498.2.2.1 h502 h500 h503 h501) fun μ517 u518 T519 => ?_
    have I520 : RP μ517 := RP.up I516 u518 (u518.f (Or.inl (mAt.ne (A_126 hw) (A_106 hw) rfl)) (u514.f (Or.inl (mAt.ne (A_126 hw) (A_106 hw) rfl)) (u510.f (Or.inl (mAt.ne (A_126 hw) (A_106 hw) rfl)) (u505.f (Or.inl (mAt.ne (A_126 hw) (A_106 hw) rfl)) q_f_n)))) vc_X12_route_v_39 (vc_X12_route_v_40 h464.2.1 h464.2.2.1 h470 h498.2.1 h498.2.2.1 h502 h466 h500 h472 h471 h503 h469 h501)
    refine sv_aload_n (pc := 71) dX12_route_71 rfl rfl ?_
    refine gf_X12_32 (pc := 72) dX12_route_72 wF_X12_148 (A_106 hw) T519 ?_
    refine mr_iconst (pc := 75) (z := 4) dX12_route_75 ?_
    refine sv_aload_n (pc := 76) dX12_route_76 rfl rfl ?_
    refine gf_X12_15 (pc := 77) dX12_route_77 wF_X12_79 (A_106 hw) T519 fun z521 q522 h523 => ?_
    refine ss_126 (pc := 80) dX12_route_80 (A_126 hw) T519 (rIx (n := 84000) (rR (x := 4)) rfl) (vc_X12_route_v_41 h523) fun μ524 u525 T526 => ?_
    have I527 : RP μ524 := RP.up I520 u525 (u525.f (Or.inl (mAt.ne (A_126 hw) (A_106 hw) rfl)) (u518.f (Or.inl (mAt.ne (A_126 hw) (A_106 hw) rfl)) (u514.f (Or.inl (mAt.ne (A_126 hw) (A_106 hw) rfl)) (u510.f (Or.inl (mAt.ne (A_126 hw) (A_106 hw) rfl)) (u505.f (Or.inl (mAt.ne (A_126 hw) (A_106 hw) rfl)) q_f_n))))) vc_X12_route_v_42 (vc_X12_route_v_43 h464.2.1 h464.2.2.1 h470 h466 h472 h471 h469 h523)
    refine sv_aload_n (pc := 81) dX12_route_81 rfl rfl ?_
    refine gf_X12_32 (pc := 82) dX12_route_82 wF_X12_148 (A_106 hw) T526 ?_
    refine mr_iconst (pc := 85) (z := 5) dX12_route_85 ?_
    refine mr_iconst (pc := 86) (z := 0) dX12_route_86 ?_
    refine ss_126 (pc := 87) dX12_route_87 (A_126 hw) T526 (rIx (n := 84000) (rR (x := 5)) rfl) vc_X12_route_v_44 fun μ528 u529 T530 => ?_
    have I531 : RP μ528 := RP.up I527 u529 (u529.f (Or.inl (mAt.ne (A_126 hw) (A_106 hw) rfl)) (u525.f (Or.inl (mAt.ne (A_126 hw) (A_106 hw) rfl)) (u518.f (Or.inl (mAt.ne (A_126 hw) (A_106 hw) rfl)) (u514.f (Or.inl (mAt.ne (A_126 hw) (A_106 hw) rfl)) (u510.f (Or.inl (mAt.ne (A_126 hw) (A_106 hw) rfl)) (u505.f (Or.inl (mAt.ne (A_126 hw) (A_106 hw) rfl)) q_f_n)))))) vc_X12_route_v_45 (vc_X12_route_v_46 h464.2.1 h464.2.2.1 h470 h466 h472 h471 h469)
    refine mr_iconst (pc := 88) (z := 0) dX12_route_88 ?_
    refine mr_istore (pc := 89) (lv' := [(5, iv 0), (0, .ref 106), (1, iv p1), (2, iv p2), (3, iv p3), (4, iv p4)]) dX12_route_89 (by decide) rfl ?_
    have L758 : ∀ (nL758 : Nat) (z756 : Int) (μ757 : mM) (f_q : Int), mT w μ757 → mF [126999] w μ528 μ757 → mG [(0, 40)] μ528 μ757 → μ757 126 ((0 : Int).toNat) = f_q → (0 ≤ z756 ∧ z756 ≤ 20) → (f_q = p1) → JC l D c H0 sa μ757 → RP μ757 → EP μ757 → HP μ757 → UP l D c H0 sa μ757 → G1 μ757 → (21 - z756) < (nL758 : Int) → sV (gG l D c H0 sa) mX12_route (sRm 3 0 0) (sZ (gG l D c H0 sa) 0 0 (qI w [106070, 126999] μ (fun z μ1 => ((-2147483648) ≤ z ∧ z ≤ 2147483647) ∧ mG [(0, 40)] μ μ1 ∧ JC l D c H0 sa μ1 ∧ RP μ1 ∧ EP μ1 ∧ HP μ1 ∧ UP l D c H0 sa μ1 ∧ G1 μ1 ∧ (p1 < 0 ∨ f_n ≤ p1 ∨ p2 < 0 ∨ 1000 < p2 ∨ p3 < 0 ∨ 2 < p3 ∨ p4 < 0 ∨ 1000000 < p4 → z = -1) ∧ (0 ≤ p1 → p1 < f_n → 0 ≤ p2 → p2 ≤ 1000 → 0 ≤ p3 → p3 ≤ 2 → 0 ≤ p4 → p4 ≤ 1000000 → z = 0) ∧ True))) 91 [(0, .ref 106), (5, iv z756)] [] (mk w μ757) 0 0 := by
      intro nL758
      induction nL758 with
      | zero => intro z756 μ757 f_q T760 F761 G762 q771 h759 h763 I764 I765 I766 I767 I768 I769 h770; exact ((vc_X12_feed_2 h770 h759)).elim
      | succ nL758 ih772 =>
        intro z756 μ757 f_q T760 F761 G762 q771 h759 h763 I764 I765 I766 I767 I768 I769 h770
        have h773 := rt7 T760 (A_126 hw) vc_X7_become_1 q771
        have h774 : (-1) ≤ f_q ∧ f_q ≤ 9 := h773.2.1 vc_X12_judge_u_20
        refine mr_iload (pc := 91) (z := z756) dX12_route_91 rfl ?_
        refine sv_aload_n (pc := 93) dX12_route_93 rfl rfl ?_
        refine gk_X12_15 (pc := 94) dX12_route_94 wF_X12_79 (A_106 hw) (F761.f (A_106 hw) rfl (u529.f (Or.inl (mAt.ne (A_126 hw) (A_106 hw) rfl)) (u525.f (Or.inl (mAt.ne (A_126 hw) (A_106 hw) rfl)) q522))) ?_
        refine mr_icmp_ge (pc := 97) (tgt := 123) dX12_route_97 (by decide) (r32 h759 rfl) (r32 h523 rfl) (fun h783 => ?_) (fun h783 => ?_)
        · refine sv_aload_n (pc := 123) dX12_route_123 rfl rfl ?_
          refine mr_iconst (pc := 124) (z := 1) dX12_route_124 ?_
          refine pf_X12_70 (pc := 125) dX12_route_125 wF_X12_411 (A_106 hw) T760 (rW (c := 0) (d := 1) (rR (x := 1)) rfl) fun μ784 u785 T786 => ?_
          have I787 : G1 μ784 := G1.take I769 hw ((mF.up mF.refl (A_106 hw) u785 rfl) : mF [106070] w μ757 μ784) rfl ((mG.upO mG.refl u785 rfl) : mG [] μ757 μ784) (fun _ h => absurd h List.not_mem_nil) (u785.f (Or.inl (mAt.ne (A_106 hw) (A_126 hw) rfl)) q771) (vc_X12_route_v_50 h763 h464.2.1 h464.2.2.1 h470 h472 h774 h471 h469)
          refine mr_iconst (pc := 128) (z := 0) dX12_route_128 ?_
          exact mr_iret dX12_route_129 rfl (le_t rfl) (le_t rfl) T786 (mF.up (mF.call (mF.up (mF.up (mF.up (mF.up (mF.up (mF.up mF.refl (A_126 hw) u505 rfl) (A_126 hw) u510 rfl) (A_126 hw) u514 rfl) (A_126 hw) u518 rfl) (A_126 hw) u525 rfl) (A_126 hw) u529 rfl) F761 rfl) (A_106 hw) u785 rfl) ⟨(rW (c := (-2147483648)) (d := 2147483647) (rR (x := 0)) rfl), (mG.upO (mG.call (mG.up (mG.up (mG.up (mG.up (mG.up (mG.up mG.refl u505 List.mem_cons_self vc_X12_route_v_51) u510 List.mem_cons_self vc_X12_route_v_52) u514 List.mem_cons_self vc_X12_route_v_53) u518 List.mem_cons_self vc_X12_route_v_54) u525 List.mem_cons_self vc_X12_route_v_55) u529 List.mem_cons_self vc_X12_route_v_56) G762 (List.forall_mem_cons.mpr ⟨⟨_, List.mem_cons_self, vc_X12_route_v_57⟩, (fun _ h => absurd h List.not_mem_nil)⟩)) u785 rfl), (JC.keepJ I764 hw ((mF.up mF.refl (A_106 hw) u785 rfl) : mF [106070] w μ757 μ784) rfl), (RP.keep I765 hw ((mF.up mF.refl (A_106 hw) u785 rfl) : mF [106070] w μ757 μ784) rfl ((mG.upO mG.refl u785 rfl) : mG [] μ757 μ784) (fun _ h => absurd h List.not_mem_nil)), (EP.keep I766 hw ((mF.up mF.refl (A_106 hw) u785 rfl) : mF [106070] w μ757 μ784) rfl), (HP.keep I767 hw ((mF.up mF.refl (A_106 hw) u785 rfl) : mF [106070] w μ757 μ784) rfl ((mG.upO mG.refl u785 rfl) : mG [] μ757 μ784) (fun _ h => absurd h List.not_mem_nil)), (UPg.fr I768 hw T786 rfl ((mF.up mF.refl (A_106 hw) u785 rfl) : mF [106070] w μ757 μ784) rfl rfl rfl ((mG.upO mG.refl u785 rfl) : mG [] μ757 μ784) (fun _ h => absurd h List.not_mem_nil)), I787, (vc_X12_route_v_58 h464.2.1 h464.2.2.1 h470 h476.2.1 h476.2.2.1 h482 h487.2.1 h487.2.2.1 h493 h498.2.1 h498.2.2.1 h502 h763 h466 h478 h489 h500 h472 h774 h471 h483 h494 h503 h469 h481 h492 h501), (vc_X12_route_v_59 h464.2.1 h464.2.2.1 h470 h476.2.1 h476.2.2.1 h482 h487.2.1 h487.2.2.1 h493 h498.2.1 h498.2.2.1 h502 h763 h466 h478 h489 h500 h472 h774 h471 h483 h494 h503 h469 h481 h492 h501), trivial⟩
        have h788 : 0 ≤ z756 ∧ z756 ≤ 19 := (vc_X3_putAttributes_10 h783 h523 h759)
        have h789 : 1 ≤ z521 ∧ z521 ≤ 20 := (vc_X3_putAttributes_11 h783 h523 h788)
        refine sv_aload_n (pc := 100) dX12_route_100 rfl rfl ?_
        refine gf_X12_32 (pc := 101) dX12_route_101 wF_X12_148 (A_106 hw) T760 ?_
        refine mr_bipush (pc := 104) (z := 6) dX12_route_104 (by decide) ?_
        refine mr_iload (pc := 106) (z := z756) dX12_route_106 rfl ?_
        refine mr_iadd (pc := 108) (x := 6) (y := z756) dX12_route_108 ?_
        refine sv_aload_n (pc := 109) dX12_route_109 rfl rfl ?_
        refine gf_X12_16 (pc := 110) dX12_route_110 wF_X12_82 (A_106 hw) T760 ?_
        refine mr_iload (pc := 113) (z := z756) dX12_route_113 rfl ?_
        refine la_118 (pc := 115) dX12_route_115 (A_118 hw) T760 (rIx (n := 20) h788 rfl) fun z790 q791 h792 => ?_
        refine ss_126 (pc := 116) dX12_route_116 (A_126 hw) T760 (rIx (n := 84000) (rAdd (e := 6) (f := 25) (rR (x := 6)) h788 rfl) rfl) (vc_X12_route_v_62 h783 h789 h788 h792) fun μ793 u794 T795 => ?_
        have I796 : RP μ793 := RP.up I765 u794 (u794.f (Or.inl (mAt.ne (A_126 hw) (A_106 hw) rfl)) (F761.f (A_106 hw) rfl (u529.f (Or.inl (mAt.ne (A_126 hw) (A_106 hw) rfl)) (u525.f (Or.inl (mAt.ne (A_126 hw) (A_106 hw) rfl)) (u518.f (Or.inl (mAt.ne (A_126 hw) (A_106 hw) rfl)) (u514.f (Or.inl (mAt.ne (A_126 hw) (A_106 hw) rfl)) (u510.f (Or.inl (mAt.ne (A_126 hw) (A_106 hw) rfl)) (u505.f (Or.inl (mAt.ne (A_126 hw) (A_106 hw) rfl)) q_f_n)))))))) (vc_X12_route_v_63 h783 h789 h788) (vc_X12_route_v_64 h464.2.1 h464.2.2.1 h470 h783 h466 h763 h472 h774 h471 h469 h789 h788 h792)
        refine mr_iinc (pc := 117) (lv' := [(5, iv (z756 + 1)), (0, .ref 106)]) dX12_route_117 rfl (by decide) rfl ?_
        refine sv_goto (pc := 120) (tgt := 91) dX12_route_120 (by decide) ?_
        refine mr_lvS (lv' := [(0, .ref 106), (5, iv (z756 + 1))]) (List.forall_mem_cons.mpr ⟨rfl, List.forall_mem_cons.mpr ⟨rfl, fun _ h => absurd h List.not_mem_nil⟩⟩) ?_
        exact ih772 (z756 + 1) μ793 f_q T795 (mF.up (mF.call mF.refl F761 rfl) (A_126 hw) u794 rfl) (mG.up (mG.call mG.refl G762 (List.forall_mem_cons.mpr ⟨⟨_, List.mem_cons_self, vc_X12_route_v_57⟩, (fun _ h => absurd h List.not_mem_nil)⟩)) u794 List.mem_cons_self (vc_X12_route_v_68 h783 h789 h788)) (u794.f (Or.inr (vc_X12_route_v_65 h783 h789 h788)) q771) (rW (c := 0) (d := 20) (rAdd (e := 1) (f := 20) h788 (rR (x := 1)) rfl) rfl) (vc_X12_route_v_66 h464.2.1 h464.2.2.1 h470 h763 h466 h472 h774 h471 h469) (JC.keepJ I764 hw ((mF.up mF.refl (A_126 hw) u794 rfl) : mF [126999] w μ757 μ793) rfl) I796 (EP.keep I766 hw ((mF.up mF.refl (A_126 hw) u794 rfl) : mF [126999] w μ757 μ793) rfl) (HP.keep I767 hw ((mF.up mF.refl (A_126 hw) u794 rfl) : mF [126999] w μ757 μ793) rfl ((mG.up mG.refl u794 List.mem_cons_self (vc_X12_route_v_69 h783 h789 h788)) : mG [((6 + z756), ((6 + z756) + 1))] μ757 μ793) (List.forall_mem_cons.mpr ⟨(vc_X12_route_v_70 h783 h789 h788), (fun _ h => absurd h List.not_mem_nil)⟩)) (UPg.fr I768 hw T795 rfl ((mF.up mF.refl (A_126 hw) u794 rfl) : mF [126999] w μ757 μ793) rfl rfl rfl ((mG.up mG.refl u794 List.mem_cons_self (vc_X12_route_v_69 h783 h789 h788)) : mG [((6 + z756), ((6 + z756) + 1))] μ757 μ793) (List.forall_mem_cons.mpr ⟨(vc_X12_route_v_70 h783 h789 h788), (fun _ h => absurd h List.not_mem_nil)⟩)) (G1.keep I769 hw ((mF.up mF.refl (A_126 hw) u794 rfl) : mF [126999] w μ757 μ793) rfl rfl ((mG.up mG.refl u794 List.mem_cons_self (vc_X12_route_v_69 h783 h789 h788)) : mG [((6 + z756), ((6 + z756) + 1))] μ757 μ793) (List.forall_mem_cons.mpr ⟨(vc_X12_route_v_71 h783 h789 h788), (fun _ h => absurd h List.not_mem_nil)⟩)) (vc_X3_putAttributes_12 (nS h770) h783 h789 h788)
    refine mr_lvS (lv' := [(0, .ref 106), (5, iv 0)]) (List.forall_mem_cons.mpr ⟨rfl, List.forall_mem_cons.mpr ⟨rfl, fun _ h => absurd h List.not_mem_nil⟩⟩) ?_
    exact L758 22 0 μ528 p1 T530 mF.refl mG.refl (u529.f (Or.inr vc_X12_route_v_76) (u525.f (Or.inr vc_X12_route_v_75) (u518.f (Or.inr vc_X12_route_v_74) (u514.f (Or.inr vc_X12_route_v_73) (u510.f (Or.inr vc_X12_route_v_72) u505.1))))) (rW (c := 0) (d := 20) (rR (x := 0)) rfl) (vc_X12_route_v_77 h464.2.1 h464.2.2.1 h470 h466 h472 h471 h469) (JC.keepJ hIJC hw ((mF.up (mF.up (mF.up (mF.up (mF.up (mF.up mF.refl (A_126 hw) u505 rfl) (A_126 hw) u510 rfl) (A_126 hw) u514 rfl) (A_126 hw) u518 rfl) (A_126 hw) u525 rfl) (A_126 hw) u529 rfl) : mF [126999] w μ μ528) rfl) I531 (EP.keep hIEP hw ((mF.up (mF.up (mF.up (mF.up (mF.up (mF.up mF.refl (A_126 hw) u505 rfl) (A_126 hw) u510 rfl) (A_126 hw) u514 rfl) (A_126 hw) u518 rfl) (A_126 hw) u525 rfl) (A_126 hw) u529 rfl) : mF [126999] w μ μ528) rfl) (HP.keep hIHP hw ((mF.up (mF.up (mF.up (mF.up (mF.up (mF.up mF.refl (A_126 hw) u505 rfl) (A_126 hw) u510 rfl) (A_126 hw) u514 rfl) (A_126 hw) u518 rfl) (A_126 hw) u525 rfl) (A_126 hw) u529 rfl) : mF [126999] w μ μ528) rfl ((mG.up (mG.up (mG.up (mG.up (mG.up (mG.up mG.refl u505 List.mem_cons_self vc_X12_route_v_29) u510 (List.mem_cons_of_mem _ List.mem_cons_self) vc_X12_route_v_79) u514 (List.mem_cons_of_mem _ (List.mem_cons_of_mem _ List.mem_cons_self)) vc_X12_route_v_80) u518 (List.mem_cons_of_mem _ (List.mem_cons_of_mem _ (List.mem_cons_of_mem _ List.mem_cons_self))) vc_X12_route_v_81) u525 (List.mem_cons_of_mem _ (List.mem_cons_of_mem _ (List.mem_cons_of_mem _ (List.mem_cons_of_mem _ List.mem_cons_self)))) vc_X12_route_v_82) u529 (List.mem_cons_of_mem _ (List.mem_cons_of_mem _ (List.mem_cons_of_mem _ (List.mem_cons_of_mem _ (List.mem_cons_of_mem _ List.mem_cons_self))))) vc_X12_route_v_83) : mG [(0, (0 + 1)), (1, (1 + 1)), (2, (2 + 1)), (3, (3 + 1)), (4, (4 + 1)), (5, (5 + 1))] μ μ528) (List.forall_mem_cons.mpr ⟨vc_X12_route_v_89, (List.forall_mem_cons.mpr ⟨vc_X12_route_v_88, (List.forall_mem_cons.mpr ⟨vc_X12_route_v_87, (List.forall_mem_cons.mpr ⟨vc_X12_route_v_86, (List.forall_mem_cons.mpr ⟨vc_X12_route_v_85, (List.forall_mem_cons.mpr ⟨vc_X12_route_v_84, (fun _ h => absurd h List.not_mem_nil)⟩)⟩)⟩)⟩)⟩)⟩)) (UPg.fr hIUP hw T530 rfl ((mF.up (mF.up (mF.up (mF.up (mF.up (mF.up mF.refl (A_126 hw) u505 rfl) (A_126 hw) u510 rfl) (A_126 hw) u514 rfl) (A_126 hw) u518 rfl) (A_126 hw) u525 rfl) (A_126 hw) u529 rfl) : mF [126999] w μ μ528) rfl rfl rfl ((mG.up (mG.up (mG.up (mG.up (mG.up (mG.up mG.refl u505 List.mem_cons_self vc_X12_route_v_29) u510 (List.mem_cons_of_mem _ List.mem_cons_self) vc_X12_route_v_79) u514 (List.mem_cons_of_mem _ (List.mem_cons_of_mem _ List.mem_cons_self)) vc_X12_route_v_80) u518 (List.mem_cons_of_mem _ (List.mem_cons_of_mem _ (List.mem_cons_of_mem _ List.mem_cons_self))) vc_X12_route_v_81) u525 (List.mem_cons_of_mem _ (List.mem_cons_of_mem _ (List.mem_cons_of_mem _ (List.mem_cons_of_mem _ List.mem_cons_self)))) vc_X12_route_v_82) u529 (List.mem_cons_of_mem _ (List.mem_cons_of_mem _ (List.mem_cons_of_mem _ (List.mem_cons_of_mem _ (List.mem_cons_of_mem _ List.mem_cons_self))))) vc_X12_route_v_83) : mG [(0, (0 + 1)), (1, (1 + 1)), (2, (2 + 1)), (3, (3 + 1)), (4, (4 + 1)), (5, (5 + 1))] μ μ528) (List.forall_mem_cons.mpr ⟨vc_X12_route_v_89, (List.forall_mem_cons.mpr ⟨vc_X12_route_v_88, (List.forall_mem_cons.mpr ⟨vc_X12_route_v_87, (List.forall_mem_cons.mpr ⟨vc_X12_route_v_86, (List.forall_mem_cons.mpr ⟨vc_X12_route_v_85, (List.forall_mem_cons.mpr ⟨vc_X12_route_v_84, (fun _ h => absurd h List.not_mem_nil)⟩)⟩)⟩)⟩)⟩)⟩)) (G1.keep I508 hw ((mF.up (mF.up (mF.up (mF.up (mF.up mF.refl (A_126 hw) u510 rfl) (A_126 hw) u514 rfl) (A_126 hw) u518 rfl) (A_126 hw) u525 rfl) (A_126 hw) u529 rfl) : mF [126999] w μ504 μ528) rfl rfl ((mG.up (mG.up (mG.up (mG.up (mG.up mG.refl u510 List.mem_cons_self vc_X12_route_v_79) u514 (List.mem_cons_of_mem _ List.mem_cons_self) vc_X12_route_v_80) u518 (List.mem_cons_of_mem _ (List.mem_cons_of_mem _ List.mem_cons_self)) vc_X12_route_v_81) u525 (List.mem_cons_of_mem _ (List.mem_cons_of_mem _ (List.mem_cons_of_mem _ List.mem_cons_self))) vc_X12_route_v_82) u529 (List.mem_cons_of_mem _ (List.mem_cons_of_mem _ (List.mem_cons_of_mem _ (List.mem_cons_of_mem _ List.mem_cons_self)))) vc_X12_route_v_83) : mG [(1, (1 + 1)), (2, (2 + 1)), (3, (3 + 1)), (4, (4 + 1)), (5, (5 + 1))] μ504 μ528) (List.forall_mem_cons.mpr ⟨vc_X12_route_v_94, (List.forall_mem_cons.mpr ⟨vc_X12_route_v_93, (List.forall_mem_cons.mpr ⟨vc_X12_route_v_92, (List.forall_mem_cons.mpr ⟨vc_X12_route_v_91, (List.forall_mem_cons.mpr ⟨vc_X12_route_v_90, (fun _ h => absurd h List.not_mem_nil)⟩)⟩)⟩)⟩)⟩)) vc_X12_feed_15
  have h797 : 0 ≤ z499 ∧ z499 ≤ 0 := (vc_X12_route_v_95 h500 h498.2.1 h498.2.2.1 hp4 h498.1)
  have h798 : p4 < (0 : Int) ∨ (1000000 : Int) < p4 := (h498.2.2.1 (vc_X12_route_v_96 h498.2.1 h498.2.2.1 h500 hp4 h797))
  refine mr_iconst (pc := 40) (z := (-1)) dX12_route_40 ?_
  exact mr_iret dX12_route_41 rfl (le_t rfl) (le_t rfl) hT mF.refl ⟨(rW (c := (-2147483648)) (d := 2147483647) (rR (x := (-1))) rfl), mG.refl, hIJC, hIRP, hIEP, hIHP, hIUP, hIG1, (vc_X12_route_v_97 h464.2.1 h464.2.2.1 h470 h476.2.1 h476.2.2.1 h482 h487.2.1 h487.2.2.1 h493 h498.2.1 h498.2.2.1 h798 h466 h478 h489 h500 h472 h471 h483 h494 hp4 h469 h481 h492 h797), (vc_X12_route_v_98 h464.2.1 h464.2.2.1 h470 h476.2.1 h476.2.2.1 h482 h487.2.1 h487.2.2.1 h493 h498.2.1 h498.2.2.1 h798 h466 h478 h489 h500 h472 h471 h483 h494 hp4 h469 h481 h492 h797), trivial⟩
