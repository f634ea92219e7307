theorem vc_X10_maskOf_v_1 {p1 : Int} (h0 : ¬ p1 = 0) (h1 : 0 ≤ p1 ∧ p1 ≤ 32) : 1 ≤ p1 ∧ p1 ≤ 32 := by omega
theorem vc_X10_maskOf_v_2 {p1 : Int} (h0 : ¬ p1 = 0) (h1 : 1 ≤ p1 ∧ p1 ≤ 32) : ¬ p1 = 0 := by omega
theorem vc_X10_maskOf_v_3 {p1 : Int} (h0 : p1 = 0) (h1 : 0 ≤ p1 ∧ p1 ≤ 32) : 0 ≤ p1 ∧ p1 ≤ 0 := by omega
set_option maxRecDepth 4000 in
set_option maxHeartbeats 4000000 in
theorem c_X10_maskOf_v {l : Launch} {D : va_G} {c : Nat → ClassId} {H0 : Heap} {sa : Nat × Nat × (Nat → Int32)} {w : mW} {μ : mM} (hw : mWF w) (hT : mT w μ) {p1 : Int} (hp1 : 0 ≤ p1 ∧ p1 ≤ 32) : sC (gG l D c H0 sa) mX10_maskOf 1 0 0 [iv p1] (mk w μ) (qP w μ (fun z => ((-2147483648) ≤ z ∧ z ≤ 2147483647) ∧ (z = mskF p1) ∧ True)) := by
  refine sC.of rfl (by decide) (le_t rfl) ?_
  refine mr_lvE (lv' := [(0, iv p1)]) rfl ?_
  refine mr_iload_n (pc := 0) (z := p1) dX10_maskOf_0 rfl rfl ?_
  refine mr_if_ne (pc := 1) (tgt := 8) dX10_maskOf_1 (by decide) (r32 hp1 rfl) (fun h1 => ?_) (fun h1 => ?_)
  · have h2 : 1 ≤ p1 ∧ p1 ≤ 32 := (vc_X10_maskOf_v_1 h1 hp1)
    refine mr_iconst (pc := 8) (z := (-1)) dX10_maskOf_8 ?_
    refine mr_bipush (pc := 9) (z := 32) dX10_maskOf_9 (by decide) ?_
    refine mr_iload_n (pc := 11) (z := p1) dX10_maskOf_11 rfl rfl ?_
    refine mr_isub (pc := 12) (x := 32) (y := p1) dX10_maskOf_12 ?_
    refine mr_ishl (pc := 13) (x := (-1)) (y := (32 - p1)) dX10_maskOf_13 ?_
    refine mr_gen (P := fun z => (-2147483648) ≤ z ∧ z ≤ 2147483647) (r32i _) fun z3 q4 h5 => ?_
    exact mr_iretP dX10_maskOf_14 rfl (le_t rfl) (le_t rfl) ⟨h5, (mskF.pos (vc_X10_maskOf_v_2 h1 h2) q4), trivial⟩
  have h6 : 0 ≤ p1 ∧ p1 ≤ 0 := (vc_X10_maskOf_v_3 h1 hp1)
  refine mr_iconst (pc := 4) (z := 0) dX10_maskOf_4 ?_
  refine sv_goto (pc := 5) (tgt := 14) dX10_maskOf_5 (by decide) ?_
  exact mr_iretP dX10_maskOf_14 rfl (le_t rfl) (le_t rfl) ⟨(rW (c := (-2147483648)) (d := 2147483647) (rR (x := 0)) rfl), (mskF.zero (vc_X12_goes_7 h1 h6)), trivial⟩
set_option maxRecDepth 4000 in
set_option maxHeartbeats 4000000 in
theorem c_X12_mask_v {l : Launch} {D : va_G} {c : Nat → ClassId} {H0 : Heap} {sa : Nat × Nat × (Nat → Int32)} {w : mW} {μ : mM} (hw : mWF w) (hT : mT w μ) {p1 : Int} (hp1 : 0 ≤ p1 ∧ p1 ≤ 32) : sC (gG l D c H0 sa) mX12_mask 1 0 0 [iv p1] (mk w μ) (qP w μ (fun z => ((-2147483648) ≤ z ∧ z ≤ 2147483647) ∧ (z = mskF p1) ∧ True)) := by
  refine sC.of rfl (by decide) (le_t rfl) ?_
  refine mr_lvE (lv' := [(0, iv p1)]) rfl ?_
  refine mr_iload_n (pc := 0) (z := p1) dX12_mask_0 rfl rfl ?_
  refine mr_if_ne (pc := 1) (tgt := 8) dX12_mask_1 (by decide) (r32 hp1 rfl) (fun h1 => ?_) (fun h1 => ?_)
  · have h2 : 1 ≤ p1 ∧ p1 ≤ 32 := (vc_X10_maskOf_v_1 h1 hp1)
    refine mr_iconst (pc := 8) (z := (-1)) dX12_mask_8 ?_
    refine mr_bipush (pc := 9) (z := 32) dX12_mask_9 (by decide) ?_
    refine mr_iload_n (pc := 11) (z := p1) dX12_mask_11 rfl rfl ?_
    refine mr_isub (pc := 12) (x := 32) (y := p1) dX12_mask_12 ?_
    refine mr_ishl (pc := 13) (x := (-1)) (y := (32 - p1)) dX12_mask_13 ?_
    refine mr_gen (P := fun z => (-2147483648) ≤ z ∧ z ≤ 2147483647) (r32i _) fun z3 q4 h5 => ?_
    exact mr_iretP dX12_mask_14 rfl (le_t rfl) (le_t rfl) ⟨h5, (mskF.pos (vc_X10_maskOf_v_2 h1 h2) q4), trivial⟩
  have h6 : 0 ≤ p1 ∧ p1 ≤ 0 := (vc_X10_maskOf_v_3 h1 hp1)
  refine mr_iconst (pc := 4) (z := 0) dX12_mask_4 ?_
  refine sv_goto (pc := 5) (tgt := 14) dX12_mask_5 (by decide) ?_
  exact mr_iretP dX12_mask_14 rfl (le_t rfl) (le_t rfl) ⟨(rW (c := (-2147483648)) (d := 2147483647) (rR (x := 0)) rfl), (mskF.zero (vc_X12_goes_7 h1 h6)), trivial⟩
theorem vc_X10_findPrefix_v_2  : ¬ (0 : Int) ≤ (((-1) : Int) : Int) := by omega
theorem vc_X10_findPrefix_v_7 {f_n z161 : Int} (h0 : z161 < f_n) (h1 : 1 ≤ f_n ∧ f_n ≤ 10) (h2 : 0 ≤ z161 ∧ z161 ≤ 9) : 0 ≤ z161 := by omega
theorem vc_X10_findPrefix_v_8 {p1 z173 : Int} (h0 : ¬ z173 = p1) (h1 : (-2147483648) ≤ p1 ∧ p1 ≤ 2147483647) (h2 : (-2147483648) ≤ z173 ∧ z173 ≤ 2147483647) : ¬ z173 = p1 := by omega
theorem vc_X10_findPrefix_v_9 {p2 z177 : Int} (h0 : ¬ z177 = p2) (h1 : (-2147483648) ≤ p2 ∧ p2 ≤ 2147483647) (h2 : 0 ≤ z177 ∧ z177 ≤ 32) : ¬ z177 = p2 := by omega
theorem vc_X10_findPrefix_v_11 {f_n z161 : Int} (h0 : z161 < f_n) (h1 : 1 ≤ f_n ∧ f_n ≤ 10) (h2 : 0 ≤ z161 ∧ z161 ≤ 9) : 0 ≤ z161 ∧ z161 < f_n := by omega
theorem vc_X10_findPrefix_v_12 {p1 z173 : Int} (h0 : z173 = p1) (h1 : (-2147483648) ≤ p1 ∧ p1 ≤ 2147483647) (h2 : (-2147483648) ≤ z173 ∧ z173 ≤ 2147483647) : z173 = p1 := by omega
theorem vc_X10_findPrefix_v_13 {p2 z177 : Int} (h0 : z177 = p2) (h1 : 0 ≤ p2 ∧ p2 ≤ 32) (h2 : 0 ≤ z177 ∧ z177 ≤ 32) : z177 = p2 := by omega
theorem vc_X10_findPrefix_v_14 {f_n z161 : Int} (h0 : z161 < f_n) (h1 : 1 ≤ f_n ∧ f_n ≤ 10) (h2 : 0 ≤ z161 ∧ z161 ≤ 9) : ¬ z161 < 0 := by omega
theorem vc_X10_findPrefix_v_16  : ((0 : Int) : Int) ≤ (0 : Int) := by omega
set_option maxRecDepth 4000 in
set_option maxHeartbeats 4000000 in
theorem c_X10_findPrefix_v {l : Launch} {D : va_G} {c : Nat → ClassId} {H0 : Heap} {sa : Nat × Nat × (Nat → Int32)} {w : mW} {μ : mM} (hw : mWF w) (hT : mT w μ) {p1 : Int} (hp1 : (-2147483648) ≤ p1 ∧ p1 ≤ 2147483647) {p2 : Int} (hp2 : (-2147483648) ≤ p2 ∧ p2 ≤ 2147483647) {f_n : Int} (q_f_n : μ 6 14 = f_n) : sC (gG l D c H0 sa) mX10_findPrefix 1 0 0 [.ref 6, iv p1, iv p2] (mk w μ) (qP w μ (fun z => ((-1) ≤ z ∧ z ≤ 9) ∧ (0 ≤ z → hasP μ 7 8 f_n p1 p2) ∧ (z < 0 → ¬ hasP μ 7 8 f_n p1 p2) ∧ True)) := by
  refine sC.of rfl (by decide) (le_t rfl) ?_
  have ht_f_n : (0 ≤ f_n ∧ f_n ≤ 10) := by rw [← q_f_n]; exact hT 6 6 (A_6 hw) 14
  refine mr_lvE (lv' := [(0, .ref 6), (1, iv p1), (2, iv p2)]) rfl ?_
  refine mr_iconst (pc := 0) (z := 0) dX10_findPrefix_0 ?_
  refine mr_istore_n (pc := 1) (lv' := [(3, iv 0), (0, .ref 6), (1, iv p1), (2, iv p2)]) dX10_findPrefix_1 rfl (by decide) rfl ?_
  have L162 : ∀ (nL162 : Nat) (z161 : Int), True → (0 ≤ z161 ∧ z161 ≤ 10) → noneP μ 7 8 z161 p1 p2 → (11 - z161) < (nL162 : Int) → sV (gG l D c H0 sa) mX10_findPrefix (sRm 1 0 0) (sZ (gG l D c H0 sa) 0 0 (qP w μ (fun z => ((-1) ≤ z ∧ z ≤ 9) ∧ (0 ≤ z → hasP μ 7 8 f_n p1 p2) ∧ (z < 0 → ¬ hasP μ 7 8 f_n p1 p2) ∧ True))) 2 [(0, .ref 6), (1, iv p1), (2, iv p2), (3, iv z161)] [] (mk w μ) 0 0 := by
    intro nL162
    induction nL162 with
    | zero => intro z161 _ h163 R167 h168; exact ((vc_X12_ring_2 h168 h163)).elim
    | succ nL162 ih169 =>
      intro z161 _ h163 R167 h168
      refine mr_iload_n (pc := 2) (z := z161) dX10_findPrefix_2 rfl rfl ?_
      refine sv_aload_n (pc := 3) dX10_findPrefix_3 rfl rfl ?_
      refine gk_X10_14 (pc := 4) dX10_findPrefix_4 wF_X10_60 (A_6 hw) q_f_n ?_
      refine mr_icmp_ge (pc := 7) (tgt := 38) dX10_findPrefix_7 (by decide) (r32 h163 rfl) (r32 ht_f_n rfl) (fun h170 => ?_) (fun h170 => ?_)
      · refine mr_iconst (pc := 38) (z := (-1)) dX10_findPrefix_38 ?_
        exact mr_iretP dX10_findPrefix_39 rfl (le_t rfl) (le_t rfl) ⟨(rW (c := (-1)) (d := 9) (rR (x := (-1))) rfl), (fun h => absurd h vc_X10_findPrefix_v_2), (fun _ => noneP.no R167 (vc_X12_lookAll_u_5 h170 ht_f_n h163)), trivial⟩
      have h171 : 0 ≤ z161 ∧ z161 ≤ 9 := (vc_X12_lookAll_u_6 h170 ht_f_n h163)
      have h172 : 1 ≤ f_n ∧ f_n ≤ 10 := (vc_X12_say_u_2 h170 ht_f_n h171)
      refine sv_aload_n (pc := 10) dX10_findPrefix_10 rfl rfl ?_
      refine gf_X10_0 (pc := 11) dX10_findPrefix_11 wF_X10_9 (A_6 hw) hT ?_
      refine mr_iload_n (pc := 14) (z := z161) dX10_findPrefix_14 rfl rfl ?_
      refine la_7 (pc := 15) dX10_findPrefix_15 (A_7 hw) hT (rIx (n := 10) h171 rfl) fun z173 q174 h175 => ?_
      refine mr_iload_n (pc := 16) (z := p1) dX10_findPrefix_16 rfl rfl ?_
      refine mr_icmp_ne (pc := 17) (tgt := 32) dX10_findPrefix_17 (by decide) h175 hp1 (fun h176 => ?_) (fun h176 => ?_)
      · refine mr_iinc (pc := 32) (lv' := [(3, iv (z161 + 1)), (0, .ref 6), (1, iv p1), (2, iv p2)]) dX10_findPrefix_32 rfl (by decide) rfl ?_
        refine sv_goto (pc := 35) (tgt := 2) dX10_findPrefix_35 (by decide) ?_
        refine mr_lvS (lv' := [(0, .ref 6), (1, iv p1), (2, iv p2), (3, iv (z161 + 1))]) (List.forall_mem_cons.mpr ⟨rfl, List.forall_mem_cons.mpr ⟨rfl, List.forall_mem_cons.mpr ⟨rfl, List.forall_mem_cons.mpr ⟨rfl, fun _ h => absurd h List.not_mem_nil⟩⟩⟩⟩) ?_
        exact ih169 (z161 + 1) trivial (rW (c := 0) (d := 10) (rAdd (e := 1) (f := 10) h171 (rR (x := 1)) rfl) rfl) (noneP.succ (v := 0) R167 (vc_X10_findPrefix_v_7 h170 h172 h171) q174 (vc_X10_findPrefix_v_8 h176 hp1 h175)) (vc_X12_lookAll_u_9 (nS h168) h170 h172 h171)
      refine sv_aload_n (pc := 20) dX10_findPrefix_20 rfl rfl ?_
      refine gf_X10_1 (pc := 21) dX10_findPrefix_21 wF_X10_15 (A_6 hw) hT ?_
      refine mr_iload_n (pc := 24) (z := z161) dX10_findPrefix_24 rfl rfl ?_
      refine la_8 (pc := 25) dX10_findPrefix_25 (A_8 hw) hT (rIx (n := 10) h171 rfl) fun z177 q178 h179 => ?_
      refine mr_iload_n (pc := 26) (z := p2) dX10_findPrefix_26 rfl rfl ?_
      refine mr_icmp_ne (pc := 27) (tgt := 32) dX10_findPrefix_27 (by decide) (r32 h179 rfl) hp2 (fun h180 => ?_) (fun h180 => ?_)
      · refine mr_iinc (pc := 32) (lv' := [(3, iv (z161 + 1)), (0, .ref 6), (1, iv p1), (2, iv p2)]) dX10_findPrefix_32 rfl (by decide) rfl ?_
        refine sv_goto (pc := 35) (tgt := 2) dX10_findPrefix_35 (by decide) ?_
        refine mr_lvS (lv' := [(0, .ref 6), (1, iv p1), (2, iv p2), (3, iv (z161 + 1))]) (List.forall_mem_cons.mpr ⟨rfl, List.forall_mem_cons.mpr ⟨rfl, List.forall_mem_cons.mpr ⟨rfl, List.forall_mem_cons.mpr ⟨rfl, fun _ h => absurd h List.not_mem_nil⟩⟩⟩⟩) ?_
        exact ih169 (z161 + 1) trivial (rW (c := 0) (d := 10) (rAdd (e := 1) (f := 10) h171 (rR (x := 1)) rfl) rfl) (noneP.succ2 (u := 0) R167 (vc_X10_findPrefix_v_7 h170 h172 h171) q178 (vc_X10_findPrefix_v_9 h180 hp2 h179)) (vc_X12_lookAll_u_9 (nS h168) h170 h172 h171)
      have h181 : 0 ≤ p2 ∧ p2 ≤ 32 := (vc_X10_findPrefix_5 h180 hp2 h179)
      refine mr_iload_n (pc := 30) (z := z161) dX10_findPrefix_30 rfl rfl ?_
      exact mr_iretP dX10_findPrefix_31 rfl (le_t rfl) (le_t rfl) ⟨(rW (c := (-1)) (d := 9) h171 rfl), (fun _ => hasP.of (vc_X10_findPrefix_v_11 h170 h172 h171) q174 q178 (vc_X10_findPrefix_v_12 h176 hp1 h175) (vc_X10_findPrefix_v_13 h180 h181 h179)), (fun h => absurd h (vc_X10_findPrefix_v_14 h170 h172 h171)), trivial⟩
  refine mr_lvS (lv' := [(0, .ref 6), (1, iv p1), (2, iv p2), (3, iv 0)]) (List.forall_mem_cons.mpr ⟨rfl, List.forall_mem_cons.mpr ⟨rfl, List.forall_mem_cons.mpr ⟨rfl, List.forall_mem_cons.mpr ⟨rfl, fun _ h => absurd h List.not_mem_nil⟩⟩⟩⟩) ?_
  exact L162 12 0 trivial (rW (c := 0) (d := 10) (rR (x := 0)) rfl) (noneP.zero vc_X10_findPrefix_v_16) vc_X12_ring_27
theorem vc_X12_prefixOf_v_3  : ¬ (0 : Int) ≤ (((-99999999) : Int) : Int) := by omega
set_option maxRecDepth 4000 in
set_option maxHeartbeats 4000000 in
theorem c_X12_prefixOf_v {l : Launch} {D : va_G} {c : Nat → ClassId} {H0 : Heap} {sa : Nat × Nat × (Nat → Int32)} {w : mW} {μ : mM} (hw : mWF w) (hT : mT w μ) {p1 : Int} (hp1 : (-2147483648) ≤ p1 ∧ p1 ≤ 2147483647) {p2 : Int} (hp2 : (-2147483648) ≤ p2 ∧ p2 ≤ 2147483647) {f_n : Int} (q_f_n : μ 106 2 = f_n) : sC (gG l D c H0 sa) mX12_prefixOf 1 0 0 [.ref 106, iv p1, iv p2] (mk w μ) (qP w μ (fun z => ((-99999999) ≤ z ∧ z ≤ 9) ∧ (z = -99999999 ∨ (0 ≤ z ∧ z ≤ 9)) ∧ (0 ≤ z → hasP μ 108 109 f_n p1 p2) ∧ (z < 0 → ¬ hasP μ 108 109 f_n p1 p2) ∧ True)) := by
  refine sC.of rfl (by decide) (le_t rfl) ?_
  have ht_f_n : (0 ≤ f_n ∧ f_n ≤ 10) := by rw [← q_f_n]; exact hT 106 106 (A_106 hw) 2
  refine mr_lvE (lv' := [(0, .ref 106), (1, iv p1), (2, iv p2)]) rfl ?_
  refine mr_iconst (pc := 0) (z := 0) dX12_prefixOf_0 ?_
  refine mr_istore_n (pc := 1) (lv' := [(3, iv 0), (0, .ref 106), (1, iv p1), (2, iv p2)]) dX12_prefixOf_1 rfl (by decide) rfl ?_
  have L162 : ∀ (nL162 : Nat) (z161 : Int), True → (0 ≤ z161 ∧ z161 ≤ 10) → noneP μ 108 109 z161 p1 p2 → (11 - z161) < (nL162 : Int) → sV (gG l D c H0 sa) mX12_prefixOf (sRm 1 0 0) (sZ (gG l D c H0 sa) 0 0 (qP w μ (fun z => ((-99999999) ≤ z ∧ z ≤ 9) ∧ (z = -99999999 ∨ (0 ≤ z ∧ z ≤ 9)) ∧ (0 ≤ z → hasP μ 108 109 f_n p1 p2) ∧ (z < 0 → ¬ hasP μ 108 109 f_n p1 p2) ∧ True))) 2 [(0, .ref 106), (1, iv p1), (2, iv p2), (3, iv z161)] [] (mk w μ) 0 0 := by
    intro nL162
    induction nL162 with
    | zero => intro z161 _ h163 R167 h168; exact ((vc_X12_ring_2 h168 h163)).elim
    | succ nL162 ih169 =>
      intro z161 _ h163 R167 h168
      refine mr_iload_n (pc := 2) (z := z161) dX12_prefixOf_2 rfl rfl ?_
      refine sv_aload_n (pc := 3) dX12_prefixOf_3 rfl rfl ?_
      refine gk_X12_2 (pc := 4) dX12_prefixOf_4 wF_X12_15 (A_106 hw) q_f_n ?_
      refine mr_icmp_ge (pc := 7) (tgt := 38) dX12_prefixOf_7 (by decide) (r32 h163 rfl) (r32 ht_f_n rfl) (fun h170 => ?_) (fun h170 => ?_)
      · refine mr_ldc (pc := 38) (z := (-99999999)) dX12_prefixOf_38 wG_X12_29 (by decide) ?_
        exact mr_iretP dX12_prefixOf_40 rfl (le_t rfl) (le_t rfl) ⟨(rW (c := (-99999999)) (d := 9) (rR (x := (-99999999))) rfl), vc_X12_prefixOf_u_2, (fun h => absurd h vc_X12_prefixOf_v_3), (fun _ => noneP.no R167 (vc_X12_lookAll_u_5 h170 ht_f_n h163)), trivial⟩
      have h171 : 0 ≤ z161 ∧ z161 ≤ 9 := (vc_X12_lookAll_u_6 h170 ht_f_n h163)
      have h172 : 1 ≤ f_n ∧ f_n ≤ 10 := (vc_X12_say_u_2 h170 ht_f_n h171)
      refine sv_aload_n (pc := 10) dX12_prefixOf_10 rfl rfl ?_
      refine gf_X12_3 (pc := 11) dX12_prefixOf_11 wF_X12_22 (A_106 hw) hT ?_
      refine mr_iload_n (pc := 14) (z := z161) dX12_prefixOf_14 rfl rfl ?_
      refine la_108 (pc := 15) dX12_prefixOf_15 (A_108 hw) hT (rIx (n := 10) h171 rfl) fun z173 q174 h175 => ?_
      refine mr_iload_n (pc := 16) (z := p1) dX12_prefixOf_16 rfl rfl ?_
      refine mr_icmp_ne (pc := 17) (tgt := 32) dX12_prefixOf_17 (by decide) h175 hp1 (fun h176 => ?_) (fun h176 => ?_)
      · refine mr_iinc (pc := 32) (lv' := [(3, iv (z161 + 1)), (0, .ref 106), (1, iv p1), (2, iv p2)]) dX12_prefixOf_32 rfl (by decide) rfl ?_
        refine sv_goto (pc := 35) (tgt := 2) dX12_prefixOf_35 (by decide) ?_
        refine mr_lvS (lv' := [(0, .ref 106), (1, iv p1), (2, iv p2), (3, iv (z161 + 1))]) (List.forall_mem_cons.mpr ⟨rfl, List.forall_mem_cons.mpr ⟨rfl, List.forall_mem_cons.mpr ⟨rfl, List.forall_mem_cons.mpr ⟨rfl, fun _ h => absurd h List.not_mem_nil⟩⟩⟩⟩) ?_
        exact ih169 (z161 + 1) trivial (rW (c := 0) (d := 10) (rAdd (e := 1) (f := 10) h171 (rR (x := 1)) rfl) rfl) (noneP.succ (v := 0) R167 (vc_X10_findPrefix_v_7 h170 h172 h171) q174 (vc_X10_findPrefix_v_8 h176 hp1 h175)) (vc_X12_lookAll_u_9 (nS h168) h170 h172 h171)
      refine sv_aload_n (pc := 20) dX12_prefixOf_20 rfl rfl ?_
      refine gf_X12_4 (pc := 21) dX12_prefixOf_21 wF_X12_26 (A_106 hw) hT ?_
      refine mr_iload_n (pc := 24) (z := z161) dX12_prefixOf_24 rfl rfl ?_
      refine la_109 (pc := 25) dX12_prefixOf_25 (A_109 hw) hT (rIx (n := 10) h171 rfl) fun z177 q178 h179 => ?_
      refine mr_iload_n (pc := 26) (z := p2) dX12_prefixOf_26 rfl rfl ?_
      refine mr_icmp_ne (pc := 27) (tgt := 32) dX12_prefixOf_27 (by decide) (r32 h179 rfl) hp2 (fun h180 => ?_) (fun h180 => ?_)
      · refine mr_iinc (pc := 32) (lv' := [(3, iv (z161 + 1)), (0, .ref 106), (1, iv p1), (2, iv p2)]) dX12_prefixOf_32 rfl (by decide) rfl ?_
        refine sv_goto (pc := 35) (tgt := 2) dX12_prefixOf_35 (by decide) ?_
        refine mr_lvS (lv' := [(0, .ref 106), (1, iv p1), (2, iv p2), (3, iv (z161 + 1))]) (List.forall_mem_cons.mpr ⟨rfl, List.forall_mem_cons.mpr ⟨rfl, List.forall_mem_cons.mpr ⟨rfl, List.forall_mem_cons.mpr ⟨rfl, fun _ h => absurd h List.not_mem_nil⟩⟩⟩⟩) ?_
        exact ih169 (z161 + 1) trivial (rW (c := 0) (d := 10) (rAdd (e := 1) (f := 10) h171 (rR (x := 1)) rfl) rfl) (noneP.succ2 (u := 0) R167 (vc_X10_findPrefix_v_7 h170 h172 h171) q178 (vc_X10_findPrefix_v_9 h180 hp2 h179)) (vc_X12_lookAll_u_9 (nS h168) h170 h172 h171)
      have h181 : 0 ≤ p2 ∧ p2 ≤ 32 := (vc_X10_findPrefix_5 h180 hp2 h179)
      refine mr_iload_n (pc := 30) (z := z161) dX12_prefixOf_30 rfl rfl ?_
      exact mr_iretP dX12_prefixOf_31 rfl (le_t rfl) (le_t rfl) ⟨(rW (c := (-99999999)) (d := 9) h171 rfl), (vc_X12_prefixOf_u_8 h170 h172 h171), (fun _ => hasP.of (vc_X10_findPrefix_v_11 h170 h172 h171) q174 q178 (vc_X10_findPrefix_v_12 h176 hp1 h175) (vc_X10_findPrefix_v_13 h180 h181 h179)), (fun h => absurd h (vc_X10_findPrefix_v_14 h170 h172 h171)), trivial⟩
  refine mr_lvS (lv' := [(0, .ref 106), (1, iv p1), (2, iv p2), (3, iv 0)]) (List.forall_mem_cons.mpr ⟨rfl, List.forall_mem_cons.mpr ⟨rfl, List.forall_mem_cons.mpr ⟨rfl, List.forall_mem_cons.mpr ⟨rfl, fun _ h => absurd h List.not_mem_nil⟩⟩⟩⟩) ?_
  exact L162 12 0 trivial (rW (c := 0) (d := 10) (rR (x := 0)) rfl) (noneP.zero vc_X10_findPrefix_v_16) vc_X12_ring_27
theorem vc_X10_addPrefix_v_1 {f_p : Int} (h0 : f_p ≤ 9) (h1 : 0 ≤ f_p ∧ f_p ≤ 10) : 0 ≤ f_p ∧ f_p ≤ 9 := by omega
theorem vc_X10_addPrefix_v_2 {f_p : Int} (h0 : f_p ≤ 9) (h1 : 0 ≤ f_p ∧ f_p ≤ 9) : ((f_p + 1) - 1) = f_p := by omega
theorem vc_X10_addPrefix_v_3 {f_p : Int} (h0 : f_p ≤ 9) (h1 : 0 ≤ f_p ∧ f_p ≤ 9) : (f_p + 1) = f_p + 1 := by omega
set_option maxRecDepth 4000 in
set_option maxHeartbeats 4000000 in
theorem c_X10_addPrefix_v {l : Launch} {D : va_G} {c : Nat → ClassId} {H0 : Heap} {sa : Nat × Nat × (Nat → Int32)} {w : mW} {μ : mM} (hw : mWF w) (hT : mT w μ) {p1 : Int} (hp1 : (-2147483648) ≤ p1 ∧ p1 ≤ 2147483647) {p2 : Int} (hp2 : 0 ≤ p2 ∧ p2 ≤ 32) {f_p : Int} (q_f_p : μ 6 14 = f_p) (hq0 : f_p ≤ 9) : sC (gG l D c H0 sa) mX10_addPrefix 2 0 0 [.ref 6, iv p1, iv p2] (mk w μ) (qI w [6014, 7999, 8999, 9999] μ (fun z μ1 => ∃ o_n : Int, μ1 6 14 = o_n ∧ ((-2147483648) ≤ z ∧ z ≤ 2147483647) ∧ (z = f_p) ∧ (o_n = f_p + 1) ∧ (adT μ μ1 7 8 f_p p1 p2) ∧ True)) := by
  refine sC.of rfl (by decide) (le_t rfl) ?_
  have ht_f_p : (0 ≤ f_p ∧ f_p ≤ 10) := by rw [← q_f_p]; exact hT 6 6 (A_6 hw) 14
  have h1 : 0 ≤ f_p ∧ f_p ≤ 9 := (vc_X10_addPrefix_v_1 hq0 ht_f_p)
  refine mr_lvE (lv' := [(0, .ref 6), (1, iv p1), (2, iv p2)]) rfl ?_
  refine sv_aload_n (pc := 0) dX10_addPrefix_0 rfl rfl ?_
  refine gf_X10_0 (pc := 1) dX10_addPrefix_1 wF_X10_9 (A_6 hw) hT ?_
  refine sv_aload_n (pc := 4) dX10_addPrefix_4 rfl rfl ?_
  refine gk_X10_14 (pc := 5) dX10_addPrefix_5 wF_X10_60 (A_6 hw) q_f_p ?_
  refine mr_iload_n (pc := 8) (z := p1) dX10_addPrefix_8 rfl rfl ?_
  refine ss_7 (pc := 9) dX10_addPrefix_9 (A_7 hw) hT (rIx (n := 10) h1 rfl) hp1 fun μ53 u54 T55 => ?_
  refine sv_aload_n (pc := 10) dX10_addPrefix_10 rfl rfl ?_
  refine gf_X10_1 (pc := 11) dX10_addPrefix_11 wF_X10_15 (A_6 hw) T55 ?_
  refine sv_aload_n (pc := 14) dX10_addPrefix_14 rfl rfl ?_
  refine gk_X10_14 (pc := 15) dX10_addPrefix_15 wF_X10_60 (A_6 hw) (u54.f (Or.inl (mAt.ne (A_7 hw) (A_6 hw) rfl)) q_f_p) ?_
  refine mr_iload_n (pc := 18) (z := p2) dX10_addPrefix_18 rfl rfl ?_
  refine ss_8 (pc := 19) dX10_addPrefix_19 (A_8 hw) T55 (rIx (n := 10) h1 rfl) hp2 fun μ56 u57 T58 => ?_
  refine sv_aload_n (pc := 20) dX10_addPrefix_20 rfl rfl ?_
  refine gf_X10_2 (pc := 21) dX10_addPrefix_21 wF_X10_18 (A_6 hw) T58 ?_
  refine sv_aload_n (pc := 24) dX10_addPrefix_24 rfl rfl ?_
  refine gk_X10_14 (pc := 25) dX10_addPrefix_25 wF_X10_60 (A_6 hw) (u57.f (Or.inl (mAt.ne (A_8 hw) (A_6 hw) rfl)) (u54.f (Or.inl (mAt.ne (A_7 hw) (A_6 hw) rfl)) q_f_p)) ?_
  refine mr_iload_n (pc := 28) (z := p2) dX10_addPrefix_28 rfl rfl ?_
  refine mr_cSP (pc := 29) (c_X10_maskOf hw T58 (rW (c := (-2147483648)) (d := 2147483647) hp2 rfl)) (gOk _ _ _ _ _) dX10_addPrefix_29 (tX10_maskOf _ _ _ _ _) wS_X10_maskOf wM_X10_64 ⟨le_t rfl, le_t rfl⟩ ⟨le_t rfl, le_t rfl⟩ rfl (le_t rfl) fun z63 h62 => ?_
  refine ss_9 (pc := 32) dX10_addPrefix_32 (A_9 hw) T58 (rIx (n := 10) h1 rfl) h62.1 fun μ64 u65 T66 => ?_
  refine sv_aload_n (pc := 33) dX10_addPrefix_33 rfl rfl ?_
  refine sv_dup (pc := 34) dX10_addPrefix_34 rfl ?_
  refine gk_X10_14 (pc := 35) dX10_addPrefix_35 wF_X10_60 (A_6 hw) (u65.f (Or.inl (mAt.ne (A_9 hw) (A_6 hw) rfl)) (u57.f (Or.inl (mAt.ne (A_8 hw) (A_6 hw) rfl)) (u54.f (Or.inl (mAt.ne (A_7 hw) (A_6 hw) rfl)) q_f_p))) ?_
  refine mr_iconst (pc := 38) (z := 1) dX10_addPrefix_38 ?_
  refine mr_iadd (pc := 39) (x := f_p) (y := 1) dX10_addPrefix_39 ?_
  refine pf_X10_14 (pc := 40) dX10_addPrefix_40 wF_X10_60 (A_6 hw) T66 (rW (c := 0) (d := 10) (rAdd (e := 1) (f := 10) h1 (rR (x := 1)) rfl) rfl) fun μ67 u68 T69 => ?_
  refine sv_aload_n (pc := 43) dX10_addPrefix_43 rfl rfl ?_
  refine gk_X10_14 (pc := 44) dX10_addPrefix_44 wF_X10_60 (A_6 hw) u68.1 ?_
  refine mr_iconst (pc := 47) (z := 1) dX10_addPrefix_47 ?_
  refine mr_isub (pc := 48) (x := (f_p + 1)) (y := 1) dX10_addPrefix_48 ?_
  exact mr_iret dX10_addPrefix_49 rfl (le_t rfl) (le_t rfl) T69 (mF.up (mF.up (mF.up (mF.up mF.refl (A_7 hw) u54 rfl) (A_8 hw) u57 rfl) (A_9 hw) u65 rfl) (A_6 hw) u68 rfl) ⟨(f_p + 1), u68.1, (rW (c := (-2147483648)) (d := 2147483647) (rSub (e := 0) (f := 9) (rAdd (e := 1) (f := 10) h1 (rR (x := 1)) rfl) (rR (x := 1)) rfl) rfl), (vc_X10_addPrefix_v_2 hq0 h1), (vc_X10_addPrefix_v_3 hq0 h1), (adT.oth (adT.oth (adT.two u54 u57 (by decide)) u65 (by decide) (by decide)) u68 (by decide) (by decide)), trivial⟩
theorem vc_X11_prefix_v_2 {p2 : Int} (h0 : p2 < 0) (h1 : (-2147483648) ≤ p2 ∧ p2 ≤ (-1)) : p2 < 0 ∨ 32 < p2 := by omega
theorem vc_X11_prefix_v_5 {p2 : Int} (h0 : 32 < p2) (h1 : 0 ≤ p2) (h2 : 0 ≤ p2 ∧ p2 ≤ 2147483647) : 33 ≤ p2 ∧ p2 ≤ 2147483647 := by omega
theorem vc_X11_prefix_v_6 {p2 : Int} (h0 : 0 ≤ p2) (h1 : 32 < p2) (h2 : 33 ≤ p2 ∧ p2 ≤ 2147483647) : p2 < 0 ∨ 32 < p2 := by omega
theorem vc_X11_prefix_v_7 {p2 : Int} (h0 : p2 ≤ 32) (h1 : 0 ≤ p2) (h2 : 0 ≤ p2 ∧ p2 ≤ 2147483647) : 0 ≤ p2 ∧ p2 ≤ 32 := by omega
theorem vc_X11_prefix_v_11 {f_n : Int} (h0 : f_n < 10) (h1 : 0 ≤ f_n ∧ f_n ≤ 9) : f_n ≤ 9 := by omega
theorem vc_X11_prefix_v_12 {f_n z141 : Int} (h0 : z141 = f_n) (h1 : f_n < 10) (h2 : 0 ≤ f_n ∧ f_n ≤ 9) (h3 : (-2147483648) ≤ z141 ∧ z141 ≤ 2147483647) : 0 ≤ z141 ∧ z141 ≤ 9 := by omega
theorem vc_X11_prefix_v_13 {p2 : Int} (h0 : 0 ≤ p2) (h1 : p2 ≤ 32) (h2 : 0 ≤ p2 ∧ p2 ≤ 32) : 0 ≤ p2 ∧ p2 ≤ 32 := by omega
theorem vc_X11_prefix_v_15 {z132 : Int} (h0 : z132 < 0) (h1 : (-1) ≤ z132 ∧ z132 ≤ (-1)) : z132 < 0 := by omega
theorem vc_X11_prefix_v_16 {f_n z141 z142 : Int} (h0 : f_n < 10) (h1 : z141 = f_n) (h2 : z142 = f_n + 1) (h3 : 0 ≤ f_n ∧ f_n ≤ 9) (h4 : 0 ≤ z141 ∧ z141 ≤ 9) (h5 : 0 ≤ z142 ∧ z142 ≤ 10) : f_n < 10 := by omega
theorem vc_X11_prefix_v_17 {f_n z141 z142 : Int} (h0 : f_n < 10) (h1 : z141 = f_n) (h2 : z142 = f_n + 1) (h3 : 0 ≤ f_n ∧ f_n ≤ 9) (h4 : 0 ≤ z141 ∧ z141 ≤ 9) (h5 : 0 ≤ z142 ∧ z142 ≤ 10) : z141 = f_n := by omega
theorem vc_X11_prefix_v_18 {f_n z141 z142 : Int} (h0 : z141 = f_n) (h1 : f_n < 10) (h2 : z142 = f_n + 1) (h3 : 0 ≤ f_n ∧ f_n ≤ 9) (h4 : 0 ≤ z141 ∧ z141 ≤ 9) (h5 : 0 ≤ z142 ∧ z142 ≤ 10) : 0 ≤ z141 := by omega
theorem vc_X11_prefix_v_19 {f_n z141 z142 : Int} (h0 : f_n < 10) (h1 : z141 = f_n) (h2 : z142 = f_n + 1) (h3 : 0 ≤ f_n ∧ f_n ≤ 9) (h4 : 0 ≤ z141 ∧ z141 ≤ 9) (h5 : 0 ≤ z142 ∧ z142 ≤ 10) : (f_n + 1) = f_n + 1 := by omega
theorem vc_X11_prefix_v_21 {f_n : Int} (h0 : 10 ≤ f_n) (h1 : 10 ≤ f_n ∧ f_n ≤ 10) : 10 ≤ f_n := by omega
theorem vc_X11_prefix_v_22  : (((-3) : Int) : Int) < (0 : Int) := by omega
theorem vc_X11_prefix_v_24 {z132 : Int} (h0 : 0 ≤ z132) (h1 : 0 ≤ z132 ∧ z132 ≤ 9) : 0 ≤ z132 := by omega
theorem vc_X11_prefix_v_25  : (((-2) : Int) : Int) < (0 : Int) := by omega
theorem vc_X11_prefix_v_26 {z123 : Int} (h0 : ¬ z123 = 0) (h1 : (-2147483648) ≤ z123 ∧ z123 ≤ 2147483647) : ¬ z123 = 0 := by omega
set_option maxRecDepth 4000 in
set_option maxHeartbeats 4000000 in
theorem c_X11_prefix_v {l : Launch} {D : va_G} {c : Nat → ClassId} {H0 : Heap} {sa : Nat × Nat × (Nat → Int32)} {w : mW} {μ : mM} (hw : mWF w) (hT : mT w μ) {p1 : Int} (hp1 : (-2147483648) ≤ p1 ∧ p1 ≤ 2147483647) {p2 : Int} (hp2 : (-2147483648) ≤ p2 ∧ p2 ≤ 2147483647) {f_n : Int} (q_f_n : μ 6 14 = f_n) : sC (gG l D c H0 sa) mX11_prefix 3 0 0 [.ref 0, iv p1, iv p2] (mk w μ) (qI w [6014, 7999, 8999, 9999] μ (fun z μ1 => ((-2147483648) ≤ z ∧ z ≤ 2147483647) ∧ (preA (hasP μ 7 8 f_n p1 p2) f_n p1 p2 z) ∧ (adQ μ μ1 6 14 7 8 p1 p2 z) ∧ True)) := by
  refine sC.of rfl (by decide) (le_t rfl) ?_
  have ht_f_n : (0 ≤ f_n ∧ f_n ≤ 10) := by rw [← q_f_n]; exact hT 6 6 (A_6 hw) 14
  refine mr_lvE (lv' := [(0, .ref 0), (1, iv p1), (2, iv p2)]) rfl ?_
  refine mr_iload_n (pc := 0) (z := p2) dX11_prefix_0 rfl rfl ?_
  refine mr_if_lt (pc := 1) (tgt := 21) dX11_prefix_1 (by decide) hp2 (fun h109 => ?_) (fun h109 => ?_)
  · have h110 : (-2147483648) ≤ p2 ∧ p2 ≤ (-1) := (vc_X12_cut_1 h109 hp2)
    refine mr_iconst (pc := 21) (z := (-1)) dX11_prefix_21 ?_
    exact mr_iret dX11_prefix_22 rfl (le_t rfl) (le_t rfl) hT mF.refl ⟨(rW (c := (-2147483648)) (d := 2147483647) (rR (x := (-1))) rfl), (Or.inl ⟨badP.r (vc_X11_prefix_v_2 h109 h110), rfl⟩), (Or.inr ⟨vc_X12_raise_u_49, rfl⟩), trivial⟩
  have h111 : 0 ≤ p2 ∧ p2 ≤ 2147483647 := (vc_X12_cut_2 h109 hp2)
  refine mr_iload_n (pc := 4) (z := p2) dX11_prefix_4 rfl rfl ?_
  refine mr_bipush (pc := 5) (z := 32) dX11_prefix_5 (by decide) ?_
  refine mr_icmp_gt (pc := 7) (tgt := 21) dX11_prefix_7 (by decide) (r32 h111 rfl) (r32 (rR (x := 32)) rfl) (fun h112 => ?_) (fun h112 => ?_)
  · have h113 : 33 ≤ p2 ∧ p2 ≤ 2147483647 := (vc_X11_prefix_v_5 h112 h109 h111)
    refine mr_iconst (pc := 21) (z := (-1)) dX11_prefix_21 ?_
    exact mr_iret dX11_prefix_22 rfl (le_t rfl) (le_t rfl) hT mF.refl ⟨(rW (c := (-2147483648)) (d := 2147483647) (rR (x := (-1))) rfl), (Or.inl ⟨badP.r (vc_X11_prefix_v_6 h109 h112 h113), rfl⟩), (Or.inr ⟨vc_X12_raise_u_49, rfl⟩), trivial⟩
  have h114 : 0 ≤ p2 ∧ p2 ≤ 32 := (vc_X11_prefix_v_7 h112 h109 h111)
  refine mr_iload_n (pc := 10) (z := p1) dX11_prefix_10 rfl rfl ?_
  refine mr_iload_n (pc := 11) (z := p2) dX11_prefix_11 rfl rfl ?_
  refine mr_cSP (pc := 12) (c_X10_maskOf_v hw hT h114) (gOk _ _ _ _ _) dX11_prefix_12 (tX10_maskOf _ _ _ _ _) wS_X10_maskOf wM_X11_84 ⟨le_t rfl, le_t rfl⟩ ⟨le_t rfl, le_t rfl⟩ rfl (le_t rfl) fun z119 h118 => ?_
  refine mr_iconst (pc := 15) (z := (-1)) dX11_prefix_15 ?_
  refine mr_ixor (pc := 16) (x := z119) (y := (-1)) dX11_prefix_16 ?_
  refine mr_gen (P := fun z => (-2147483648) ≤ z ∧ z ≤ 2147483647) (r32i _) fun z120 q121 h122 => ?_
  refine mr_iand (pc := 17) (x := p1) (y := z120) dX11_prefix_17 ?_
  refine mr_gen (P := fun z => (-2147483648) ≤ z ∧ z ≤ 2147483647) (r32i _) fun z123 q124 h125 => ?_
  refine mr_if_eq (pc := 18) (tgt := 23) dX11_prefix_18 (by decide) h125 (fun h126 => ?_) (fun h126 => ?_)
  · have h127 : 0 ≤ z123 ∧ z123 ≤ 0 := (vc_X12_mask_1 h126 h125)
    refine sv_aload_n (pc := 23) dX11_prefix_23 rfl rfl ?_
    refine gf_X11_3 (pc := 24) dX11_prefix_24 wF_X11_26 (A_0 hw) hT ?_
    refine mr_iload_n (pc := 27) (z := p1) dX11_prefix_27 rfl rfl ?_
    refine mr_iload_n (pc := 28) (z := p2) dX11_prefix_28 rfl rfl ?_
    refine mr_cVP (pc := 29) (c_X10_findPrefix_v hw hT hp1 (rW (c := (-2147483648)) (d := 2147483647) h114 rfl) q_f_n) (gOk _ _ _ _ _) dX11_prefix_29 (tX10_findPrefix _ _ _ _ _) ⟨wV_X10_findPrefix, wL_X10_findPrefix⟩ wM_X11_88 (gCX10 _ _ _ _ _) rfl (A_6 hw) rfl ⟨le_t rfl, le_t rfl⟩ ⟨le_t rfl, le_t rfl⟩ rfl (le_t rfl) fun z132 h131 => ?_
    refine mr_if_lt (pc := 32) (tgt := 38) dX11_prefix_32 (by decide) (r32 h131.1 rfl) (fun h133 => ?_) (fun h133 => ?_)
    · have h134 : (-1) ≤ z132 ∧ z132 ≤ (-1) := (vc_X12_isThere_3 h133 h131.1)
      refine sv_aload_n (pc := 38) dX11_prefix_38 rfl rfl ?_
      refine gf_X11_3 (pc := 39) dX11_prefix_39 wF_X11_26 (A_0 hw) hT ?_
      refine gk_X10_14 (pc := 42) dX11_prefix_42 wF_X11_92 (A_6 hw) q_f_n ?_
      refine mr_bipush (pc := 45) (z := 10) dX11_prefix_45 (by decide) ?_
      refine mr_icmp_lt (pc := 47) (tgt := 53) dX11_prefix_47 (by decide) (r32 ht_f_n rfl) (r32 (rR (x := 10)) rfl) (fun h135 => ?_) (fun h135 => ?_)
      · have h136 : 0 ≤ f_n ∧ f_n ≤ 9 := (vc_X12_ring_57 h135 ht_f_n)
        refine sv_aload_n (pc := 53) dX11_prefix_53 rfl rfl ?_
        refine gf_X11_3 (pc := 54) dX11_prefix_54 wF_X11_26 (A_0 hw) hT ?_
        refine mr_iload_n (pc := 57) (z := p1) dX11_prefix_57 rfl rfl ?_
        refine mr_iload_n (pc := 58) (z := p2) dX11_prefix_58 rfl rfl ?_
        refine mr_cVI (pc := 59) (c_X10_addPrefix_v hw hT hp1 h114 q_f_n (vc_X11_prefix_v_11 h135 h136)) (gOk _ _ _ _ _) dX11_prefix_59 (tX10_addPrefix _ _ _ _ _) ⟨wV_X10_addPrefix, wL_X10_addPrefix⟩ wM_X11_95 (gCX10 _ _ _ _ _) rfl (A_6 hw) rfl ⟨le_t rfl, le_t rfl⟩ ⟨le_t rfl, le_t rfl⟩ rfl (le_t rfl) fun z141 μ137 T138 F139 h140 => ?_
        obtain ⟨z142, q143, h144⟩ := h140
        have h145 : (0 ≤ z142 ∧ z142 ≤ 10) := by rw [← q143]; exact T138 6 6 (A_6 hw) 14
        have h146 : 0 ≤ z141 ∧ z141 ≤ 9 := (vc_X11_prefix_v_12 h144.2.1 h135 h136 h144.1)
        have q147 : μ137 6 14 = (f_n + 1) := q143.trans h144.2.2.1
        exact mr_iret dX11_prefix_62 rfl (le_t rfl) (le_t rfl) T138 (mF.call mF.refl F139 rfl) ⟨(rW (c := (-2147483648)) (d := 2147483647) h146 rfl), (Or.inr ⟨(badP.n (vc_X11_prefix_v_13 h109 h112 h114) (andMk h118.2.1 q121 q124) (vc_X12_goes_7 h126 h127)), Or.inr ⟨(h131.2.2.1 (vc_X11_prefix_v_15 h133 h134)), Or.inr ⟨(vc_X11_prefix_v_16 h135 h144.2.1 h144.2.2.1 h136 h146 h145), (vc_X11_prefix_v_17 h135 h144.2.1 h144.2.2.1 h136 h146 h145)⟩⟩⟩), (adQ.add q_f_n (vc_X11_prefix_v_18 h144.2.1 h135 h144.2.2.1 h136 h146 h145) q147 (vc_X11_prefix_v_19 h135 h144.2.1 h144.2.2.1 h136 h146 h145) h144.2.2.2.1), trivial⟩
      have h148 : 10 ≤ f_n ∧ f_n ≤ 10 := (vc_X12_ring_6 h135 ht_f_n)
      refine mr_bipush (pc := 50) (z := (-3)) dX11_prefix_50 (by decide) ?_
      exact mr_iret dX11_prefix_52 rfl (le_t rfl) (le_t rfl) hT mF.refl ⟨(rW (c := (-2147483648)) (d := 2147483647) (rR (x := (-3))) rfl), (Or.inr ⟨(badP.n (vc_X11_prefix_v_13 h109 h112 h114) (andMk h118.2.1 q121 q124) (vc_X12_goes_7 h126 h127)), Or.inr ⟨(h131.2.2.1 (vc_X11_prefix_v_15 h133 h134)), Or.inl ⟨(vc_X11_prefix_v_21 h135 h148), rfl⟩⟩⟩), (Or.inr ⟨vc_X11_prefix_v_22, rfl⟩), trivial⟩
    have h149 : 0 ≤ z132 ∧ z132 ≤ 9 := (vc_X12_isThere_6 h133 h131.1)
    refine mr_bipush (pc := 35) (z := (-2)) dX11_prefix_35 (by decide) ?_
    exact mr_iret dX11_prefix_37 rfl (le_t rfl) (le_t rfl) hT mF.refl ⟨(rW (c := (-2147483648)) (d := 2147483647) (rR (x := (-2))) rfl), (Or.inr ⟨(badP.n (vc_X11_prefix_v_13 h109 h112 h114) (andMk h118.2.1 q121 q124) (vc_X12_goes_7 h126 h127)), Or.inl ⟨h131.2.1 (vc_X11_prefix_v_24 h133 h149), rfl⟩⟩), (Or.inr ⟨vc_X11_prefix_v_25, rfl⟩), trivial⟩
  refine mr_iconst (pc := 21) (z := (-1)) dX11_prefix_21 ?_
  exact mr_iret dX11_prefix_22 rfl (le_t rfl) (le_t rfl) hT mF.refl ⟨(rW (c := (-2147483648)) (d := 2147483647) (rR (x := (-1))) rfl), (Or.inl ⟨badP.a (andMk h118.2.1 q121 q124) (vc_X11_prefix_v_26 h126 h125), rfl⟩), (Or.inr ⟨vc_X12_raise_u_49, rfl⟩), trivial⟩
theorem vc_X12_prefix_v_1 {p2 z125 : Int} (h0 : z125 = 0) (h1 : (z125 = 1 → (0 : Int) ≤ p2 ∧ p2 ≤ (32 : Int))) (h2 : (z125 = 0 → p2 < (0 : Int) ∨ (32 : Int) < p2)) (h3 : (-2147483648) ≤ p2 ∧ p2 ≤ 2147483647) (h4 : 0 ≤ z125 ∧ z125 ≤ 1) : 0 ≤ z125 ∧ z125 ≤ 0 := by omega
theorem vc_X12_prefix_v_2 {p2 z125 : Int} (h0 : (z125 = 1 → (0 : Int) ≤ p2 ∧ p2 ≤ (32 : Int))) (h1 : (z125 = 0 → p2 < (0 : Int) ∨ (32 : Int) < p2)) (h2 : z125 = 0) (h3 : (-2147483648) ≤ p2 ∧ p2 ≤ 2147483647) (h4 : 0 ≤ z125 ∧ z125 ≤ 0) : z125 = 0 := by omega
theorem vc_X12_prefix_v_3 {p2 z125 : Int} (h0 : (z125 = 1 → (0 : Int) ≤ p2 ∧ p2 ≤ (32 : Int))) (h1 : (z125 = 0 → p2 < (0 : Int) ∨ (32 : Int) < p2)) (h2 : p2 < (0 : Int) ∨ (32 : Int) < p2) (h3 : z125 = 0) (h4 : (-2147483648) ≤ p2 ∧ p2 ≤ 2147483647) (h5 : 0 ≤ z125 ∧ z125 ≤ 0) : p2 < 0 ∨ 32 < p2 := by omega
theorem vc_X12_prefix_v_5 {p2 z125 : Int} (h0 : ¬ z125 = 0) (h1 : (z125 = 1 → (0 : Int) ≤ p2 ∧ p2 ≤ (32 : Int))) (h2 : (z125 = 0 → p2 < (0 : Int) ∨ (32 : Int) < p2)) (h3 : (-2147483648) ≤ p2 ∧ p2 ≤ 2147483647) (h4 : 0 ≤ z125 ∧ z125 ≤ 1) : 1 ≤ z125 ∧ z125 ≤ 1 := by omega
theorem vc_X12_prefix_v_6 {p2 z125 : Int} (h0 : (z125 = 1 → (0 : Int) ≤ p2 ∧ p2 ≤ (32 : Int))) (h1 : (z125 = 0 → p2 < (0 : Int) ∨ (32 : Int) < p2)) (h2 : ¬ z125 = 0) (h3 : (-2147483648) ≤ p2 ∧ p2 ≤ 2147483647) (h4 : 1 ≤ z125 ∧ z125 ≤ 1) : z125 = 1 := by omega
theorem vc_X12_prefix_v_7 {p2 z125 : Int} (h0 : (0 : Int) ≤ p2 ∧ p2 ≤ (32 : Int)) (h1 : (z125 = 1 → (0 : Int) ≤ p2 ∧ p2 ≤ (32 : Int))) (h2 : (z125 = 0 → p2 < (0 : Int) ∨ (32 : Int) < p2)) (h3 : (-2147483648) ≤ p2 ∧ p2 ≤ 2147483647) (h4 : 1 ≤ z125 ∧ z125 ≤ 1) : 0 ≤ p2 ∧ p2 ≤ 32 := by omega
theorem vc_X12_prefix_v_9 {z149 : Int} (h0 : z149 = (-99999999)) (h1 : z149 = -99999999 ∨ (0 ≤ z149 ∧ z149 ≤ 9)) (h2 : (-99999999) ≤ z149 ∧ z149 ≤ 9) : (-99999999) ≤ z149 ∧ z149 ≤ (-99999999) := by omega
theorem vc_X12_prefix_v_11 {f_n : Int} (h0 : ¬ f_n = 10) (h1 : 0 ≤ f_n ∧ f_n ≤ 9) : f_n ≤ (f_n + 1) := by omega
theorem vc_X12_prefix_v_12 {f_n : Int} (h0 : ¬ f_n = 10) (h1 : 0 ≤ f_n ∧ f_n ≤ 9) : (f_n + 1) = f_n + 1 := by omega
theorem vc_X12_prefix_v_13 {p2 z125 : Int} (h0 : (z125 = 1 → (0 : Int) ≤ p2 ∧ p2 ≤ (32 : Int))) (h1 : (z125 = 0 → p2 < (0 : Int) ∨ (32 : Int) < p2)) (h2 : (0 : Int) ≤ p2 ∧ p2 ≤ (32 : Int)) (h3 : ¬ z125 = 0) (h4 : 0 ≤ p2 ∧ p2 ≤ 32) (h5 : 1 ≤ z125 ∧ z125 ≤ 1) : 0 ≤ p2 ∧ p2 ≤ 32 := by omega
theorem vc_X12_prefix_v_15 {z149 : Int} (h0 : z149 = -99999999 ∨ (0 ≤ z149 ∧ z149 ≤ 9)) (h1 : z149 = (-99999999)) (h2 : (-99999999) ≤ z149 ∧ z149 ≤ (-99999999)) : z149 < 0 := by omega
theorem vc_X12_prefix_v_16 {f_n : Int} (h0 : ¬ f_n = 10) (h1 : 0 ≤ f_n ∧ f_n ≤ 9) : f_n < 10 := by omega
theorem vc_X12_prefix_v_17 {f_n : Int} (h0 : ¬ f_n = 10) (h1 : 0 ≤ f_n ∧ f_n ≤ 9) : ((f_n + 1) - 1) = f_n := by omega
theorem vc_X12_prefix_v_18 {f_n : Int} (h0 : ¬ f_n = 10) (h1 : 0 ≤ f_n ∧ f_n ≤ 9) : 0 ≤ ((f_n + 1) - 1) := by omega
theorem vc_X12_prefix_v_20 {f_n : Int} (h0 : f_n = 10) (h1 : 10 ≤ f_n ∧ f_n ≤ 10) : 10 ≤ f_n := by omega
theorem vc_X12_prefix_v_22 {z149 : Int} (h0 : ¬ z149 = (-99999999)) (h1 : z149 = -99999999 ∨ (0 ≤ z149 ∧ z149 ≤ 9)) (h2 : (-99999999) ≤ z149 ∧ z149 ≤ 9) : 0 ≤ z149 ∧ z149 ≤ 9 := by omega
theorem vc_X12_prefix_v_23 {z149 : Int} (h0 : z149 = -99999999 ∨ (0 ≤ z149 ∧ z149 ≤ 9)) (h1 : ¬ z149 = (-99999999)) (h2 : 0 ≤ z149 ∧ z149 ≤ 9) : 0 ≤ z149 := by omega
set_option maxRecDepth 4000 in
set_option maxHeartbeats 4000000 in
theorem c_X12_prefix_v {l : Launch} {D : va_G} {c : Nat → ClassId} {H0 : Heap} {sa : Nat × Nat × (Nat → Int32)} {w : mW} {μ : mM} (hw : mWF w) (hT : mT w μ) {p1 : Int} (hp1 : (-2147483648) ≤ p1 ∧ p1 ≤ 2147483647) {p2 : Int} (hp2 : (-2147483648) ≤ p2 ∧ p2 ≤ 2147483647) {f_n : Int} (q_f_n : μ 106 2 = f_n) (hIJC : JC l D c H0 sa μ) (hIRP : RP μ) (hIEP : EP μ) (hIHP : HP μ) (hIUP : UP l D c H0 sa μ) (hIRR : RR μ) (hIG1 : G1 μ) (hIEV : EV μ) (hIPK : PK μ) : sC (gG l D c H0 sa) mX12_prefix 2 0 0 [.ref 106, iv p1, iv p2] (mk w μ) (qI w [106002, 108999, 109999] μ (fun z μ1 => ((-2147483648) ≤ z ∧ z ≤ 2147483647) ∧ JC l D c H0 sa μ1 ∧ RP μ1 ∧ EP μ1 ∧ HP μ1 ∧ UP l D c H0 sa μ1 ∧ RR μ1 ∧ G1 μ1 ∧ EV μ1 ∧ PK μ1 ∧ (preA (hasP μ 108 109 f_n p1 p2) f_n p1 p2 z) ∧ (adQ μ μ1 106 2 108 109 p1 p2 z) ∧ True)) := by
  refine sC.of rfl (by decide) (le_t rfl) ?_
  have ht_f_n : (0 ≤ f_n ∧ f_n ≤ 10) := by rw [← q_f_n]; exact hT 106 106 (A_106 hw) 2
  refine mr_lvE (lv' := [(0, .ref 106), (1, iv p1), (2, iv p2)]) rfl ?_
  refine mr_iload_n (pc := 0) (z := p2) dX12_prefix_0 rfl rfl ?_
  refine mr_iconst (pc := 1) (z := 0) dX12_prefix_1 ?_
  refine mr_bipush (pc := 2) (z := 32) dX12_prefix_2 (by decide) ?_
  refine mr_cSP (pc := 4) (c_X12_in hw hT hp2 (rW (c := (-2147483648)) (d := 2147483647) (rR (x := 0)) rfl) (rW (c := (-2147483648)) (d := 2147483647) (rR (x := 32)) rfl)) (gOk _ _ _ _ _) dX12_prefix_4 (tX12_in _ _ _ _ _) wS_X12_in wM_X12_18 ⟨le_t rfl, le_t rfl⟩ ⟨le_t rfl, le_t rfl⟩ rfl (le_t rfl) fun z125 h124 => ?_
  refine mr_if_eq (pc := 7) (tgt := 21) dX12_prefix_7 (by decide) (r32 h124.1 rfl) (fun h126 => ?_) (fun h126 => ?_)
  · have h127 : 0 ≤ z125 ∧ z125 ≤ 0 := (vc_X12_prefix_v_1 h126 h124.2.1 h124.2.2.1 hp2 h124.1)
    have h128 : p2 < (0 : Int) ∨ (32 : Int) < p2 := (h124.2.2.1 (vc_X12_prefix_v_2 h124.2.1 h124.2.2.1 h126 hp2 h127))
    refine mr_iconst (pc := 21) (z := (-1)) dX12_prefix_21 ?_
    exact mr_iret dX12_prefix_22 rfl (le_t rfl) (le_t rfl) hT mF.refl ⟨(rW (c := (-2147483648)) (d := 2147483647) (rR (x := (-1))) rfl), hIJC, hIRP, hIEP, hIHP, hIUP, hIRR, hIG1, hIEV, hIPK, (Or.inl ⟨badP.r (vc_X12_prefix_v_3 h124.2.1 h124.2.2.1 h128 h126 hp2 h127), rfl⟩), (Or.inr ⟨vc_X12_raise_u_49, rfl⟩), trivial⟩
  have h129 : 1 ≤ z125 ∧ z125 ≤ 1 := (vc_X12_prefix_v_5 h126 h124.2.1 h124.2.2.1 hp2 h124.1)
  have h130 : (0 : Int) ≤ p2 ∧ p2 ≤ (32 : Int) := (h124.2.1 (vc_X12_prefix_v_6 h124.2.1 h124.2.2.1 h126 hp2 h129))
  have h131 : 0 ≤ p2 ∧ p2 ≤ 32 := (vc_X12_prefix_v_7 h130 h124.2.1 h124.2.2.1 hp2 h129)
  refine mr_iload_n (pc := 10) (z := p1) dX12_prefix_10 rfl rfl ?_
  refine mr_iload_n (pc := 11) (z := p2) dX12_prefix_11 rfl rfl ?_
  refine mr_cSP (pc := 12) (c_X12_mask_v hw hT h131) (gOk _ _ _ _ _) dX12_prefix_12 (tX12_mask _ _ _ _ _) wS_X12_mask wM_X12_11 ⟨le_t rfl, le_t rfl⟩ ⟨le_t rfl, le_t rfl⟩ rfl (le_t rfl) fun z136 h135 => ?_
  refine mr_iconst (pc := 15) (z := (-1)) dX12_prefix_15 ?_
  refine mr_ixor (pc := 16) (x := z136) (y := (-1)) dX12_prefix_16 ?_
  refine mr_gen (P := fun z => (-2147483648) ≤ z ∧ z ≤ 2147483647) (r32i _) fun z137 q138 h139 => ?_
  refine mr_iand (pc := 17) (x := p1) (y := z137) dX12_prefix_17 ?_
  refine mr_gen (P := fun z => (-2147483648) ≤ z ∧ z ≤ 2147483647) (r32i _) fun z140 q141 h142 => ?_
  refine mr_if_eq (pc := 18) (tgt := 23) dX12_prefix_18 (by decide) h142 (fun h143 => ?_) (fun h143 => ?_)
  · have h144 : 0 ≤ z140 ∧ z140 ≤ 0 := (vc_X12_mask_1 h143 h142)
    refine sv_aload_n (pc := 23) dX12_prefix_23 rfl rfl ?_
    refine mr_iload_n (pc := 24) (z := p1) dX12_prefix_24 rfl rfl ?_
    refine mr_iload_n (pc := 25) (z := p2) dX12_prefix_25 rfl rfl ?_
    refine mr_cVP (pc := 26) (c_X12_prefixOf_v hw hT hp1 (rW (c := (-2147483648)) (d := 2147483647) h131 rfl) q_f_n) (gOk _ _ _ _ _) dX12_prefix_26 (tX12_prefixOf _ _ _ _ _) ⟨wV_X12_prefixOf, wL_X12_prefixOf⟩ wM_X12_30 (gCX12 _ _ _ _ _) rfl (A_106 hw) rfl ⟨le_t rfl, le_t rfl⟩ ⟨le_t rfl, le_t rfl⟩ rfl (le_t rfl) fun z149 h148 => ?_
    refine mr_ldc (pc := 29) (z := (-99999999)) dX12_prefix_29 wG_X12_29 (by decide) ?_
    refine mr_icmp_eq (pc := 31) (tgt := 37) dX12_prefix_31 (by decide) (r32 h148.1 rfl) (r32 (rR (x := (-99999999))) rfl) (fun h150 => ?_) (fun h150 => ?_)
    · have h151 : (-99999999) ≤ z149 ∧ z149 ≤ (-99999999) := (vc_X12_prefix_v_9 h150 h148.2.1 h148.1)
      refine sv_aload_n (pc := 37) dX12_prefix_37 rfl rfl ?_
      refine gk_X12_2 (pc := 38) dX12_prefix_38 wF_X12_15 (A_106 hw) q_f_n ?_
      refine mr_bipush (pc := 41) (z := 10) dX12_prefix_41 (by decide) ?_
      refine mr_icmp_ne (pc := 43) (tgt := 49) dX12_prefix_43 (by decide) (r32 ht_f_n rfl) (r32 (rR (x := 10)) rfl) (fun h152 => ?_) (fun h152 => ?_)
      · have h153 : 0 ≤ f_n ∧ f_n ≤ 9 := (vc_X12_domain_v_1 h152 ht_f_n)
        refine sv_aload_n (pc := 49) dX12_prefix_49 rfl rfl ?_
        refine gf_X12_3 (pc := 50) dX12_prefix_50 wF_X12_22 (A_106 hw) hT ?_
        refine sv_aload_n (pc := 53) dX12_prefix_53 rfl rfl ?_
        refine gk_X12_2 (pc := 54) dX12_prefix_54 wF_X12_15 (A_106 hw) q_f_n ?_
        refine mr_iload_n (pc := 57) (z := p1) dX12_prefix_57 rfl rfl ?_
        refine ss_108 (pc := 58) dX12_prefix_58 (A_108 hw) hT (rIx (n := 10) h153 rfl) hp1 fun μ154 u155 T156 => ?_
        refine sv_aload_n (pc := 59) dX12_prefix_59 rfl rfl ?_
        refine gf_X12_4 (pc := 60) dX12_prefix_60 wF_X12_26 (A_106 hw) T156 ?_
        refine sv_aload_n (pc := 63) dX12_prefix_63 rfl rfl ?_
        refine gk_X12_2 (pc := 64) dX12_prefix_64 wF_X12_15 (A_106 hw) (u155.f (Or.inl (mAt.ne (A_108 hw) (A_106 hw) rfl)) q_f_n) ?_
        refine mr_iload_n (pc := 67) (z := p2) dX12_prefix_67 rfl rfl ?_
        refine ss_109 (pc := 68) dX12_prefix_68 (A_109 hw) T156 (rIx (n := 10) h153 rfl) h131 fun μ157 u158 T159 => ?_
        refine sv_aload_n (pc := 69) dX12_prefix_69 rfl rfl ?_
        refine sv_dup (pc := 70) dX12_prefix_70 rfl ?_
        refine gk_X12_2 (pc := 71) dX12_prefix_71 wF_X12_15 (A_106 hw) (u158.f (Or.inl (mAt.ne (A_109 hw) (A_106 hw) rfl)) (u155.f (Or.inl (mAt.ne (A_108 hw) (A_106 hw) rfl)) q_f_n)) ?_
        refine mr_iconst (pc := 74) (z := 1) dX12_prefix_74 ?_
        refine mr_iadd (pc := 75) (x := f_n) (y := 1) dX12_prefix_75 ?_
        refine pf_X12_2 (pc := 76) dX12_prefix_76 wF_X12_15 (A_106 hw) T159 (rW (c := 0) (d := 10) (rAdd (e := 1) (f := 10) h153 (rR (x := 1)) rfl) rfl) fun μ160 u161 T162 => ?_
        have I163 : RP μ160 := RP.grow (RP.keep hIRP hw ((mF.up (mF.up mF.refl (A_108 hw) u155 rfl) (A_109 hw) u158 rfl) : mF [108999, 109999] w μ μ157) rfl ((mG.upO (mG.upO mG.refl u155 rfl) u158 rfl) : mG [] μ μ157) (fun _ h => absurd h List.not_mem_nil)) (u158.f (Or.inl (mAt.ne (A_109 hw) (A_106 hw) rfl)) (u155.f (Or.inl (mAt.ne (A_108 hw) (A_106 hw) rfl)) q_f_n)) u161 (vc_X12_prefix_v_11 h152 h153)
        have I164 : EP μ160 := EP.grow (EP.keep hIEP hw ((mF.up (mF.up mF.refl (A_108 hw) u155 rfl) (A_109 hw) u158 rfl) : mF [108999, 109999] w μ μ157) rfl) (u158.f (Or.inl (mAt.ne (A_109 hw) (A_106 hw) rfl)) (u155.f (Or.inl (mAt.ne (A_108 hw) (A_106 hw) rfl)) q_f_n)) u161 (vc_X12_prefix_v_11 h152 h153)
        have I165 : HP μ160 := HP.grow2 (HP.keep hIHP hw ((mF.up (mF.up mF.refl (A_108 hw) u155 rfl) (A_109 hw) u158 rfl) : mF [108999, 109999] w μ μ157) rfl ((mG.upO (mG.upO mG.refl u155 rfl) u158 rfl) : mG [] μ μ157) (fun _ h => absurd h List.not_mem_nil)) (u158.f (Or.inl (mAt.ne (A_109 hw) (A_106 hw) rfl)) (u155.f (Or.inl (mAt.ne (A_108 hw) (A_106 hw) rfl)) q_f_n)) u161 (vc_X12_prefix_v_11 h152 h153)
        have I166 : RR μ160 := RR.grow (RR.keep hIRR hw ((mF.up (mF.up mF.refl (A_108 hw) u155 rfl) (A_109 hw) u158 rfl) : mF [108999, 109999] w μ μ157) rfl rfl rfl) (u158.f (Or.inl (mAt.ne (A_109 hw) (A_106 hw) rfl)) (u155.f (Or.inl (mAt.ne (A_108 hw) (A_106 hw) rfl)) q_f_n)) u161 (vc_X12_prefix_v_11 h152 h153)
        have I167 : JC l D c H0 sa μ160 := PX.jc hIJC hIRR hw hT q_f_n u155 u158 u161 (vc_X12_prefix_v_11 h152 h153)
        have I168 : UP l D c H0 sa μ160 := PX.up hIUP hIHP hIRP hIRR hw hT T162 (PK.keep hIPK hw ((mF.up (mF.up (mF.up mF.refl (A_108 hw) u155 rfl) (A_109 hw) u158 rfl) (A_106 hw) u161 rfl) : mF [106002, 108999, 109999] w μ μ160) rfl) q_f_n u155 u158 u161 (vc_X12_prefix_v_12 h152 h153)
        refine sv_aload_n (pc := 79) dX12_prefix_79 rfl rfl ?_
        refine gk_X12_2 (pc := 80) dX12_prefix_80 wF_X12_15 (A_106 hw) u161.1 ?_
        refine mr_iconst (pc := 83) (z := 1) dX12_prefix_83 ?_
        refine mr_isub (pc := 84) (x := (f_n + 1)) (y := 1) dX12_prefix_84 ?_
        exact mr_iret dX12_prefix_85 rfl (le_t rfl) (le_t rfl) T162 (mF.up (mF.up (mF.up mF.refl (A_108 hw) u155 rfl) (A_109 hw) u158 rfl) (A_106 hw) u161 rfl) ⟨(rW (c := (-2147483648)) (d := 2147483647) (rSub (e := 0) (f := 9) (rAdd (e := 1) (f := 10) h153 (rR (x := 1)) rfl) (rR (x := 1)) rfl) rfl), I167, I163, I164, I165, I168, I166, (G1.keep hIG1 hw ((mF.up (mF.up (mF.up mF.refl (A_108 hw) u155 rfl) (A_109 hw) u158 rfl) (A_106 hw) u161 rfl) : mF [106002, 108999, 109999] w μ μ160) rfl rfl ((mG.upO (mG.upO (mG.upO mG.refl u155 rfl) u158 rfl) u161 rfl) : mG [] μ μ160) (fun _ h => absurd h List.not_mem_nil)), (EV.keep hIEV hw ((mF.up (mF.up (mF.up mF.refl (A_108 hw) u155 rfl) (A_109 hw) u158 rfl) (A_106 hw) u161 rfl) : mF [106002, 108999, 109999] w μ μ160) rfl), (PK.keep hIPK hw ((mF.up (mF.up (mF.up mF.refl (A_108 hw) u155 rfl) (A_109 hw) u158 rfl) (A_106 hw) u161 rfl) : mF [106002, 108999, 109999] w μ μ160) rfl), (Or.inr ⟨(badP.n (vc_X12_prefix_v_13 h124.2.1 h124.2.2.1 h130 h126 h131 h129) (andMk h135.2.1 q138 q141) (vc_X12_goes_7 h143 h144)), Or.inr ⟨(h148.2.2.2.1 (vc_X12_prefix_v_15 h148.2.1 h150 h151)), Or.inr ⟨(vc_X12_prefix_v_16 h152 h153), (vc_X12_prefix_v_17 h152 h153)⟩⟩⟩), (adQ.add q_f_n (vc_X12_prefix_v_18 h152 h153) u161.1 (vc_X12_prefix_v_12 h152 h153) (adT.oth (adT.two u155 u158 (by decide)) u161 (by decide) (by decide))), trivial⟩
      have h169 : 10 ≤ f_n ∧ f_n ≤ 10 := (vc_X12_domain_v_4 h152 ht_f_n)
      refine mr_bipush (pc := 46) (z := (-3)) dX12_prefix_46 (by decide) ?_
      exact mr_iret dX12_prefix_48 rfl (le_t rfl) (le_t rfl) hT mF.refl ⟨(rW (c := (-2147483648)) (d := 2147483647) (rR (x := (-3))) rfl), hIJC, hIRP, hIEP, hIHP, hIUP, hIRR, hIG1, hIEV, hIPK, (Or.inr ⟨(badP.n (vc_X12_prefix_v_13 h124.2.1 h124.2.2.1 h130 h126 h131 h129) (andMk h135.2.1 q138 q141) (vc_X12_goes_7 h143 h144)), Or.inr ⟨(h148.2.2.2.1 (vc_X12_prefix_v_15 h148.2.1 h150 h151)), Or.inl ⟨(vc_X12_prefix_v_20 h152 h169), rfl⟩⟩⟩), (Or.inr ⟨vc_X11_prefix_v_22, rfl⟩), trivial⟩
    have h170 : 0 ≤ z149 ∧ z149 ≤ 9 := (vc_X12_prefix_v_22 h150 h148.2.1 h148.1)
    refine mr_bipush (pc := 34) (z := (-2)) dX12_prefix_34 (by decide) ?_
    exact mr_iret dX12_prefix_36 rfl (le_t rfl) (le_t rfl) hT mF.refl ⟨(rW (c := (-2147483648)) (d := 2147483647) (rR (x := (-2))) rfl), hIJC, hIRP, hIEP, hIHP, hIUP, hIRR, hIG1, hIEV, hIPK, (Or.inr ⟨(badP.n (vc_X12_prefix_v_13 h124.2.1 h124.2.2.1 h130 h126 h131 h129) (andMk h135.2.1 q138 q141) (vc_X12_goes_7 h143 h144)), Or.inl ⟨h148.2.2.1 (vc_X12_prefix_v_23 h148.2.1 h150 h170), rfl⟩⟩), (Or.inr ⟨vc_X11_prefix_v_25, rfl⟩), trivial⟩
  refine mr_iconst (pc := 21) (z := (-1)) dX12_prefix_21 ?_
  exact mr_iret dX12_prefix_22 rfl (le_t rfl) (le_t rfl) hT mF.refl ⟨(rW (c := (-2147483648)) (d := 2147483647) (rR (x := (-1))) rfl), hIJC, hIRP, hIEP, hIHP, hIUP, hIRR, hIG1, hIEV, hIPK, (Or.inl ⟨badP.a (andMk h135.2.1 q138 q141) (vc_X11_prefix_v_26 h143 h142), rfl⟩), (Or.inr ⟨vc_X12_raise_u_49, rfl⟩), trivial⟩
theorem vc_X11_announce_v_1 {f_dm p1 z128 : Int} (h0 : z128 = 0) (h1 : (z128 = 1 → 0 ≤ p1 ∧ p1 < f_dm)) (h2 : (z128 = 0 → p1 < 0 ∨ f_dm ≤ p1)) (h3 : 0 ≤ f_dm ∧ f_dm ≤ 10) (h4 : (-2147483648) ≤ p1 ∧ p1 ≤ 2147483647) (h5 : 0 ≤ z128 ∧ z128 ≤ 1) : 0 ≤ z128 ∧ z128 ≤ 0 := by omega
theorem vc_X11_announce_v_2 {f_dm n0 p1 z128 : Int} (h0 : (z128 = 1 → 0 ≤ p1 ∧ p1 < f_dm)) (h1 : (z128 = 0 → p1 < 0 ∨ f_dm ≤ p1)) (h2 : z128 = 0) (h3 : f_dm = n0) (h4 : 0 ≤ f_dm ∧ f_dm ≤ 10) (h5 : (-2147483648) ≤ p1 ∧ p1 ≤ 2147483647) (h6 : 0 ≤ z128 ∧ z128 ≤ 0) : z128 = 0 := by omega
theorem vc_X11_announce_v_3 {f_dm f_n n0 p1 p2 p3 z128 : Int} (h0 : f_dm = n0) (h1 : (z128 = 1 → 0 ≤ p1 ∧ p1 < f_dm)) (h2 : (z128 = 0 → p1 < 0 ∨ f_dm ≤ p1)) (h3 : p1 < 0 ∨ f_dm ≤ p1) (h4 : z128 = 0) (h5 : 0 ≤ f_dm ∧ f_dm ≤ 10) (h6 : 0 ≤ f_n ∧ f_n ≤ 10) (h7 : (-2147483648) ≤ p1 ∧ p1 ≤ 2147483647) (h8 : (-2147483648) ≤ p2 ∧ p2 ≤ 2147483647) (h9 : (-2147483648) ≤ p3 ∧ p3 ≤ 2147483647) (h10 : 0 ≤ z128 ∧ z128 ≤ 0) : p1 < 0 ∨ f_dm ≤ p1 ∨ p2 < 0 ∨ f_n ≤ p2 ∨ p3 < 0 ∨ 2 < p3 := by omega
theorem vc_X11_announce_v_5 {f_dm p1 z128 : Int} (h0 : ¬ z128 = 0) (h1 : (z128 = 1 → 0 ≤ p1 ∧ p1 < f_dm)) (h2 : (z128 = 0 → p1 < 0 ∨ f_dm ≤ p1)) (h3 : 0 ≤ f_dm ∧ f_dm ≤ 10) (h4 : (-2147483648) ≤ p1 ∧ p1 ≤ 2147483647) (h5 : 0 ≤ z128 ∧ z128 ≤ 1) : 1 ≤ z128 ∧ z128 ≤ 1 := by omega
theorem vc_X11_announce_v_6 {f_dm n0 p1 z128 : Int} (h0 : (z128 = 1 → 0 ≤ p1 ∧ p1 < f_dm)) (h1 : (z128 = 0 → p1 < 0 ∨ f_dm ≤ p1)) (h2 : ¬ z128 = 0) (h3 : f_dm = n0) (h4 : 0 ≤ f_dm ∧ f_dm ≤ 10) (h5 : (-2147483648) ≤ p1 ∧ p1 ≤ 2147483647) (h6 : 1 ≤ z128 ∧ z128 ≤ 1) : z128 = 1 := by omega
theorem vc_X11_announce_v_7 {f_dm n0 p1 z128 : Int} (h0 : 0 ≤ p1 ∧ p1 < f_dm) (h1 : f_dm = n0) (h2 : (z128 = 1 → 0 ≤ p1 ∧ p1 < f_dm)) (h3 : (z128 = 0 → p1 < 0 ∨ f_dm ≤ p1)) (h4 : 0 ≤ f_dm ∧ f_dm ≤ 10) (h5 : (-2147483648) ≤ p1 ∧ p1 ≤ 2147483647) (h6 : 1 ≤ z128 ∧ z128 ≤ 1) : 0 ≤ p1 ∧ p1 ≤ 9 := by omega
theorem vc_X11_announce_v_9 {f_n p2 z139 : Int} (h0 : (z139 = 1 → 0 ≤ p2 ∧ p2 < f_n)) (h1 : (z139 = 0 → p2 < 0 ∨ f_n ≤ p2)) (h2 : z139 = 0) (h3 : 0 ≤ f_n ∧ f_n ≤ 10) (h4 : (-2147483648) ≤ p2 ∧ p2 ≤ 2147483647) (h5 : 0 ≤ z139 ∧ z139 ≤ 0) : z139 = 0 := by omega
theorem vc_X11_announce_v_10 {f_dm f_n n0 p1 p2 p3 z128 z139 : Int} (h0 : f_dm = n0) (h1 : (z128 = 1 → 0 ≤ p1 ∧ p1 < f_dm)) (h2 : (z128 = 0 → p1 < 0 ∨ f_dm ≤ p1)) (h3 : 0 ≤ p1 ∧ p1 < f_dm) (h4 : (z139 = 1 → 0 ≤ p2 ∧ p2 < f_n)) (h5 : (z139 = 0 → p2 < 0 ∨ f_n ≤ p2)) (h6 : p2 < 0 ∨ f_n ≤ p2) (h7 : ¬ z128 = 0) (h8 : z139 = 0) (h9 : 0 ≤ f_dm ∧ f_dm ≤ 10) (h10 : 0 ≤ f_n ∧ f_n ≤ 10) (h11 : 0 ≤ p1 ∧ p1 ≤ 9) (h12 : (-2147483648) ≤ p2 ∧ p2 ≤ 2147483647) (h13 : (-2147483648) ≤ p3 ∧ p3 ≤ 2147483647) (h14 : 1 ≤ z128 ∧ z128 ≤ 1) (h15 : 0 ≤ z139 ∧ z139 ≤ 0) : p1 < 0 ∨ f_dm ≤ p1 ∨ p2 < 0 ∨ f_n ≤ p2 ∨ p3 < 0 ∨ 2 < p3 := by omega
theorem vc_X11_announce_v_12 {f_n p2 z139 : Int} (h0 : (z139 = 1 → 0 ≤ p2 ∧ p2 < f_n)) (h1 : (z139 = 0 → p2 < 0 ∨ f_n ≤ p2)) (h2 : ¬ z139 = 0) (h3 : 0 ≤ f_n ∧ f_n ≤ 10) (h4 : (-2147483648) ≤ p2 ∧ p2 ≤ 2147483647) (h5 : 1 ≤ z139 ∧ z139 ≤ 1) : z139 = 1 := by omega
theorem vc_X11_announce_v_13 {f_n p2 z139 : Int} (h0 : 0 ≤ p2 ∧ p2 < f_n) (h1 : (z139 = 1 → 0 ≤ p2 ∧ p2 < f_n)) (h2 : (z139 = 0 → p2 < 0 ∨ f_n ≤ p2)) (h3 : 0 ≤ f_n ∧ f_n ≤ 10) (h4 : (-2147483648) ≤ p2 ∧ p2 ≤ 2147483647) (h5 : 1 ≤ z139 ∧ z139 ≤ 1) : 0 ≤ p2 ∧ p2 ≤ 9 := by omega
theorem vc_X11_announce_v_14 {f_n p2 z139 : Int} (h0 : 0 ≤ p2 ∧ p2 < f_n) (h1 : (z139 = 1 → 0 ≤ p2 ∧ p2 < f_n)) (h2 : (z139 = 0 → p2 < 0 ∨ f_n ≤ p2)) (h3 : 0 ≤ f_n ∧ f_n ≤ 10) (h4 : 0 ≤ p2 ∧ p2 ≤ 9) (h5 : 1 ≤ z139 ∧ z139 ≤ 1) : 1 ≤ f_n ∧ f_n ≤ 10 := by omega
theorem vc_X11_announce_v_16 {f_dm f_n n0 p1 p2 p3 z128 z139 : Int} (h0 : f_dm = n0) (h1 : (z128 = 1 → 0 ≤ p1 ∧ p1 < f_dm)) (h2 : (z128 = 0 → p1 < 0 ∨ f_dm ≤ p1)) (h3 : 0 ≤ p1 ∧ p1 < f_dm) (h4 : (z139 = 1 → 0 ≤ p2 ∧ p2 < f_n)) (h5 : (z139 = 0 → p2 < 0 ∨ f_n ≤ p2)) (h6 : 0 ≤ p2 ∧ p2 < f_n) (h7 : p3 < 0) (h8 : ¬ z128 = 0) (h9 : ¬ z139 = 0) (h10 : 0 ≤ f_dm ∧ f_dm ≤ 10) (h11 : 1 ≤ f_n ∧ f_n ≤ 10) (h12 : 0 ≤ p1 ∧ p1 ≤ 9) (h13 : 0 ≤ p2 ∧ p2 ≤ 9) (h14 : (-2147483648) ≤ p3 ∧ p3 ≤ (-1)) (h15 : 1 ≤ z128 ∧ z128 ≤ 1) (h16 : 1 ≤ z139 ∧ z139 ≤ 1) : p1 < 0 ∨ f_dm ≤ p1 ∨ p2 < 0 ∨ f_n ≤ p2 ∨ p3 < 0 ∨ 2 < p3 := by omega
theorem vc_X11_announce_v_19 {f_dm n0 p1 z128 : Int} (h0 : f_dm = n0) (h1 : (z128 = 1 → 0 ≤ p1 ∧ p1 < f_dm)) (h2 : (z128 = 0 → p1 < 0 ∨ f_dm ≤ p1)) (h3 : 0 ≤ p1 ∧ p1 < f_dm) (h4 : ¬ z128 = 0) (h5 : 0 ≤ f_dm ∧ f_dm ≤ 10) (h6 : 0 ≤ p1 ∧ p1 ≤ 9) (h7 : 1 ≤ z128 ∧ z128 ≤ 1) : p1 < n0 := by omega
theorem vc_X11_announce_v_20 {f_dm f_n n0 p1 p2 p3 z128 z139 z156 : Int} (h0 : f_dm = n0) (h1 : (z128 = 1 → 0 ≤ p1 ∧ p1 < f_dm)) (h2 : (z128 = 0 → p1 < 0 ∨ f_dm ≤ p1)) (h3 : 0 ≤ p1 ∧ p1 < f_dm) (h4 : (z139 = 1 → 0 ≤ p2 ∧ p2 < f_n)) (h5 : (z139 = 0 → p2 < 0 ∨ f_n ≤ p2)) (h6 : 0 ≤ p2 ∧ p2 < f_n) (h7 : 0 ≤ p3) (h8 : p3 ≤ 2) (h9 : ¬ z156 = p3) (h10 : ¬ z128 = 0) (h11 : ¬ z139 = 0) (h12 : 0 ≤ f_dm ∧ f_dm ≤ 10) (h13 : 1 ≤ f_n ∧ f_n ≤ 10) (h14 : 0 ≤ p1 ∧ p1 ≤ 9) (h15 : 0 ≤ p2 ∧ p2 ≤ 9) (h16 : 0 ≤ p3 ∧ p3 ≤ 2) (h17 : 1 ≤ z128 ∧ z128 ≤ 1) (h18 : 1 ≤ z139 ∧ z139 ≤ 1) (h19 : (-1) ≤ z156 ∧ z156 ≤ 2) : ¬ (p1 < 0 ∨ f_dm ≤ p1 ∨ p2 < 0 ∨ f_n ≤ p2 ∨ p3 < 0 ∨ 2 < p3) := by omega
theorem vc_X11_announce_v_21 {p3 z156 : Int} (h0 : 0 ≤ p3) (h1 : p3 ≤ 2) (h2 : ¬ z156 = p3) (h3 : 0 ≤ p3 ∧ p3 ≤ 2) (h4 : (-1) ≤ z156 ∧ z156 ≤ 2) : ¬ z156 = p3 := by omega
theorem vc_X11_announce_v_22 {f_n p2 z139 : Int} (h0 : (z139 = 1 → 0 ≤ p2 ∧ p2 < f_n)) (h1 : (z139 = 0 → p2 < 0 ∨ f_n ≤ p2)) (h2 : 0 ≤ p2 ∧ p2 < f_n) (h3 : ¬ z139 = 0) (h4 : 1 ≤ f_n ∧ f_n ≤ 10) (h5 : 0 ≤ p2 ∧ p2 ≤ 9) (h6 : 1 ≤ z139 ∧ z139 ≤ 1) : 0 ≤ p2 := by omega
theorem vc_X11_announce_v_24 {p3 z156 : Int} (h0 : 0 ≤ p3) (h1 : p3 ≤ 2) (h2 : ¬ z156 = p3) (h3 : 0 ≤ p3 ∧ p3 ≤ 2) (h4 : (-1) ≤ z156 ∧ z156 ≤ 2) : p3 = p3 := by omega
theorem vc_X11_announce_v_25 {p3 z156 : Int} (h0 : z156 = p3) (h1 : 0 ≤ p3) (h2 : p3 ≤ 2) (h3 : 0 ≤ p3 ∧ p3 ≤ 2) (h4 : (-1) ≤ z156 ∧ z156 ≤ 2) : 0 ≤ z156 ∧ z156 ≤ 2 := by omega
theorem vc_X11_announce_v_26 {f_dm f_n n0 p1 p2 p3 z128 z139 z156 : Int} (h0 : f_dm = n0) (h1 : (z128 = 1 → 0 ≤ p1 ∧ p1 < f_dm)) (h2 : (z128 = 0 → p1 < 0 ∨ f_dm ≤ p1)) (h3 : 0 ≤ p1 ∧ p1 < f_dm) (h4 : (z139 = 1 → 0 ≤ p2 ∧ p2 < f_n)) (h5 : (z139 = 0 → p2 < 0 ∨ f_n ≤ p2)) (h6 : 0 ≤ p2 ∧ p2 < f_n) (h7 : 0 ≤ p3) (h8 : p3 ≤ 2) (h9 : z156 = p3) (h10 : ¬ z128 = 0) (h11 : ¬ z139 = 0) (h12 : 0 ≤ f_dm ∧ f_dm ≤ 10) (h13 : 1 ≤ f_n ∧ f_n ≤ 10) (h14 : 0 ≤ p1 ∧ p1 ≤ 9) (h15 : 0 ≤ p2 ∧ p2 ≤ 9) (h16 : 0 ≤ p3 ∧ p3 ≤ 2) (h17 : 1 ≤ z128 ∧ z128 ≤ 1) (h18 : 1 ≤ z139 ∧ z139 ≤ 1) (h19 : 0 ≤ z156 ∧ z156 ≤ 2) : ¬ (p1 < 0 ∨ f_dm ≤ p1 ∨ p2 < 0 ∨ f_n ≤ p2 ∨ p3 < 0 ∨ 2 < p3) := by omega
theorem vc_X11_announce_v_27 {p3 z156 : Int} (h0 : 0 ≤ p3) (h1 : p3 ≤ 2) (h2 : z156 = p3) (h3 : 0 ≤ p3 ∧ p3 ≤ 2) (h4 : 0 ≤ z156 ∧ z156 ≤ 2) : z156 = p3 := by omega
theorem vc_X11_announce_v_30 {f_dm f_n n0 p1 p2 p3 z128 z139 : Int} (h0 : f_dm = n0) (h1 : (z128 = 1 → 0 ≤ p1 ∧ p1 < f_dm)) (h2 : (z128 = 0 → p1 < 0 ∨ f_dm ≤ p1)) (h3 : 0 ≤ p1 ∧ p1 < f_dm) (h4 : (z139 = 1 → 0 ≤ p2 ∧ p2 < f_n)) (h5 : (z139 = 0 → p2 < 0 ∨ f_n ≤ p2)) (h6 : 0 ≤ p2 ∧ p2 < f_n) (h7 : 0 ≤ p3) (h8 : 2 < p3) (h9 : ¬ z128 = 0) (h10 : ¬ z139 = 0) (h11 : 0 ≤ f_dm ∧ f_dm ≤ 10) (h12 : 1 ≤ f_n ∧ f_n ≤ 10) (h13 : 0 ≤ p1 ∧ p1 ≤ 9) (h14 : 0 ≤ p2 ∧ p2 ≤ 9) (h15 : 3 ≤ p3 ∧ p3 ≤ 2147483647) (h16 : 1 ≤ z128 ∧ z128 ≤ 1) (h17 : 1 ≤ z139 ∧ z139 ≤ 1) : p1 < 0 ∨ f_dm ≤ p1 ∨ p2 < 0 ∨ f_n ≤ p2 ∨ p3 < 0 ∨ 2 < p3 := by omega
set_option maxRecDepth 4000 in
set_option maxHeartbeats 4000000 in
theorem c_X11_announce_v {l : Launch} {D : va_G} {c : Nat → ClassId} {H0 : Heap} {sa : Nat × Nat × (Nat → Int32)} {w : mW} {μ : mM} (hw : mWF w) (hT : mT w μ) {p1 : Int} (hp1 : (-2147483648) ≤ p1 ∧ p1 ≤ 2147483647) {p2 : Int} (hp2 : (-2147483648) ≤ p2 ∧ p2 ≤ 2147483647) {p3 : Int} (hp3 : (-2147483648) ≤ p3 ∧ p3 ≤ 2147483647) {f_dm : Int} (q_f_dm : μ 6 15 = f_dm) {f_n : Int} (q_f_n : μ 6 14 = f_n) (hIPC : PC w μ) : sC (gG l D c H0 sa) mX11_announce 43 0 0 [.ref 0, iv p1, iv p2, iv p3] (mk w μ) (qI w [21002, 21003, 21004, 21005, 21006, 21007, 32009, 32010, 33999, 34999, 66999, 200002, 200003, 200004, 200005, 200006, 200007, 200008, 200009, 200010, 200011, 201999, 202999, 212999, 213999] μ (fun z μ1 => ((-2147483648) ≤ z ∧ z ≤ 2147483647) ∧ (anA (p1 < 0 ∨ f_dm ≤ p1 ∨ p2 < 0 ∨ f_n ≤ p2 ∨ p3 < 0 ∨ 2 < p3) (bg μ p1.toNat p2.toNat) p3 z) ∧ (anC w μ μ1 p1 p2 p3 z) ∧ True)) := by
  refine sC.of rfl (by decide) (le_t rfl) ?_
  have ht_f_dm : (f_dm = w.2.2.2 0 ∧ 0 ≤ f_dm ∧ f_dm ≤ 10) := by rw [← q_f_dm]; exact hT 6 6 (A_6 hw) 15
  have ht_f_n : (0 ≤ f_n ∧ f_n ≤ 10) := by rw [← q_f_n]; exact hT 6 6 (A_6 hw) 14
  refine mr_lvE (lv' := [(0, .ref 0), (1, iv p1), (2, iv p2), (3, iv p3)]) rfl ?_
  refine sv_aload_n (pc := 0) dX11_announce_0 rfl rfl ?_
  refine mr_iload_n (pc := 1) (z := p1) dX11_announce_1 rfl rfl ?_
  refine mr_cVP (pc := 2) (c_X11_isDomain hw hT hp1 q_f_dm) (gOk _ _ _ _ _) dX11_announce_2 (tX11_isDomain _ _ _ _ _) ⟨wV_X11_isDomain, wL_X11_isDomain⟩ wM_X11_105 (gCX11 _ _ _ _ _) rfl (A_0 hw) rfl ⟨le_t rfl, le_t rfl⟩ ⟨le_t rfl, le_t rfl⟩ rfl (le_t rfl) fun z128 h127 => ?_
  refine mr_if_eq (pc := 5) (tgt := 25) dX11_announce_5 (by decide) (r32 h127.1 rfl) (fun h129 => ?_) (fun h129 => ?_)
  · have h130 : 0 ≤ z128 ∧ z128 ≤ 0 := (vc_X11_announce_v_1 h129 h127.2.1 h127.2.2.1 ht_f_dm.2 hp1 h127.1)
    have h131 : p1 < 0 ∨ f_dm ≤ p1 := (h127.2.2.1 (vc_X11_announce_v_2 h127.2.1 h127.2.2.1 h129 ht_f_dm.1 ht_f_dm.2 hp1 h130))
    refine mr_iconst (pc := 25) (z := (-1)) dX11_announce_25 ?_
    exact mr_iret dX11_announce_26 rfl (le_t rfl) (le_t rfl) hT mF.refl ⟨(rW (c := (-2147483648)) (d := 2147483647) (rR (x := (-1))) rfl), (Or.inl ⟨(vc_X11_announce_v_3 ht_f_dm.1 h127.2.1 h127.2.2.1 h131 h129 ht_f_dm.2 ht_f_n hp1 hp2 hp3 h130), rfl⟩), (Or.inl ⟨vc_X12_raise_u_49, rfl⟩), trivial⟩
  have h132 : 1 ≤ z128 ∧ z128 ≤ 1 := (vc_X11_announce_v_5 h129 h127.2.1 h127.2.2.1 ht_f_dm.2 hp1 h127.1)
  have h133 : 0 ≤ p1 ∧ p1 < f_dm := (h127.2.1 (vc_X11_announce_v_6 h127.2.1 h127.2.2.1 h129 ht_f_dm.1 ht_f_dm.2 hp1 h132))
  have h134 : 0 ≤ p1 ∧ p1 ≤ 9 := (vc_X11_announce_v_7 h133 ht_f_dm.1 h127.2.1 h127.2.2.1 ht_f_dm.2 hp1 h132)
  refine sv_aload_n (pc := 8) dX11_announce_8 rfl rfl ?_
  refine mr_iload_n (pc := 9) (z := p2) dX11_announce_9 rfl rfl ?_
  refine mr_cVP (pc := 10) (c_X11_isPrefix hw hT hp2 q_f_n) (gOk _ _ _ _ _) dX11_announce_10 (tX11_isPrefix _ _ _ _ _) ⟨wV_X11_isPrefix, wL_X11_isPrefix⟩ wM_X11_182 (gCX11 _ _ _ _ _) rfl (A_0 hw) rfl ⟨le_t rfl, le_t rfl⟩ ⟨le_t rfl, le_t rfl⟩ rfl (le_t rfl) fun z139 h138 => ?_
  refine mr_if_eq (pc := 13) (tgt := 25) dX11_announce_13 (by decide) (r32 h138.1 rfl) (fun h140 => ?_) (fun h140 => ?_)
  · have h141 : 0 ≤ z139 ∧ z139 ≤ 0 := (vc_X11_announce_v_1 h140 h138.2.1 h138.2.2.1 ht_f_n hp2 h138.1)
    have h142 : p2 < 0 ∨ f_n ≤ p2 := (h138.2.2.1 (vc_X11_announce_v_9 h138.2.1 h138.2.2.1 h140 ht_f_n hp2 h141))
    refine mr_iconst (pc := 25) (z := (-1)) dX11_announce_25 ?_
    exact mr_iret dX11_announce_26 rfl (le_t rfl) (le_t rfl) hT mF.refl ⟨(rW (c := (-2147483648)) (d := 2147483647) (rR (x := (-1))) rfl), (Or.inl ⟨(vc_X11_announce_v_10 ht_f_dm.1 h127.2.1 h127.2.2.1 h133 h138.2.1 h138.2.2.1 h142 h129 h140 ht_f_dm.2 ht_f_n h134 hp2 hp3 h132 h141), rfl⟩), (Or.inl ⟨vc_X12_raise_u_49, rfl⟩), trivial⟩
  have h143 : 1 ≤ z139 ∧ z139 ≤ 1 := (vc_X11_announce_v_5 h140 h138.2.1 h138.2.2.1 ht_f_n hp2 h138.1)
  have h144 : 0 ≤ p2 ∧ p2 < f_n := (h138.2.1 (vc_X11_announce_v_12 h138.2.1 h138.2.2.1 h140 ht_f_n hp2 h143))
  have h145 : 0 ≤ p2 ∧ p2 ≤ 9 := (vc_X11_announce_v_13 h144 h138.2.1 h138.2.2.1 ht_f_n hp2 h143)
  have h146 : 1 ≤ f_n ∧ f_n ≤ 10 := (vc_X11_announce_v_14 h144 h138.2.1 h138.2.2.1 ht_f_n h145 h143)
  refine mr_iload_n (pc := 16) (z := p3) dX11_announce_16 rfl rfl ?_
  refine mr_if_lt (pc := 17) (tgt := 25) dX11_announce_17 (by decide) hp3 (fun h147 => ?_) (fun h147 => ?_)
  · have h148 : (-2147483648) ≤ p3 ∧ p3 ≤ (-1) := (vc_X12_cut_1 h147 hp3)
    refine mr_iconst (pc := 25) (z := (-1)) dX11_announce_25 ?_
    exact mr_iret dX11_announce_26 rfl (le_t rfl) (le_t rfl) hT mF.refl ⟨(rW (c := (-2147483648)) (d := 2147483647) (rR (x := (-1))) rfl), (Or.inl ⟨(vc_X11_announce_v_16 ht_f_dm.1 h127.2.1 h127.2.2.1 h133 h138.2.1 h138.2.2.1 h144 h147 h129 h140 ht_f_dm.2 h146 h134 h145 h148 h132 h143), rfl⟩), (Or.inl ⟨vc_X12_raise_u_49, rfl⟩), trivial⟩
  have h149 : 0 ≤ p3 ∧ p3 ≤ 2147483647 := (vc_X12_cut_2 h147 hp3)
  refine mr_iload_n (pc := 20) (z := p3) dX11_announce_20 rfl rfl ?_
  refine mr_iconst (pc := 21) (z := 2) dX11_announce_21 ?_
  refine mr_icmp_le (pc := 22) (tgt := 27) dX11_announce_22 (by decide) (r32 h149 rfl) (r32 (rR (x := 2)) rfl) (fun h150 => ?_) (fun h150 => ?_)
  · have h151 : 0 ≤ p3 ∧ p3 ≤ 2 := (vc_X11_route_13 h150 h147 h149)
    refine sv_aload_n (pc := 27) dX11_announce_27 rfl rfl ?_
    refine gf_X11_3 (pc := 28) dX11_announce_28 wF_X11_26 (A_0 hw) hT ?_
    refine gf_X10_3 (pc := 31) dX11_announce_31 wF_X11_283 (A_6 hw) hT ?_
    refine mr_iload_n (pc := 34) (z := p1) dX11_announce_34 rfl rfl ?_
    refine la_10 (pc := 35) dX11_announce_35 (A_10 hw) hT (rIx (n := 10) h134 rfl) (vc_X11_announce_v_19 ht_f_dm.1 h127.2.1 h127.2.2.1 h133 h129 ht_f_dm.2 h134 h132) fun b152 q153 A154 => ?_
    refine gf_X0_1 (pc := 36) dX11_announce_36 wF_X11_293 A154 hT fun A155 => ?_
    refine mr_iload_n (pc := 39) (z := p2) dX11_announce_39 rfl rfl ?_
    refine la_212 (pc := 40) dX11_announce_40 A155 hT (rIx (n := 10) h145 rfl) fun z156 q157 h158 => ?_
    refine mr_iload_n (pc := 41) (z := p3) dX11_announce_41 rfl rfl ?_
    refine mr_icmp_ne (pc := 42) (tgt := 48) dX11_announce_42 (by decide) (r32 h158 rfl) (r32 h151 rfl) (fun h159 => ?_) (fun h159 => ?_)
    · refine sv_aload_n (pc := 48) dX11_announce_48 rfl rfl ?_
      refine gf_X11_3 (pc := 49) dX11_announce_49 wF_X11_26 (A_0 hw) hT ?_
      refine gf_X10_3 (pc := 52) dX11_announce_52 wF_X11_283 (A_6 hw) hT ?_
      refine mr_iload_n (pc := 55) (z := p1) dX11_announce_55 rfl rfl ?_
      refine lk_10 (pc := 56) dX11_announce_56 (A_10 hw) (rIx (n := 10) h134 rfl) q153 ?_
      refine gf_X0_1 (pc := 57) dX11_announce_57 wF_X11_293 A154 hT fun A160 => ?_
      refine mr_iload_n (pc := 60) (z := p2) dX11_announce_60 rfl rfl ?_
      refine mr_iload_n (pc := 61) (z := p3) dX11_announce_61 rfl rfl ?_
      refine ss_212 (pc := 62) dX11_announce_62 A160 hT (rIx (n := 10) h145 rfl) (rW (c := (-1)) (d := 2) h151 rfl) fun μ161 u162 T163 => ?_
      refine sv_aload_n (pc := 63) dX11_announce_63 rfl rfl ?_
      refine gf_X11_6 (pc := 64) dX11_announce_64 wF_X11_51 (A_0 hw) T163 ?_
      refine mr_iload_n (pc := 67) (z := p1) dX11_announce_67 rfl rfl ?_
      refine mr_iload_n (pc := 68) (z := p2) dX11_announce_68 rfl rfl ?_
      refine mr_cVV (pc := 69) (c_X8_look hw T163 h134 h145 (vc_X11_announce_v_19 ht_f_dm.1 h127.2.1 h127.2.2.1 h133 h129 ht_f_dm.2 h134 h132) (PC.keep hIPC hw ((mF.up mF.refl A160 u162 rfl) : mF [212999] w μ μ161) rfl)) (gOk _ _ _ _ _) dX11_announce_69 (tX8_look _ _ _ _ _) ⟨wV_X8_look, wL_X8_look⟩ wM_X11_296 (gCX8 _ _ _ _ _) rfl (A_32 hw) rfl ⟨le_t rfl, le_t rfl⟩ ⟨le_t rfl, le_t rfl⟩ rfl (le_t rfl) fun μ164 T165 F166 h167 => ?_
      refine mr_iconst (pc := 72) (z := 0) dX11_announce_72 ?_
      exact mr_iret dX11_announce_73 rfl (le_t rfl) (le_t rfl) T165 (mF.call (mF.up mF.refl A160 u162 rfl) F166 rfl) ⟨(rW (c := (-2147483648)) (d := 2147483647) (rR (x := 0)) rfl), (Or.inr ⟨(vc_X11_announce_v_20 ht_f_dm.1 h127.2.1 h127.2.2.1 h133 h138.2.1 h138.2.2.1 h144 h147 h150 h159 h129 h140 ht_f_dm.2 h146 h134 h145 h151 h132 h143 h158), Or.inr ⟨(by rw [(bgOf q153 q157)]; exact (vc_X11_announce_v_21 h147 h150 h159 h151 h158)), rfl⟩⟩), (Or.inr ⟨vc_X12_through_6, b152, q153, (oneR.fr (oneR.up oneR.refl (vc_X11_announce_v_22 h138.2.1 h138.2.2.1 h144 h140 h146 h145 h143) u162) F166 rfl rfl), (F166.f A155 rfl u162.1).trans (vc_X11_announce_v_24 h147 h150 h159 h151 h158)⟩), trivial⟩
    have h168 : 0 ≤ z156 ∧ z156 ≤ 2 := (vc_X11_announce_v_25 h159 h147 h150 h151 h158)
    refine mr_bipush (pc := 45) (z := (-2)) dX11_announce_45 (by decide) ?_
    exact mr_iret dX11_announce_47 rfl (le_t rfl) (le_t rfl) hT mF.refl ⟨(rW (c := (-2147483648)) (d := 2147483647) (rR (x := (-2))) rfl), (Or.inr ⟨(vc_X11_announce_v_26 ht_f_dm.1 h127.2.1 h127.2.2.1 h133 h138.2.1 h138.2.2.1 h144 h147 h150 h159 h129 h140 ht_f_dm.2 h146 h134 h145 h151 h132 h143 h168), Or.inl ⟨(by rw [(bgOf q153 q157)]; exact (vc_X11_announce_v_27 h147 h150 h159 h151 h168)), rfl⟩⟩), (Or.inl ⟨vc_X11_prefix_v_25, rfl⟩), trivial⟩
  have h169 : 3 ≤ p3 ∧ p3 ≤ 2147483647 := (vc_X11_route_12 h150 h147 h149)
  refine mr_iconst (pc := 25) (z := (-1)) dX11_announce_25 ?_
  exact mr_iret dX11_announce_26 rfl (le_t rfl) (le_t rfl) hT mF.refl ⟨(rW (c := (-2147483648)) (d := 2147483647) (rR (x := (-1))) rfl), (Or.inl ⟨(vc_X11_announce_v_30 ht_f_dm.1 h127.2.1 h127.2.2.1 h133 h138.2.1 h138.2.2.1 h144 h147 h150 h129 h140 ht_f_dm.2 h146 h134 h145 h169 h132 h143), rfl⟩), (Or.inl ⟨vc_X12_raise_u_49, rfl⟩), trivial⟩
theorem vc_X12_announce_v_3 {f_dm f_n p1 p2 p3 z131 : Int} (h0 : (z131 = 1 → 0 ≤ p1 ∧ p1 < f_dm)) (h1 : (z131 = 0 → p1 < 0 ∨ f_dm ≤ p1)) (h2 : p1 < 0 ∨ f_dm ≤ p1) (h3 : z131 = 0) (h4 : 0 ≤ f_dm ∧ f_dm ≤ 10) (h5 : 0 ≤ f_n ∧ f_n ≤ 10) (h6 : (-2147483648) ≤ p1 ∧ p1 ≤ 2147483647) (h7 : (-2147483648) ≤ p2 ∧ p2 ≤ 2147483647) (h8 : (-2147483648) ≤ p3 ∧ p3 ≤ 2147483647) (h9 : 0 ≤ z131 ∧ z131 ≤ 0) : p1 < 0 ∨ f_dm ≤ p1 ∨ p2 < 0 ∨ f_n ≤ p2 ∨ p3 < 0 ∨ 2 < p3 := by omega
theorem vc_X12_announce_v_10 {f_dm f_n p1 p2 p3 z131 z142 : Int} (h0 : (z131 = 1 → 0 ≤ p1 ∧ p1 < f_dm)) (h1 : (z131 = 0 → p1 < 0 ∨ f_dm ≤ p1)) (h2 : 0 ≤ p1 ∧ p1 < f_dm) (h3 : (z142 = 1 → 0 ≤ p2 ∧ p2 < f_n)) (h4 : (z142 = 0 → p2 < 0 ∨ f_n ≤ p2)) (h5 : p2 < 0 ∨ f_n ≤ p2) (h6 : ¬ z131 = 0) (h7 : z142 = 0) (h8 : 0 ≤ f_dm ∧ f_dm ≤ 10) (h9 : 0 ≤ f_n ∧ f_n ≤ 10) (h10 : 0 ≤ p1 ∧ p1 ≤ 9) (h11 : (-2147483648) ≤ p2 ∧ p2 ≤ 2147483647) (h12 : (-2147483648) ≤ p3 ∧ p3 ≤ 2147483647) (h13 : 1 ≤ z131 ∧ z131 ≤ 1) (h14 : 0 ≤ z142 ∧ z142 ≤ 0) : p1 < 0 ∨ f_dm ≤ p1 ∨ p2 < 0 ∨ f_n ≤ p2 ∨ p3 < 0 ∨ 2 < p3 := by omega
theorem vc_X12_announce_v_18 {f_n p2 z142 : Int} (h0 : (z142 = 1 → 0 ≤ p2 ∧ p2 < f_n)) (h1 : (z142 = 0 → p2 < 0 ∨ f_n ≤ p2)) (h2 : 0 ≤ p2 ∧ p2 < f_n) (h3 : ¬ z142 = 0) (h4 : 1 ≤ f_n ∧ f_n ≤ 10) (h5 : 0 ≤ p2 ∧ p2 ≤ 9) (h6 : 1 ≤ z142 ∧ z142 ≤ 1) : p2 < f_n := by omega
theorem vc_X12_announce_v_20 {f_dm f_n p1 p2 z131 z142 : Int} (h0 : (z131 = 1 → 0 ≤ p1 ∧ p1 < f_dm)) (h1 : (z131 = 0 → p1 < 0 ∨ f_dm ≤ p1)) (h2 : 0 ≤ p1 ∧ p1 < f_dm) (h3 : (z142 = 1 → 0 ≤ p2 ∧ p2 < f_n)) (h4 : (z142 = 0 → p2 < 0 ∨ f_n ≤ p2)) (h5 : 0 ≤ p2 ∧ p2 < f_n) (h6 : ¬ z131 = 0) (h7 : ¬ z142 = 0) (h8 : 0 ≤ f_dm ∧ f_dm ≤ 10) (h9 : 1 ≤ f_n ∧ f_n ≤ 10) (h10 : 0 ≤ p1 ∧ p1 ≤ 9) (h11 : 0 ≤ p2 ∧ p2 ≤ 9) (h12 : 1 ≤ z131 ∧ z131 ≤ 1) (h13 : 1 ≤ z142 ∧ z142 ≤ 1) : (40 * (30 + ((10 * p1) + p2))) ≤ (40 * (30 + ((10 * p1) + p2))) ∧ ((40 * (30 + ((10 * p1) + p2))) + 40) ≤ ((40 * (30 + ((10 * p1) + p2))) + 40) := by omega
theorem vc_X12_announce_v_23 {f_dm f_n p1 p2 z131 z142 : Int} (h0 : (z131 = 1 → 0 ≤ p1 ∧ p1 < f_dm)) (h1 : (z131 = 0 → p1 < 0 ∨ f_dm ≤ p1)) (h2 : 0 ≤ p1 ∧ p1 < f_dm) (h3 : (z142 = 1 → 0 ≤ p2 ∧ p2 < f_n)) (h4 : (z142 = 0 → p2 < 0 ∨ f_n ≤ p2)) (h5 : 0 ≤ p2 ∧ p2 < f_n) (h6 : ¬ z131 = 0) (h7 : ¬ z142 = 0) (h8 : 0 ≤ f_dm ∧ f_dm ≤ 10) (h9 : 1 ≤ f_n ∧ f_n ≤ 10) (h10 : 0 ≤ p1 ∧ p1 ≤ 9) (h11 : 0 ≤ p2 ∧ p2 ≤ 9) (h12 : 1 ≤ z131 ∧ z131 ≤ 1) (h13 : 1 ≤ z142 ∧ z142 ≤ 1) : ((40 * (30 + ((10 * p1) + p2))) + 40) ≤ 5200 ∨ 21200 ≤ (40 * (30 + ((10 * p1) + p2))) := by omega
theorem vc_X12_announce_v_25 {f_dm f_n p1 p2 p3 z131 z142 z154 z159 : Int} (h0 : (z131 = 1 → 0 ≤ p1 ∧ p1 < f_dm)) (h1 : (z131 = 0 → p1 < 0 ∨ f_dm ≤ p1)) (h2 : 0 ≤ p1 ∧ p1 < f_dm) (h3 : (z142 = 1 → 0 ≤ p2 ∧ p2 < f_n)) (h4 : (z142 = 0 → p2 < 0 ∨ f_n ≤ p2)) (h5 : 0 ≤ p2 ∧ p2 < f_n) (h6 : (z154 = 1 → (0 : Int) ≤ p3 ∧ p3 ≤ (2 : Int))) (h7 : (z154 = 0 → p3 < (0 : Int) ∨ (2 : Int) < p3)) (h8 : (0 : Int) ≤ p3 ∧ p3 ≤ (2 : Int)) (h9 : ¬ z159 = p3) (h10 : ¬ z131 = 0) (h11 : ¬ z142 = 0) (h12 : ¬ z154 = 0) (h13 : 0 ≤ f_dm ∧ f_dm ≤ 10) (h14 : 1 ≤ f_n ∧ f_n ≤ 10) (h15 : 0 ≤ p1 ∧ p1 ≤ 9) (h16 : 0 ≤ p2 ∧ p2 ≤ 9) (h17 : 0 ≤ p3 ∧ p3 ≤ 2) (h18 : 1 ≤ z131 ∧ z131 ≤ 1) (h19 : 1 ≤ z142 ∧ z142 ≤ 1) (h20 : 1 ≤ z154 ∧ z154 ≤ 1) (h21 : (-1) ≤ z159 ∧ z159 ≤ 2) : ¬ (p1 < 0 ∨ f_dm ≤ p1 ∨ p2 < 0 ∨ f_n ≤ p2 ∨ p3 < 0 ∨ 2 < p3) := by omega
theorem vc_X12_announce_v_26 {p3 z154 z159 : Int} (h0 : (z154 = 1 → (0 : Int) ≤ p3 ∧ p3 ≤ (2 : Int))) (h1 : (z154 = 0 → p3 < (0 : Int) ∨ (2 : Int) < p3)) (h2 : (0 : Int) ≤ p3 ∧ p3 ≤ (2 : Int)) (h3 : ¬ z159 = p3) (h4 : ¬ z154 = 0) (h5 : 0 ≤ p3 ∧ p3 ≤ 2) (h6 : 1 ≤ z154 ∧ z154 ≤ 1) (h7 : (-1) ≤ z159 ∧ z159 ≤ 2) : ¬ z159 = p3 := by omega
theorem vc_X12_announce_v_27 {f_dm f_n p1 p2 z131 z142 : Int} (h0 : (z131 = 1 → 0 ≤ p1 ∧ p1 < f_dm)) (h1 : (z131 = 0 → p1 < 0 ∨ f_dm ≤ p1)) (h2 : 0 ≤ p1 ∧ p1 < f_dm) (h3 : (z142 = 1 → 0 ≤ p2 ∧ p2 < f_n)) (h4 : (z142 = 0 → p2 < 0 ∨ f_n ≤ p2)) (h5 : 0 ≤ p2 ∧ p2 < f_n) (h6 : ¬ z131 = 0) (h7 : ¬ z142 = 0) (h8 : 0 ≤ f_dm ∧ f_dm ≤ 10) (h9 : 1 ≤ f_n ∧ f_n ≤ 10) (h10 : 0 ≤ p1 ∧ p1 ≤ 9) (h11 : 0 ≤ p2 ∧ p2 ≤ 9) (h12 : 1 ≤ z131 ∧ z131 ≤ 1) (h13 : 1 ≤ z142 ∧ z142 ≤ 1) : 0 ≤ ((10 * p1) + p2) := by omega
theorem vc_X12_announce_v_29 {p3 z154 z159 : Int} (h0 : (z154 = 1 → (0 : Int) ≤ p3 ∧ p3 ≤ (2 : Int))) (h1 : (z154 = 0 → p3 < (0 : Int) ∨ (2 : Int) < p3)) (h2 : (0 : Int) ≤ p3 ∧ p3 ≤ (2 : Int)) (h3 : ¬ z159 = p3) (h4 : ¬ z154 = 0) (h5 : 0 ≤ p3 ∧ p3 ≤ 2) (h6 : 1 ≤ z154 ∧ z154 ≤ 1) (h7 : (-1) ≤ z159 ∧ z159 ≤ 2) : p3 = p3 := by omega
theorem vc_X12_announce_v_30 {p3 z154 z159 : Int} (h0 : z159 = p3) (h1 : (z154 = 1 → (0 : Int) ≤ p3 ∧ p3 ≤ (2 : Int))) (h2 : (z154 = 0 → p3 < (0 : Int) ∨ (2 : Int) < p3)) (h3 : (0 : Int) ≤ p3 ∧ p3 ≤ (2 : Int)) (h4 : 0 ≤ p3 ∧ p3 ≤ 2) (h5 : 1 ≤ z154 ∧ z154 ≤ 1) (h6 : (-1) ≤ z159 ∧ z159 ≤ 2) : 0 ≤ z159 ∧ z159 ≤ 2 := by omega
theorem vc_X12_announce_v_31 {f_dm f_n p1 p2 p3 z131 z142 z154 z159 : Int} (h0 : (z131 = 1 → 0 ≤ p1 ∧ p1 < f_dm)) (h1 : (z131 = 0 → p1 < 0 ∨ f_dm ≤ p1)) (h2 : 0 ≤ p1 ∧ p1 < f_dm) (h3 : (z142 = 1 → 0 ≤ p2 ∧ p2 < f_n)) (h4 : (z142 = 0 → p2 < 0 ∨ f_n ≤ p2)) (h5 : 0 ≤ p2 ∧ p2 < f_n) (h6 : (z154 = 1 → (0 : Int) ≤ p3 ∧ p3 ≤ (2 : Int))) (h7 : (z154 = 0 → p3 < (0 : Int) ∨ (2 : Int) < p3)) (h8 : (0 : Int) ≤ p3 ∧ p3 ≤ (2 : Int)) (h9 : z159 = p3) (h10 : ¬ z131 = 0) (h11 : ¬ z142 = 0) (h12 : ¬ z154 = 0) (h13 : 0 ≤ f_dm ∧ f_dm ≤ 10) (h14 : 1 ≤ f_n ∧ f_n ≤ 10) (h15 : 0 ≤ p1 ∧ p1 ≤ 9) (h16 : 0 ≤ p2 ∧ p2 ≤ 9) (h17 : 0 ≤ p3 ∧ p3 ≤ 2) (h18 : 1 ≤ z131 ∧ z131 ≤ 1) (h19 : 1 ≤ z142 ∧ z142 ≤ 1) (h20 : 1 ≤ z154 ∧ z154 ≤ 1) (h21 : 0 ≤ z159 ∧ z159 ≤ 2) : ¬ (p1 < 0 ∨ f_dm ≤ p1 ∨ p2 < 0 ∨ f_n ≤ p2 ∨ p3 < 0 ∨ 2 < p3) := by omega
theorem vc_X12_announce_v_32 {p3 z154 z159 : Int} (h0 : (z154 = 1 → (0 : Int) ≤ p3 ∧ p3 ≤ (2 : Int))) (h1 : (z154 = 0 → p3 < (0 : Int) ∨ (2 : Int) < p3)) (h2 : (0 : Int) ≤ p3 ∧ p3 ≤ (2 : Int)) (h3 : z159 = p3) (h4 : ¬ z154 = 0) (h5 : 0 ≤ p3 ∧ p3 ≤ 2) (h6 : 1 ≤ z154 ∧ z154 ≤ 1) (h7 : 0 ≤ z159 ∧ z159 ≤ 2) : z159 = p3 := by omega
theorem vc_X12_announce_v_36 {f_dm f_n p1 p2 p3 z131 z142 z154 : Int} (h0 : (z131 = 1 → 0 ≤ p1 ∧ p1 < f_dm)) (h1 : (z131 = 0 → p1 < 0 ∨ f_dm ≤ p1)) (h2 : 0 ≤ p1 ∧ p1 < f_dm) (h3 : (z142 = 1 → 0 ≤ p2 ∧ p2 < f_n)) (h4 : (z142 = 0 → p2 < 0 ∨ f_n ≤ p2)) (h5 : 0 ≤ p2 ∧ p2 < f_n) (h6 : (z154 = 1 → (0 : Int) ≤ p3 ∧ p3 ≤ (2 : Int))) (h7 : (z154 = 0 → p3 < (0 : Int) ∨ (2 : Int) < p3)) (h8 : p3 < (0 : Int) ∨ (2 : Int) < p3) (h9 : ¬ z131 = 0) (h10 : ¬ z142 = 0) (h11 : z154 = 0) (h12 : 0 ≤ f_dm ∧ f_dm ≤ 10) (h13 : 1 ≤ f_n ∧ f_n ≤ 10) (h14 : 0 ≤ p1 ∧ p1 ≤ 9) (h15 : 0 ≤ p2 ∧ p2 ≤ 9) (h16 : (-2147483648) ≤ p3 ∧ p3 ≤ 2147483647) (h17 : 1 ≤ z131 ∧ z131 ≤ 1) (h18 : 1 ≤ z142 ∧ z142 ≤ 1) (h19 : 0 ≤ z154 ∧ z154 ≤ 0) : p1 < 0 ∨ f_dm ≤ p1 ∨ p2 < 0 ∨ f_n ≤ p2 ∨ p3 < 0 ∨ 2 < p3 := by omega
set_option maxRecDepth 4000 in
set_option maxHeartbeats 4000000 in
theorem c_X12_announce_v {l : Launch} {D : va_G} {c : Nat → ClassId} {H0 : Heap} {sa : Nat × Nat × (Nat → Int32)} {w : mW} {μ : mM} (hw : mWF w) (hT : mT w μ) {p1 : Int} (hp1 : (-2147483648) ≤ p1 ∧ p1 ≤ 2147483647) {p2 : Int} (hp2 : (-2147483648) ≤ p2 ∧ p2 ≤ 2147483647) {p3 : Int} (hp3 : (-2147483648) ≤ p3 ∧ p3 ≤ 2147483647) {f_dm : Int} (q_f_dm : μ 106 5 = f_dm) {f_n : Int} (q_f_n : μ 106 2 = f_n) (hIJC : JC l D c H0 sa μ) (hIRP : RP μ) (hIEP : EP μ) (hIHP : HP μ) (hIUP : UP l D c H0 sa μ) (hIG1 : G1 μ) (hIEV : EV μ) (hIPK : PK μ) : sC (gG l D c H0 sa) mX12_announce 11 0 0 [.ref 106, iv p1, iv p2, iv p3] (mk w μ) (qI w [106026, 106027, 106028, 106029, 106030, 106031, 106072, 126999, 151999, 152999, 153999, 155999, 156999, 157999, 158999, 159999, 160999, 161999, 162999, 165999] μ (fun z μ1 => ((-2147483648) ≤ z ∧ z ≤ 2147483647) ∧ JC l D c H0 sa μ1 ∧ RP μ1 ∧ EP μ1 ∧ HP μ1 ∧ UP l D c H0 sa μ1 ∧ G1 μ1 ∧ EV μ1 ∧ (anA (p1 < 0 ∨ f_dm ≤ p1 ∨ p2 < 0 ∨ f_n ≤ p2 ∨ p3 < 0 ∨ 2 < p3) (μ 162 ((10 * p1) + p2).toNat) p3 z) ∧ (anR μ μ1 p1 p2 p3 z) ∧ True)) := by
  refine sC.of rfl (by decide) (le_t rfl) ?_
  have ht_f_dm : (0 ≤ f_dm ∧ f_dm ≤ 10) := by rw [← q_f_dm]; exact hT 106 106 (A_106 hw) 5
  have ht_f_n : (0 ≤ f_n ∧ f_n ≤ 10) := by rw [← q_f_n]; exact hT 106 106 (A_106 hw) 2
  refine mr_lvE (lv' := [(0, .ref 106), (1, iv p1), (2, iv p2), (3, iv p3)]) rfl ?_
  refine sv_aload_n (pc := 0) dX12_announce_0 rfl rfl ?_
  refine mr_iload_n (pc := 1) (z := p1) dX12_announce_1 rfl rfl ?_
  refine mr_cVP (pc := 2) (c_X12_isDomain hw hT hp1 q_f_dm) (gOk _ _ _ _ _) dX12_announce_2 (tX12_isDomain _ _ _ _ _) ⟨wV_X12_isDomain, wL_X12_isDomain⟩ wM_X12_49 (gCX12 _ _ _ _ _) rfl (A_106 hw) rfl ⟨le_t rfl, le_t rfl⟩ ⟨le_t rfl, le_t rfl⟩ rfl (le_t rfl) fun z131 h130 => ?_
  refine mr_if_eq (pc := 5) (tgt := 25) dX12_announce_5 (by decide) (r32 h130.1 rfl) (fun h132 => ?_) (fun h132 => ?_)
  · have h133 : 0 ≤ z131 ∧ z131 ≤ 0 := (vc_X11_announce_v_1 h132 h130.2.1 h130.2.2.1 ht_f_dm hp1 h130.1)
    have h134 : p1 < 0 ∨ f_dm ≤ p1 := (h130.2.2.1 (vc_X11_announce_v_9 h130.2.1 h130.2.2.1 h132 ht_f_dm hp1 h133))
    refine mr_iconst (pc := 25) (z := (-1)) dX12_announce_25 ?_
    exact mr_iret dX12_announce_26 rfl (le_t rfl) (le_t rfl) hT mF.refl ⟨(rW (c := (-2147483648)) (d := 2147483647) (rR (x := (-1))) rfl), hIJC, hIRP, hIEP, hIHP, hIUP, hIG1, hIEV, (Or.inl ⟨(vc_X12_announce_v_3 h130.2.1 h130.2.2.1 h134 h132 ht_f_dm ht_f_n hp1 hp2 hp3 h133), rfl⟩), (Or.inl ⟨vc_X12_raise_u_49, rfl⟩), trivial⟩
  have h135 : 1 ≤ z131 ∧ z131 ≤ 1 := (vc_X11_announce_v_5 h132 h130.2.1 h130.2.2.1 ht_f_dm hp1 h130.1)
  have h136 : 0 ≤ p1 ∧ p1 < f_dm := (h130.2.1 (vc_X11_announce_v_12 h130.2.1 h130.2.2.1 h132 ht_f_dm hp1 h135))
  have h137 : 0 ≤ p1 ∧ p1 ≤ 9 := (vc_X11_announce_v_13 h136 h130.2.1 h130.2.2.1 ht_f_dm hp1 h135)
  refine sv_aload_n (pc := 8) dX12_announce_8 rfl rfl ?_
  refine mr_iload_n (pc := 9) (z := p2) dX12_announce_9 rfl rfl ?_
  refine mr_cVP (pc := 10) (c_X12_isPrefix hw hT hp2 q_f_n) (gOk _ _ _ _ _) dX12_announce_10 (tX12_isPrefix _ _ _ _ _) ⟨wV_X12_isPrefix, wL_X12_isPrefix⟩ wM_X12_92 (gCX12 _ _ _ _ _) rfl (A_106 hw) rfl ⟨le_t rfl, le_t rfl⟩ ⟨le_t rfl, le_t rfl⟩ rfl (le_t rfl) fun z142 h141 => ?_
  refine mr_if_eq (pc := 13) (tgt := 25) dX12_announce_13 (by decide) (r32 h141.1 rfl) (fun h143 => ?_) (fun h143 => ?_)
  · have h144 : 0 ≤ z142 ∧ z142 ≤ 0 := (vc_X11_announce_v_1 h143 h141.2.1 h141.2.2.1 ht_f_n hp2 h141.1)
    have h145 : p2 < 0 ∨ f_n ≤ p2 := (h141.2.2.1 (vc_X11_announce_v_9 h141.2.1 h141.2.2.1 h143 ht_f_n hp2 h144))
    refine mr_iconst (pc := 25) (z := (-1)) dX12_announce_25 ?_
    exact mr_iret dX12_announce_26 rfl (le_t rfl) (le_t rfl) hT mF.refl ⟨(rW (c := (-2147483648)) (d := 2147483647) (rR (x := (-1))) rfl), hIJC, hIRP, hIEP, hIHP, hIUP, hIG1, hIEV, (Or.inl ⟨(vc_X12_announce_v_10 h130.2.1 h130.2.2.1 h136 h141.2.1 h141.2.2.1 h145 h132 h143 ht_f_dm ht_f_n h137 hp2 hp3 h135 h144), rfl⟩), (Or.inl ⟨vc_X12_raise_u_49, rfl⟩), trivial⟩
  have h146 : 1 ≤ z142 ∧ z142 ≤ 1 := (vc_X11_announce_v_5 h143 h141.2.1 h141.2.2.1 ht_f_n hp2 h141.1)
  have h147 : 0 ≤ p2 ∧ p2 < f_n := (h141.2.1 (vc_X11_announce_v_12 h141.2.1 h141.2.2.1 h143 ht_f_n hp2 h146))
  have h148 : 0 ≤ p2 ∧ p2 ≤ 9 := (vc_X11_announce_v_13 h147 h141.2.1 h141.2.2.1 ht_f_n hp2 h146)
  have h149 : 1 ≤ f_n ∧ f_n ≤ 10 := (vc_X11_announce_v_14 h147 h141.2.1 h141.2.2.1 ht_f_n h148 h146)
  refine mr_iload_n (pc := 16) (z := p3) dX12_announce_16 rfl rfl ?_
  refine mr_iconst (pc := 17) (z := 0) dX12_announce_17 ?_
  refine mr_iconst (pc := 18) (z := 2) dX12_announce_18 ?_
  refine mr_cSP (pc := 19) (c_X12_in hw hT hp3 (rW (c := (-2147483648)) (d := 2147483647) (rR (x := 0)) rfl) (rW (c := (-2147483648)) (d := 2147483647) (rR (x := 2)) rfl)) (gOk _ _ _ _ _) dX12_announce_19 (tX12_in _ _ _ _ _) wS_X12_in wM_X12_18 ⟨le_t rfl, le_t rfl⟩ ⟨le_t rfl, le_t rfl⟩ rfl (le_t rfl) fun z154 h153 => ?_
  refine mr_if_ne (pc := 22) (tgt := 27) dX12_announce_22 (by decide) (r32 h153.1 rfl) (fun h155 => ?_) (fun h155 => ?_)
  · have h156 : 1 ≤ z154 ∧ z154 ≤ 1 := (vc_X12_units_1 h155 h153.2.1 h153.2.2.1 hp3 h153.1)
    have h157 : (0 : Int) ≤ p3 ∧ p3 ≤ (2 : Int) := (h153.2.1 (vc_X12_units_2 h153.2.1 h153.2.2.1 h155 hp3 h156))
    have h158 : 0 ≤ p3 ∧ p3 ≤ 2 := (vc_X12_units_3 h157 h153.2.1 h153.2.2.1 hp3 h156)
    refine mr_bipush (pc := 27) (z := 10) dX12_announce_27 (by decide) ?_
    refine mr_iload_n (pc := 29) (z := p1) dX12_announce_29 rfl rfl ?_
    refine mr_imul (pc := 30) (x := 10) (y := p1) dX12_announce_30 ?_
    refine mr_iload_n (pc := 31) (z := p2) dX12_announce_31 rfl rfl ?_
    refine mr_iadd (pc := 32) (x := (10 * p1)) (y := p2) dX12_announce_32 ?_
    refine mr_istore (pc := 33) (lv' := [(4, iv ((10 * p1) + p2)), (0, .ref 106), (1, iv p1), (2, iv p2), (3, iv p3)]) dX12_announce_33 (by decide) rfl ?_
    refine sv_aload_n (pc := 35) dX12_announce_35 rfl rfl ?_
    refine gf_X12_82 (pc := 36) dX12_announce_36 wF_X12_448 (A_106 hw) hT ?_
    refine mr_iload (pc := 39) (z := ((10 * p1) + p2)) dX12_announce_39 rfl ?_
    refine la_162 (pc := 41) dX12_announce_41 (A_162 hw) hT (rIx (n := 100) (rAdd (e := 0) (f := 99) (rMulL (n := 10) (e := 0) (f := 90) h137 rfl) h148 rfl) rfl) fun z159 q160 h161 => ?_
    refine mr_iload_n (pc := 42) (z := p3) dX12_announce_42 rfl rfl ?_
    refine mr_icmp_ne (pc := 43) (tgt := 49) dX12_announce_43 (by decide) (r32 h161 rfl) (r32 h158 rfl) (fun h162 => ?_) (fun h162 => ?_)
    · refine sv_aload_n (pc := 49) dX12_announce_49 rfl rfl ?_
      refine gf_X12_82 (pc := 50) dX12_announce_50 wF_X12_448 (A_106 hw) hT ?_
      refine mr_iload (pc := 53) (z := ((10 * p1) + p2)) dX12_announce_53 rfl ?_
      refine mr_iload_n (pc := 55) (z := p3) dX12_announce_55 rfl rfl ?_
      refine ss_162 (pc := 56) dX12_announce_56 (A_162 hw) hT (rIx (n := 100) (rAdd (e := 0) (f := 99) (rMulL (n := 10) (e := 0) (f := 90) h137 rfl) h148 rfl) rfl) (rW (c := (-1)) (d := 2) h158 rfl) fun μ163 u164 T165 => ?_
      refine sv_aload_n (pc := 57) dX12_announce_57 rfl rfl ?_
      refine mr_iload_n (pc := 58) (z := p1) dX12_announce_58 rfl rfl ?_
      refine mr_iload_n (pc := 59) (z := p2) dX12_announce_59 rfl rfl ?_
      refine mr_cVV (pc := 60) (c_X12_look_u hw T165 h137 h148 (u164.f (Or.inl (mAt.ne (A_162 hw) (A_106 hw) rfl)) q_f_n) (vc_X12_announce_v_18 h141.2.1 h141.2.2.1 h147 h143 h149 h148 h146) (JC.keepJ hIJC hw ((mF.up mF.refl (A_162 hw) u164 rfl) : mF [162999] w μ μ163) rfl) (RP.keep hIRP hw ((mF.up mF.refl (A_162 hw) u164 rfl) : mF [162999] w μ μ163) rfl ((mG.upO mG.refl u164 rfl) : mG [] μ μ163) (fun _ h => absurd h List.not_mem_nil)) (EP.keep hIEP hw ((mF.up mF.refl (A_162 hw) u164 rfl) : mF [162999] w μ μ163) rfl) (G1.keep hIG1 hw ((mF.up mF.refl (A_162 hw) u164 rfl) : mF [162999] w μ μ163) rfl rfl ((mG.upO mG.refl u164 rfl) : mG [] μ μ163) (fun _ h => absurd h List.not_mem_nil)) (EV.keep hIEV hw ((mF.up mF.refl (A_162 hw) u164 rfl) : mF [162999] w μ μ163) rfl) (PK.keep hIPK hw ((mF.up mF.refl (A_162 hw) u164 rfl) : mF [162999] w μ μ163) rfl)) (gOk _ _ _ _ _) dX12_announce_60 (tX12_look _ _ _ _ _) ⟨wV_X12_look, wL_X12_look⟩ wM_X12_597 (gCX12 _ _ _ _ _) rfl (A_106 hw) rfl ⟨le_t rfl, le_t rfl⟩ ⟨le_t rfl, le_t rfl⟩ rfl (le_t rfl) fun μ166 T167 F168 h169 => ?_
      have I170 : UP l D c H0 sa μ166 := UPg.look (UPg.fr hIUP hw T165 rfl ((mF.up mF.refl (A_162 hw) u164 rfl) : mF [162999] w μ μ163) rfl rfl rfl ((mG.upO mG.refl u164 rfl) : mG [] μ μ163) (fun _ h => absurd h List.not_mem_nil)) (fun _ _ h => h.elim) h137 h148 hw T165 rfl rfl ((mF.call mF.refl F168 rfl) : mF [106026, 106027, 106028, 106029, 106030, 106031, 106072, 126999, 151999, 152999, 153999, 155999, 156999, 157999, 158999, 159999, 160999, 161999, 165999] w μ163 μ166) rfl rfl rfl ((mG.call mG.refl h169.1 (List.forall_mem_cons.mpr ⟨⟨_, List.mem_cons_self, vc_X12_look_u_35⟩, (List.forall_mem_cons.mpr ⟨⟨_, (List.mem_cons_of_mem _ List.mem_cons_self), (vc_X12_announce_v_20 h130.2.1 h130.2.2.1 h136 h141.2.1 h141.2.2.1 h147 h132 h143 ht_f_dm h149 h137 h148 h135 h146)⟩, (List.forall_mem_cons.mpr ⟨⟨_, (List.mem_cons_of_mem _ (List.mem_cons_of_mem _ List.mem_cons_self)), vc_X12_say_u_34⟩, (fun _ h => absurd h List.not_mem_nil)⟩)⟩)⟩)) : mG [(80, 960), ((40 * (30 + ((10 * p1) + p2))), ((40 * (30 + ((10 * p1) + p2))) + 40)), (21200, 53200)] μ163 μ166) (List.forall_mem_cons.mpr ⟨vc_X12_lookAll_u_14, (List.forall_mem_cons.mpr ⟨(vc_X12_announce_v_23 h130.2.1 h130.2.2.1 h136 h141.2.1 h141.2.2.1 h147 h132 h143 ht_f_dm h149 h137 h148 h135 h146), (List.forall_mem_cons.mpr ⟨vc_X12_look_u_55, (fun _ h => absurd h List.not_mem_nil)⟩)⟩)⟩) h169.2.2.2.2.2.2.2.1 h169.2.2.2.2.2.2.1
      refine mr_iconst (pc := 63) (z := 0) dX12_announce_63 ?_
      exact mr_iret dX12_announce_64 rfl (le_t rfl) (le_t rfl) T167 (mF.call (mF.up mF.refl (A_162 hw) u164 rfl) F168 rfl) ⟨(rW (c := (-2147483648)) (d := 2147483647) (rR (x := 0)) rfl), h169.2.1, h169.2.2.1, h169.2.2.2.1, (HP.keep hIHP hw ((mF.call (mF.up mF.refl (A_162 hw) u164 rfl) F168 rfl) : mF [106026, 106027, 106028, 106029, 106030, 106031, 106072, 126999, 151999, 152999, 153999, 155999, 156999, 157999, 158999, 159999, 160999, 161999, 162999, 165999] w μ μ166) rfl ((mG.call (mG.upO mG.refl u164 rfl) h169.1 (List.forall_mem_cons.mpr ⟨⟨_, List.mem_cons_self, vc_X12_look_u_35⟩, (List.forall_mem_cons.mpr ⟨⟨_, (List.mem_cons_of_mem _ List.mem_cons_self), (vc_X12_announce_v_20 h130.2.1 h130.2.2.1 h136 h141.2.1 h141.2.2.1 h147 h132 h143 ht_f_dm h149 h137 h148 h135 h146)⟩, (List.forall_mem_cons.mpr ⟨⟨_, (List.mem_cons_of_mem _ (List.mem_cons_of_mem _ List.mem_cons_self)), vc_X12_say_u_34⟩, (fun _ h => absurd h List.not_mem_nil)⟩)⟩)⟩)) : mG [(80, 960), ((40 * (30 + ((10 * p1) + p2))), ((40 * (30 + ((10 * p1) + p2))) + 40)), (21200, 53200)] μ μ166) (List.forall_mem_cons.mpr ⟨vc_X12_lookAll_u_14, (List.forall_mem_cons.mpr ⟨(vc_X12_announce_v_23 h130.2.1 h130.2.2.1 h136 h141.2.1 h141.2.2.1 h147 h132 h143 ht_f_dm h149 h137 h148 h135 h146), (List.forall_mem_cons.mpr ⟨vc_X12_look_u_55, (fun _ h => absurd h List.not_mem_nil)⟩)⟩)⟩)), I170, h169.2.2.2.2.1, h169.2.2.2.2.2.1, (Or.inr ⟨(vc_X12_announce_v_25 h130.2.1 h130.2.2.1 h136 h141.2.1 h141.2.2.1 h147 h153.2.1 h153.2.2.1 h157 h162 h132 h143 h155 ht_f_dm h149 h137 h148 h158 h135 h146 h156 h161), Or.inr ⟨(by rw [q160]; exact (vc_X12_announce_v_26 h153.2.1 h153.2.2.1 h157 h162 h155 h158 h156 h161)), rfl⟩⟩), (Or.inr ⟨vc_X12_through_6, (one.fr (one.up one.refl (vc_X12_announce_v_27 h130.2.1 h130.2.2.1 h136 h141.2.1 h141.2.2.1 h147 h132 h143 ht_f_dm h149 h137 h148 h135 h146) u164) F168 (A_162 hw) rfl rfl), (F168.f (A_162 hw) rfl u164.1).trans (vc_X12_announce_v_29 h153.2.1 h153.2.2.1 h157 h162 h155 h158 h156 h161)⟩), trivial⟩
    have h171 : 0 ≤ z159 ∧ z159 ≤ 2 := (vc_X12_announce_v_30 h162 h153.2.1 h153.2.2.1 h157 h158 h156 h161)
    refine mr_bipush (pc := 46) (z := (-2)) dX12_announce_46 (by decide) ?_
    exact mr_iret dX12_announce_48 rfl (le_t rfl) (le_t rfl) hT mF.refl ⟨(rW (c := (-2147483648)) (d := 2147483647) (rR (x := (-2))) rfl), hIJC, hIRP, hIEP, hIHP, hIUP, hIG1, hIEV, (Or.inr ⟨(vc_X12_announce_v_31 h130.2.1 h130.2.2.1 h136 h141.2.1 h141.2.2.1 h147 h153.2.1 h153.2.2.1 h157 h162 h132 h143 h155 ht_f_dm h149 h137 h148 h158 h135 h146 h156 h171), Or.inl ⟨(by rw [q160]; exact (vc_X12_announce_v_32 h153.2.1 h153.2.2.1 h157 h162 h155 h158 h156 h171)), rfl⟩⟩), (Or.inl ⟨vc_X11_prefix_v_25, rfl⟩), trivial⟩
  have h172 : 0 ≤ z154 ∧ z154 ≤ 0 := (vc_X12_units_9 h155 h153.2.1 h153.2.2.1 hp3 h153.1)
  have h173 : p3 < (0 : Int) ∨ (2 : Int) < p3 := (h153.2.2.1 (vc_X12_units_10 h153.2.1 h153.2.2.1 h155 hp3 h172))
  refine mr_iconst (pc := 25) (z := (-1)) dX12_announce_25 ?_
  exact mr_iret dX12_announce_26 rfl (le_t rfl) (le_t rfl) hT mF.refl ⟨(rW (c := (-2147483648)) (d := 2147483647) (rR (x := (-1))) rfl), hIJC, hIRP, hIEP, hIHP, hIUP, hIG1, hIEV, (Or.inl ⟨(vc_X12_announce_v_36 h130.2.1 h130.2.2.1 h136 h141.2.1 h141.2.2.1 h147 h153.2.1 h153.2.2.1 h173 h132 h143 h155 ht_f_dm h149 h137 h148 hp3 h135 h146 h172), rfl⟩), (Or.inl ⟨vc_X12_raise_u_49, rfl⟩), trivial⟩
theorem vc_X11_withdraw_v_3 {f_dm f_n n0 p1 p2 z119 : Int} (h0 : f_dm = n0) (h1 : (z119 = 1 → 0 ≤ p1 ∧ p1 < f_dm)) (h2 : (z119 = 0 → p1 < 0 ∨ f_dm ≤ p1)) (h3 : p1 < 0 ∨ f_dm ≤ p1) (h4 : z119 = 0) (h5 : 0 ≤ f_dm ∧ f_dm ≤ 10) (h6 : 0 ≤ f_n ∧ f_n ≤ 10) (h7 : (-2147483648) ≤ p1 ∧ p1 ≤ 2147483647) (h8 : (-2147483648) ≤ p2 ∧ p2 ≤ 2147483647) (h9 : 0 ≤ z119 ∧ z119 ≤ 0) : p1 < 0 ∨ f_dm ≤ p1 ∨ p2 < 0 ∨ f_n ≤ p2 := by omega
theorem vc_X11_withdraw_v_14 {f_dm f_n n0 p1 p2 z119 z130 : Int} (h0 : f_dm = n0) (h1 : (z119 = 1 → 0 ≤ p1 ∧ p1 < f_dm)) (h2 : (z119 = 0 → p1 < 0 ∨ f_dm ≤ p1)) (h3 : 0 ≤ p1 ∧ p1 < f_dm) (h4 : (z130 = 1 → 0 ≤ p2 ∧ p2 < f_n)) (h5 : (z130 = 0 → p2 < 0 ∨ f_n ≤ p2)) (h6 : 0 ≤ p2 ∧ p2 < f_n) (h7 : ¬ z119 = 0) (h8 : ¬ z130 = 0) (h9 : 0 ≤ f_dm ∧ f_dm ≤ 10) (h10 : 1 ≤ f_n ∧ f_n ≤ 10) (h11 : 0 ≤ p1 ∧ p1 ≤ 9) (h12 : 0 ≤ p2 ∧ p2 ≤ 9) (h13 : 1 ≤ z119 ∧ z119 ≤ 1) (h14 : 1 ≤ z130 ∧ z130 ≤ 1) : ¬ (p1 < 0 ∨ f_dm ≤ p1 ∨ p2 < 0 ∨ f_n ≤ p2) := by omega
theorem vc_X11_withdraw_v_15 {z140 : Int} (h0 : ¬ z140 = (-1)) (h1 : 0 ≤ z140 ∧ z140 ≤ 2) : ¬ z140 = (-1) := by omega
theorem vc_X11_withdraw_v_18  : (((-1) : Int) : Int) = ((-1) : Int) := by omega
theorem vc_X11_withdraw_v_20 {z140 : Int} (h0 : z140 = (-1)) (h1 : (-1) ≤ z140 ∧ z140 ≤ (-1)) : z140 = (-1) := by omega
theorem vc_X11_withdraw_v_24 {f_dm f_n n0 p1 p2 z119 z130 : Int} (h0 : f_dm = n0) (h1 : (z119 = 1 → 0 ≤ p1 ∧ p1 < f_dm)) (h2 : (z119 = 0 → p1 < 0 ∨ f_dm ≤ p1)) (h3 : 0 ≤ p1 ∧ p1 < f_dm) (h4 : (z130 = 1 → 0 ≤ p2 ∧ p2 < f_n)) (h5 : (z130 = 0 → p2 < 0 ∨ f_n ≤ p2)) (h6 : p2 < 0 ∨ f_n ≤ p2) (h7 : ¬ z119 = 0) (h8 : z130 = 0) (h9 : 0 ≤ f_dm ∧ f_dm ≤ 10) (h10 : 0 ≤ f_n ∧ f_n ≤ 10) (h11 : 0 ≤ p1 ∧ p1 ≤ 9) (h12 : (-2147483648) ≤ p2 ∧ p2 ≤ 2147483647) (h13 : 1 ≤ z119 ∧ z119 ≤ 1) (h14 : 0 ≤ z130 ∧ z130 ≤ 0) : p1 < 0 ∨ f_dm ≤ p1 ∨ p2 < 0 ∨ f_n ≤ p2 := by omega
set_option maxRecDepth 4000 in
set_option maxHeartbeats 4000000 in
theorem c_X11_withdraw_v {l : Launch} {D : va_G} {c : Nat → ClassId} {H0 : Heap} {sa : Nat × Nat × (Nat → Int32)} {w : mW} {μ : mM} (hw : mWF w) (hT : mT w μ) {p1 : Int} (hp1 : (-2147483648) ≤ p1 ∧ p1 ≤ 2147483647) {p2 : Int} (hp2 : (-2147483648) ≤ p2 ∧ p2 ≤ 2147483647) {f_dm : Int} (q_f_dm : μ 6 15 = f_dm) {f_n : Int} (q_f_n : μ 6 14 = f_n) (hIPC : PC w μ) : sC (gG l D c H0 sa) mX11_withdraw 43 0 0 [.ref 0, iv p1, iv p2] (mk w μ) (qI w [21002, 21003, 21004, 21005, 21006, 21007, 32009, 32010, 33999, 34999, 66999, 200002, 200003, 200004, 200005, 200006, 200007, 200008, 200009, 200010, 200011, 201999, 202999, 212999, 213999] μ (fun z μ1 => ((-2147483648) ≤ z ∧ z ≤ 2147483647) ∧ (anA (p1 < 0 ∨ f_dm ≤ p1 ∨ p2 < 0 ∨ f_n ≤ p2) (bg μ p1.toNat p2.toNat) (-1) z) ∧ (anC w μ μ1 p1 p2 (-1) z) ∧ True)) := by
  refine sC.of rfl (by decide) (le_t rfl) ?_
  have ht_f_dm : (f_dm = w.2.2.2 0 ∧ 0 ≤ f_dm ∧ f_dm ≤ 10) := by rw [← q_f_dm]; exact hT 6 6 (A_6 hw) 15
  have ht_f_n : (0 ≤ f_n ∧ f_n ≤ 10) := by rw [← q_f_n]; exact hT 6 6 (A_6 hw) 14
  refine mr_lvE (lv' := [(0, .ref 0), (1, iv p1), (2, iv p2)]) rfl ?_
  refine sv_aload_n (pc := 0) dX11_withdraw_0 rfl rfl ?_
  refine mr_iload_n (pc := 1) (z := p1) dX11_withdraw_1 rfl rfl ?_
  refine mr_cVP (pc := 2) (c_X11_isDomain hw hT hp1 q_f_dm) (gOk _ _ _ _ _) dX11_withdraw_2 (tX11_isDomain _ _ _ _ _) ⟨wV_X11_isDomain, wL_X11_isDomain⟩ wM_X11_105 (gCX11 _ _ _ _ _) rfl (A_0 hw) rfl ⟨le_t rfl, le_t rfl⟩ ⟨le_t rfl, le_t rfl⟩ rfl (le_t rfl) fun z119 h118 => ?_
  refine mr_if_eq (pc := 5) (tgt := 16) dX11_withdraw_5 (by decide) (r32 h118.1 rfl) (fun h120 => ?_) (fun h120 => ?_)
  · have h121 : 0 ≤ z119 ∧ z119 ≤ 0 := (vc_X11_announce_v_1 h120 h118.2.1 h118.2.2.1 ht_f_dm.2 hp1 h118.1)
    have h122 : p1 < 0 ∨ f_dm ≤ p1 := (h118.2.2.1 (vc_X11_announce_v_2 h118.2.1 h118.2.2.1 h120 ht_f_dm.1 ht_f_dm.2 hp1 h121))
    refine mr_iconst (pc := 16) (z := (-1)) dX11_withdraw_16 ?_
    exact mr_iret dX11_withdraw_17 rfl (le_t rfl) (le_t rfl) hT mF.refl ⟨(rW (c := (-2147483648)) (d := 2147483647) (rR (x := (-1))) rfl), (Or.inl ⟨(vc_X11_withdraw_v_3 ht_f_dm.1 h118.2.1 h118.2.2.1 h122 h120 ht_f_dm.2 ht_f_n hp1 hp2 h121), rfl⟩), (Or.inl ⟨vc_X12_raise_u_49, rfl⟩), trivial⟩
  have h123 : 1 ≤ z119 ∧ z119 ≤ 1 := (vc_X11_announce_v_5 h120 h118.2.1 h118.2.2.1 ht_f_dm.2 hp1 h118.1)
  have h124 : 0 ≤ p1 ∧ p1 < f_dm := (h118.2.1 (vc_X11_announce_v_6 h118.2.1 h118.2.2.1 h120 ht_f_dm.1 ht_f_dm.2 hp1 h123))
  have h125 : 0 ≤ p1 ∧ p1 ≤ 9 := (vc_X11_announce_v_7 h124 ht_f_dm.1 h118.2.1 h118.2.2.1 ht_f_dm.2 hp1 h123)
  refine sv_aload_n (pc := 8) dX11_withdraw_8 rfl rfl ?_
  refine mr_iload_n (pc := 9) (z := p2) dX11_withdraw_9 rfl rfl ?_
  refine mr_cVP (pc := 10) (c_X11_isPrefix hw hT hp2 q_f_n) (gOk _ _ _ _ _) dX11_withdraw_10 (tX11_isPrefix _ _ _ _ _) ⟨wV_X11_isPrefix, wL_X11_isPrefix⟩ wM_X11_182 (gCX11 _ _ _ _ _) rfl (A_0 hw) rfl ⟨le_t rfl, le_t rfl⟩ ⟨le_t rfl, le_t rfl⟩ rfl (le_t rfl) fun z130 h129 => ?_
  refine mr_if_ne (pc := 13) (tgt := 18) dX11_withdraw_13 (by decide) (r32 h129.1 rfl) (fun h131 => ?_) (fun h131 => ?_)
  · have h132 : 1 ≤ z130 ∧ z130 ≤ 1 := (vc_X11_announce_v_5 h131 h129.2.1 h129.2.2.1 ht_f_n hp2 h129.1)
    have h133 : 0 ≤ p2 ∧ p2 < f_n := (h129.2.1 (vc_X11_announce_v_12 h129.2.1 h129.2.2.1 h131 ht_f_n hp2 h132))
    have h134 : 0 ≤ p2 ∧ p2 ≤ 9 := (vc_X11_announce_v_13 h133 h129.2.1 h129.2.2.1 ht_f_n hp2 h132)
    have h135 : 1 ≤ f_n ∧ f_n ≤ 10 := (vc_X11_announce_v_14 h133 h129.2.1 h129.2.2.1 ht_f_n h134 h132)
    refine sv_aload_n (pc := 18) dX11_withdraw_18 rfl rfl ?_
    refine gf_X11_3 (pc := 19) dX11_withdraw_19 wF_X11_26 (A_0 hw) hT ?_
    refine gf_X10_3 (pc := 22) dX11_withdraw_22 wF_X11_283 (A_6 hw) hT ?_
    refine mr_iload_n (pc := 25) (z := p1) dX11_withdraw_25 rfl rfl ?_
    refine la_10 (pc := 26) dX11_withdraw_26 (A_10 hw) hT (rIx (n := 10) h125 rfl) (vc_X11_announce_v_19 ht_f_dm.1 h118.2.1 h118.2.2.1 h124 h120 ht_f_dm.2 h125 h123) fun b136 q137 A138 => ?_
    refine gf_X0_1 (pc := 27) dX11_withdraw_27 wF_X11_293 A138 hT fun A139 => ?_
    refine mr_iload_n (pc := 30) (z := p2) dX11_withdraw_30 rfl rfl ?_
    refine la_212 (pc := 31) dX11_withdraw_31 A139 hT (rIx (n := 10) h134 rfl) fun z140 q141 h142 => ?_
    refine mr_iconst (pc := 32) (z := (-1)) dX11_withdraw_32 ?_
    refine mr_icmp_ne (pc := 33) (tgt := 39) dX11_withdraw_33 (by decide) (r32 h142 rfl) (r32 (rR (x := (-1))) rfl) (fun h143 => ?_) (fun h143 => ?_)
    · have h144 : 0 ≤ z140 ∧ z140 ≤ 2 := (vc_X8_look_36 h143 h142)
      refine sv_aload_n (pc := 39) dX11_withdraw_39 rfl rfl ?_
      refine gf_X11_3 (pc := 40) dX11_withdraw_40 wF_X11_26 (A_0 hw) hT ?_
      refine gf_X10_3 (pc := 43) dX11_withdraw_43 wF_X11_283 (A_6 hw) hT ?_
      refine mr_iload_n (pc := 46) (z := p1) dX11_withdraw_46 rfl rfl ?_
      refine lk_10 (pc := 47) dX11_withdraw_47 (A_10 hw) (rIx (n := 10) h125 rfl) q137 ?_
      refine gf_X0_1 (pc := 48) dX11_withdraw_48 wF_X11_293 A138 hT fun A145 => ?_
      refine mr_iload_n (pc := 51) (z := p2) dX11_withdraw_51 rfl rfl ?_
      refine mr_iconst (pc := 52) (z := (-1)) dX11_withdraw_52 ?_
      refine ss_212 (pc := 53) dX11_withdraw_53 A145 hT (rIx (n := 10) h134 rfl) (rW (c := (-1)) (d := 2) (rR (x := (-1))) rfl) fun μ146 u147 T148 => ?_
      refine sv_aload_n (pc := 54) dX11_withdraw_54 rfl rfl ?_
      refine gf_X11_6 (pc := 55) dX11_withdraw_55 wF_X11_51 (A_0 hw) T148 ?_
      refine mr_iload_n (pc := 58) (z := p1) dX11_withdraw_58 rfl rfl ?_
      refine mr_iload_n (pc := 59) (z := p2) dX11_withdraw_59 rfl rfl ?_
      refine mr_cVV (pc := 60) (c_X8_look hw T148 h125 h134 (vc_X11_announce_v_19 ht_f_dm.1 h118.2.1 h118.2.2.1 h124 h120 ht_f_dm.2 h125 h123) (PC.keep hIPC hw ((mF.up mF.refl A145 u147 rfl) : mF [212999] w μ μ146) rfl)) (gOk _ _ _ _ _) dX11_withdraw_60 (tX8_look _ _ _ _ _) ⟨wV_X8_look, wL_X8_look⟩ wM_X11_296 (gCX8 _ _ _ _ _) rfl (A_32 hw) rfl ⟨le_t rfl, le_t rfl⟩ ⟨le_t rfl, le_t rfl⟩ rfl (le_t rfl) fun μ149 T150 F151 h152 => ?_
      refine mr_iconst (pc := 63) (z := 0) dX11_withdraw_63 ?_
      exact mr_iret dX11_withdraw_64 rfl (le_t rfl) (le_t rfl) T150 (mF.call (mF.up mF.refl A145 u147 rfl) F151 rfl) ⟨(rW (c := (-2147483648)) (d := 2147483647) (rR (x := 0)) rfl), (Or.inr ⟨(vc_X11_withdraw_v_14 ht_f_dm.1 h118.2.1 h118.2.2.1 h124 h129.2.1 h129.2.2.1 h133 h120 h131 ht_f_dm.2 h135 h125 h134 h123 h132), Or.inr ⟨(by rw [(bgOf q137 q141)]; exact (vc_X11_withdraw_v_15 h143 h144)), rfl⟩⟩), (Or.inr ⟨vc_X12_through_6, b136, q137, (oneR.fr (oneR.up oneR.refl (vc_X11_announce_v_22 h129.2.1 h129.2.2.1 h133 h131 h135 h134 h132) u147) F151 rfl rfl), (F151.f A139 rfl u147.1).trans vc_X11_withdraw_v_18⟩), trivial⟩
    have h153 : (-1) ≤ z140 ∧ z140 ≤ (-1) := (vc_X8_look_22 h143 h142)
    refine mr_bipush (pc := 36) (z := (-2)) dX11_withdraw_36 (by decide) ?_
    exact mr_iret dX11_withdraw_38 rfl (le_t rfl) (le_t rfl) hT mF.refl ⟨(rW (c := (-2147483648)) (d := 2147483647) (rR (x := (-2))) rfl), (Or.inr ⟨(vc_X11_withdraw_v_14 ht_f_dm.1 h118.2.1 h118.2.2.1 h124 h129.2.1 h129.2.2.1 h133 h120 h131 ht_f_dm.2 h135 h125 h134 h123 h132), Or.inl ⟨(by rw [(bgOf q137 q141)]; exact (vc_X11_withdraw_v_20 h143 h153)), rfl⟩⟩), (Or.inl ⟨vc_X11_prefix_v_25, rfl⟩), trivial⟩
  have h154 : 0 ≤ z130 ∧ z130 ≤ 0 := (vc_X11_announce_v_1 h131 h129.2.1 h129.2.2.1 ht_f_n hp2 h129.1)
  have h155 : p2 < 0 ∨ f_n ≤ p2 := (h129.2.2.1 (vc_X11_announce_v_9 h129.2.1 h129.2.2.1 h131 ht_f_n hp2 h154))
  refine mr_iconst (pc := 16) (z := (-1)) dX11_withdraw_16 ?_
  exact mr_iret dX11_withdraw_17 rfl (le_t rfl) (le_t rfl) hT mF.refl ⟨(rW (c := (-2147483648)) (d := 2147483647) (rR (x := (-1))) rfl), (Or.inl ⟨(vc_X11_withdraw_v_24 ht_f_dm.1 h118.2.1 h118.2.2.1 h124 h129.2.1 h129.2.2.1 h155 h120 h131 ht_f_dm.2 ht_f_n h125 hp2 h123 h154), rfl⟩), (Or.inl ⟨vc_X12_raise_u_49, rfl⟩), trivial⟩
theorem vc_X12_withdraw_v_3 {f_dm f_n p1 p2 z104 : Int} (h0 : (z104 = 1 → 0 ≤ p1 ∧ p1 < f_dm)) (h1 : (z104 = 0 → p1 < 0 ∨ f_dm ≤ p1)) (h2 : p1 < 0 ∨ f_dm ≤ p1) (h3 : z104 = 0) (h4 : 0 ≤ f_dm ∧ f_dm ≤ 10) (h5 : 0 ≤ f_n ∧ f_n ≤ 10) (h6 : (-2147483648) ≤ p1 ∧ p1 ≤ 2147483647) (h7 : (-2147483648) ≤ p2 ∧ p2 ≤ 2147483647) (h8 : 0 ≤ z104 ∧ z104 ≤ 0) : p1 < 0 ∨ f_dm ≤ p1 ∨ p2 < 0 ∨ f_n ≤ p2 := by omega
theorem vc_X12_withdraw_v_20 {f_dm f_n p1 p2 z104 z115 : Int} (h0 : (z104 = 1 → 0 ≤ p1 ∧ p1 < f_dm)) (h1 : (z104 = 0 → p1 < 0 ∨ f_dm ≤ p1)) (h2 : 0 ≤ p1 ∧ p1 < f_dm) (h3 : (z115 = 1 → 0 ≤ p2 ∧ p2 < f_n)) (h4 : (z115 = 0 → p2 < 0 ∨ f_n ≤ p2)) (h5 : 0 ≤ p2 ∧ p2 < f_n) (h6 : ¬ z104 = 0) (h7 : ¬ z115 = 0) (h8 : 0 ≤ f_dm ∧ f_dm ≤ 10) (h9 : 1 ≤ f_n ∧ f_n ≤ 10) (h10 : 0 ≤ p1 ∧ p1 ≤ 9) (h11 : 0 ≤ p2 ∧ p2 ≤ 9) (h12 : 1 ≤ z104 ∧ z104 ≤ 1) (h13 : 1 ≤ z115 ∧ z115 ≤ 1) : ¬ (p1 < 0 ∨ f_dm ≤ p1 ∨ p2 < 0 ∨ f_n ≤ p2) := by omega
theorem vc_X12_withdraw_v_21 {z121 : Int} (h0 : 0 ≤ z121) (h1 : 0 ≤ z121 ∧ z121 ≤ 2) : ¬ z121 = (-1) := by omega
theorem vc_X12_withdraw_v_26 {z121 : Int} (h0 : z121 < 0) (h1 : (-1) ≤ z121 ∧ z121 ≤ (-1)) : z121 = (-1) := by omega
theorem vc_X12_withdraw_v_30 {f_dm f_n p1 p2 z104 z115 : Int} (h0 : (z104 = 1 → 0 ≤ p1 ∧ p1 < f_dm)) (h1 : (z104 = 0 → p1 < 0 ∨ f_dm ≤ p1)) (h2 : 0 ≤ p1 ∧ p1 < f_dm) (h3 : (z115 = 1 → 0 ≤ p2 ∧ p2 < f_n)) (h4 : (z115 = 0 → p2 < 0 ∨ f_n ≤ p2)) (h5 : p2 < 0 ∨ f_n ≤ p2) (h6 : ¬ z104 = 0) (h7 : z115 = 0) (h8 : 0 ≤ f_dm ∧ f_dm ≤ 10) (h9 : 0 ≤ f_n ∧ f_n ≤ 10) (h10 : 0 ≤ p1 ∧ p1 ≤ 9) (h11 : (-2147483648) ≤ p2 ∧ p2 ≤ 2147483647) (h12 : 1 ≤ z104 ∧ z104 ≤ 1) (h13 : 0 ≤ z115 ∧ z115 ≤ 0) : p1 < 0 ∨ f_dm ≤ p1 ∨ p2 < 0 ∨ f_n ≤ p2 := by omega
set_option maxRecDepth 4000 in
set_option maxHeartbeats 4000000 in
theorem c_X12_withdraw_v {l : Launch} {D : va_G} {c : Nat → ClassId} {H0 : Heap} {sa : Nat × Nat × (Nat → Int32)} {w : mW} {μ : mM} (hw : mWF w) (hT : mT w μ) {p1 : Int} (hp1 : (-2147483648) ≤ p1 ∧ p1 ≤ 2147483647) {p2 : Int} (hp2 : (-2147483648) ≤ p2 ∧ p2 ≤ 2147483647) {f_dm : Int} (q_f_dm : μ 106 5 = f_dm) {f_n : Int} (q_f_n : μ 106 2 = f_n) (hIJC : JC l D c H0 sa μ) (hIRP : RP μ) (hIEP : EP μ) (hIHP : HP μ) (hIUP : UP l D c H0 sa μ) (hIG1 : G1 μ) (hIEV : EV μ) (hIPK : PK μ) : sC (gG l D c H0 sa) mX12_withdraw 11 0 0 [.ref 106, iv p1, iv p2] (mk w μ) (qI w [106026, 106027, 106028, 106029, 106030, 106031, 106072, 126999, 151999, 152999, 153999, 155999, 156999, 157999, 158999, 159999, 160999, 161999, 162999, 165999] μ (fun z μ1 => ((-2147483648) ≤ z ∧ z ≤ 2147483647) ∧ JC l D c H0 sa μ1 ∧ RP μ1 ∧ EP μ1 ∧ HP μ1 ∧ UP l D c H0 sa μ1 ∧ G1 μ1 ∧ EV μ1 ∧ (anA (p1 < 0 ∨ f_dm ≤ p1 ∨ p2 < 0 ∨ f_n ≤ p2) (μ 162 ((10 * p1) + p2).toNat) (-1) z) ∧ (anR μ μ1 p1 p2 (-1) z) ∧ True)) := by
  refine sC.of rfl (by decide) (le_t rfl) ?_
  have ht_f_dm : (0 ≤ f_dm ∧ f_dm ≤ 10) := by rw [← q_f_dm]; exact hT 106 106 (A_106 hw) 5
  have ht_f_n : (0 ≤ f_n ∧ f_n ≤ 10) := by rw [← q_f_n]; exact hT 106 106 (A_106 hw) 2
  refine mr_lvE (lv' := [(0, .ref 106), (1, iv p1), (2, iv p2)]) rfl ?_
  refine sv_aload_n (pc := 0) dX12_withdraw_0 rfl rfl ?_
  refine mr_iload_n (pc := 1) (z := p1) dX12_withdraw_1 rfl rfl ?_
  refine mr_cVP (pc := 2) (c_X12_isDomain hw hT hp1 q_f_dm) (gOk _ _ _ _ _) dX12_withdraw_2 (tX12_isDomain _ _ _ _ _) ⟨wV_X12_isDomain, wL_X12_isDomain⟩ wM_X12_49 (gCX12 _ _ _ _ _) rfl (A_106 hw) rfl ⟨le_t rfl, le_t rfl⟩ ⟨le_t rfl, le_t rfl⟩ rfl (le_t rfl) fun z104 h103 => ?_
  refine mr_if_eq (pc := 5) (tgt := 16) dX12_withdraw_5 (by decide) (r32 h103.1 rfl) (fun h105 => ?_) (fun h105 => ?_)
  · have h106 : 0 ≤ z104 ∧ z104 ≤ 0 := (vc_X11_announce_v_1 h105 h103.2.1 h103.2.2.1 ht_f_dm hp1 h103.1)
    have h107 : p1 < 0 ∨ f_dm ≤ p1 := (h103.2.2.1 (vc_X11_announce_v_9 h103.2.1 h103.2.2.1 h105 ht_f_dm hp1 h106))
    refine mr_iconst (pc := 16) (z := (-1)) dX12_withdraw_16 ?_
    exact mr_iret dX12_withdraw_17 rfl (le_t rfl) (le_t rfl) hT mF.refl ⟨(rW (c := (-2147483648)) (d := 2147483647) (rR (x := (-1))) rfl), hIJC, hIRP, hIEP, hIHP, hIUP, hIG1, hIEV, (Or.inl ⟨(vc_X12_withdraw_v_3 h103.2.1 h103.2.2.1 h107 h105 ht_f_dm ht_f_n hp1 hp2 h106), rfl⟩), (Or.inl ⟨vc_X12_raise_u_49, rfl⟩), trivial⟩
  have h108 : 1 ≤ z104 ∧ z104 ≤ 1 := (vc_X11_announce_v_5 h105 h103.2.1 h103.2.2.1 ht_f_dm hp1 h103.1)
  have h109 : 0 ≤ p1 ∧ p1 < f_dm := (h103.2.1 (vc_X11_announce_v_12 h103.2.1 h103.2.2.1 h105 ht_f_dm hp1 h108))
  have h110 : 0 ≤ p1 ∧ p1 ≤ 9 := (vc_X11_announce_v_13 h109 h103.2.1 h103.2.2.1 ht_f_dm hp1 h108)
  refine sv_aload_n (pc := 8) dX12_withdraw_8 rfl rfl ?_
  refine mr_iload_n (pc := 9) (z := p2) dX12_withdraw_9 rfl rfl ?_
  refine mr_cVP (pc := 10) (c_X12_isPrefix hw hT hp2 q_f_n) (gOk _ _ _ _ _) dX12_withdraw_10 (tX12_isPrefix _ _ _ _ _) ⟨wV_X12_isPrefix, wL_X12_isPrefix⟩ wM_X12_92 (gCX12 _ _ _ _ _) rfl (A_106 hw) rfl ⟨le_t rfl, le_t rfl⟩ ⟨le_t rfl, le_t rfl⟩ rfl (le_t rfl) fun z115 h114 => ?_
  refine mr_if_ne (pc := 13) (tgt := 18) dX12_withdraw_13 (by decide) (r32 h114.1 rfl) (fun h116 => ?_) (fun h116 => ?_)
  · have h117 : 1 ≤ z115 ∧ z115 ≤ 1 := (vc_X11_announce_v_5 h116 h114.2.1 h114.2.2.1 ht_f_n hp2 h114.1)
    have h118 : 0 ≤ p2 ∧ p2 < f_n := (h114.2.1 (vc_X11_announce_v_12 h114.2.1 h114.2.2.1 h116 ht_f_n hp2 h117))
    have h119 : 0 ≤ p2 ∧ p2 ≤ 9 := (vc_X11_announce_v_13 h118 h114.2.1 h114.2.2.1 ht_f_n hp2 h117)
    have h120 : 1 ≤ f_n ∧ f_n ≤ 10 := (vc_X11_announce_v_14 h118 h114.2.1 h114.2.2.1 ht_f_n h119 h117)
    refine sv_aload_n (pc := 18) dX12_withdraw_18 rfl rfl ?_
    refine gf_X12_82 (pc := 19) dX12_withdraw_19 wF_X12_448 (A_106 hw) hT ?_
    refine mr_bipush (pc := 22) (z := 10) dX12_withdraw_22 (by decide) ?_
    refine mr_iload_n (pc := 24) (z := p1) dX12_withdraw_24 rfl rfl ?_
    refine mr_imul (pc := 25) (x := 10) (y := p1) dX12_withdraw_25 ?_
    refine mr_iload_n (pc := 26) (z := p2) dX12_withdraw_26 rfl rfl ?_
    refine mr_iadd (pc := 27) (x := (10 * p1)) (y := p2) dX12_withdraw_27 ?_
    refine la_162 (pc := 28) dX12_withdraw_28 (A_162 hw) hT (rIx (n := 100) (rAdd (e := 0) (f := 99) (rMulL (n := 10) (e := 0) (f := 90) h110 rfl) h119 rfl) rfl) fun z121 q122 h123 => ?_
    refine mr_if_ge (pc := 29) (tgt := 35) dX12_withdraw_29 (by decide) (r32 h123 rfl) (fun h124 => ?_) (fun h124 => ?_)
    · have h125 : 0 ≤ z121 ∧ z121 ≤ 2 := (vc_X12_look_u_133 h124 h123)
      refine sv_aload_n (pc := 35) dX12_withdraw_35 rfl rfl ?_
      refine gf_X12_82 (pc := 36) dX12_withdraw_36 wF_X12_448 (A_106 hw) hT ?_
      refine mr_bipush (pc := 39) (z := 10) dX12_withdraw_39 (by decide) ?_
      refine mr_iload_n (pc := 41) (z := p1) dX12_withdraw_41 rfl rfl ?_
      refine mr_imul (pc := 42) (x := 10) (y := p1) dX12_withdraw_42 ?_
      refine mr_iload_n (pc := 43) (z := p2) dX12_withdraw_43 rfl rfl ?_
      refine mr_iadd (pc := 44) (x := (10 * p1)) (y := p2) dX12_withdraw_44 ?_
      refine mr_iconst (pc := 45) (z := (-1)) dX12_withdraw_45 ?_
      refine ss_162 (pc := 46) dX12_withdraw_46 (A_162 hw) hT (rIx (n := 100) (rAdd (e := 0) (f := 99) (rMulL (n := 10) (e := 0) (f := 90) h110 rfl) h119 rfl) rfl) (rW (c := (-1)) (d := 2) (rR (x := (-1))) rfl) fun μ126 u127 T128 => ?_
      refine sv_aload_n (pc := 47) dX12_withdraw_47 rfl rfl ?_
      refine mr_iload_n (pc := 48) (z := p1) dX12_withdraw_48 rfl rfl ?_
      refine mr_iload_n (pc := 49) (z := p2) dX12_withdraw_49 rfl rfl ?_
      refine mr_cVV (pc := 50) (c_X12_look_u hw T128 h110 h119 (u127.f (Or.inl (mAt.ne (A_162 hw) (A_106 hw) rfl)) q_f_n) (vc_X12_announce_v_18 h114.2.1 h114.2.2.1 h118 h116 h120 h119 h117) (JC.keepJ hIJC hw ((mF.up mF.refl (A_162 hw) u127 rfl) : mF [162999] w μ μ126) rfl) (RP.keep hIRP hw ((mF.up mF.refl (A_162 hw) u127 rfl) : mF [162999] w μ μ126) rfl ((mG.upO mG.refl u127 rfl) : mG [] μ μ126) (fun _ h => absurd h List.not_mem_nil)) (EP.keep hIEP hw ((mF.up mF.refl (A_162 hw) u127 rfl) : mF [162999] w μ μ126) rfl) (G1.keep hIG1 hw ((mF.up mF.refl (A_162 hw) u127 rfl) : mF [162999] w μ μ126) rfl rfl ((mG.upO mG.refl u127 rfl) : mG [] μ μ126) (fun _ h => absurd h List.not_mem_nil)) (EV.keep hIEV hw ((mF.up mF.refl (A_162 hw) u127 rfl) : mF [162999] w μ μ126) rfl) (PK.keep hIPK hw ((mF.up mF.refl (A_162 hw) u127 rfl) : mF [162999] w μ μ126) rfl)) (gOk _ _ _ _ _) dX12_withdraw_50 (tX12_look _ _ _ _ _) ⟨wV_X12_look, wL_X12_look⟩ wM_X12_597 (gCX12 _ _ _ _ _) rfl (A_106 hw) rfl ⟨le_t rfl, le_t rfl⟩ ⟨le_t rfl, le_t rfl⟩ rfl (le_t rfl) fun μ129 T130 F131 h132 => ?_
      have I133 : UP l D c H0 sa μ129 := UPg.look (UPg.fr hIUP hw T128 rfl ((mF.up mF.refl (A_162 hw) u127 rfl) : mF [162999] w μ μ126) rfl rfl rfl ((mG.upO mG.refl u127 rfl) : mG [] μ μ126) (fun _ h => absurd h List.not_mem_nil)) (fun _ _ h => h.elim) h110 h119 hw T128 rfl rfl ((mF.call mF.refl F131 rfl) : mF [106026, 106027, 106028, 106029, 106030, 106031, 106072, 126999, 151999, 152999, 153999, 155999, 156999, 157999, 158999, 159999, 160999, 161999, 165999] w μ126 μ129) rfl rfl rfl ((mG.call mG.refl h132.1 (List.forall_mem_cons.mpr ⟨⟨_, List.mem_cons_self, vc_X12_look_u_35⟩, (List.forall_mem_cons.mpr ⟨⟨_, (List.mem_cons_of_mem _ List.mem_cons_self), (vc_X12_announce_v_20 h103.2.1 h103.2.2.1 h109 h114.2.1 h114.2.2.1 h118 h105 h116 ht_f_dm h120 h110 h119 h108 h117)⟩, (List.forall_mem_cons.mpr ⟨⟨_, (List.mem_cons_of_mem _ (List.mem_cons_of_mem _ List.mem_cons_self)), vc_X12_say_u_34⟩, (fun _ h => absurd h List.not_mem_nil)⟩)⟩)⟩)) : mG [(80, 960), ((40 * (30 + ((10 * p1) + p2))), ((40 * (30 + ((10 * p1) + p2))) + 40)), (21200, 53200)] μ126 μ129) (List.forall_mem_cons.mpr ⟨vc_X12_lookAll_u_14, (List.forall_mem_cons.mpr ⟨(vc_X12_announce_v_23 h103.2.1 h103.2.2.1 h109 h114.2.1 h114.2.2.1 h118 h105 h116 ht_f_dm h120 h110 h119 h108 h117), (List.forall_mem_cons.mpr ⟨vc_X12_look_u_55, (fun _ h => absurd h List.not_mem_nil)⟩)⟩)⟩) h132.2.2.2.2.2.2.2.1 h132.2.2.2.2.2.2.1
      refine mr_iconst (pc := 53) (z := 0) dX12_withdraw_53 ?_
      exact mr_iret dX12_withdraw_54 rfl (le_t rfl) (le_t rfl) T130 (mF.call (mF.up mF.refl (A_162 hw) u127 rfl) F131 rfl) ⟨(rW (c := (-2147483648)) (d := 2147483647) (rR (x := 0)) rfl), h132.2.1, h132.2.2.1, h132.2.2.2.1, (HP.keep hIHP hw ((mF.call (mF.up mF.refl (A_162 hw) u127 rfl) F131 rfl) : mF [106026, 106027, 106028, 106029, 106030, 106031, 106072, 126999, 151999, 152999, 153999, 155999, 156999, 157999, 158999, 159999, 160999, 161999, 162999, 165999] w μ μ129) rfl ((mG.call (mG.upO mG.refl u127 rfl) h132.1 (List.forall_mem_cons.mpr ⟨⟨_, List.mem_cons_self, vc_X12_look_u_35⟩, (List.forall_mem_cons.mpr ⟨⟨_, (List.mem_cons_of_mem _ List.mem_cons_self), (vc_X12_announce_v_20 h103.2.1 h103.2.2.1 h109 h114.2.1 h114.2.2.1 h118 h105 h116 ht_f_dm h120 h110 h119 h108 h117)⟩, (List.forall_mem_cons.mpr ⟨⟨_, (List.mem_cons_of_mem _ (List.mem_cons_of_mem _ List.mem_cons_self)), vc_X12_say_u_34⟩, (fun _ h => absurd h List.not_mem_nil)⟩)⟩)⟩)) : mG [(80, 960), ((40 * (30 + ((10 * p1) + p2))), ((40 * (30 + ((10 * p1) + p2))) + 40)), (21200, 53200)] μ μ129) (List.forall_mem_cons.mpr ⟨vc_X12_lookAll_u_14, (List.forall_mem_cons.mpr ⟨(vc_X12_announce_v_23 h103.2.1 h103.2.2.1 h109 h114.2.1 h114.2.2.1 h118 h105 h116 ht_f_dm h120 h110 h119 h108 h117), (List.forall_mem_cons.mpr ⟨vc_X12_look_u_55, (fun _ h => absurd h List.not_mem_nil)⟩)⟩)⟩)), I133, h132.2.2.2.2.1, h132.2.2.2.2.2.1, (Or.inr ⟨(vc_X12_withdraw_v_20 h103.2.1 h103.2.2.1 h109 h114.2.1 h114.2.2.1 h118 h105 h116 ht_f_dm h120 h110 h119 h108 h117), Or.inr ⟨(by rw [q122]; exact (vc_X12_withdraw_v_21 h124 h125)), rfl⟩⟩), (Or.inr ⟨vc_X12_through_6, (one.fr (one.up one.refl (vc_X12_announce_v_27 h103.2.1 h103.2.2.1 h109 h114.2.1 h114.2.2.1 h118 h105 h116 ht_f_dm h120 h110 h119 h108 h117) u127) F131 (A_162 hw) rfl rfl), (F131.f (A_162 hw) rfl u127.1).trans vc_X11_withdraw_v_18⟩), trivial⟩
    have h134 : (-1) ≤ z121 ∧ z121 ≤ (-1) := (vc_X12_look_u_2 h124 h123)
    refine mr_bipush (pc := 32) (z := (-2)) dX12_withdraw_32 (by decide) ?_
    exact mr_iret dX12_withdraw_34 rfl (le_t rfl) (le_t rfl) hT mF.refl ⟨(rW (c := (-2147483648)) (d := 2147483647) (rR (x := (-2))) rfl), hIJC, hIRP, hIEP, hIHP, hIUP, hIG1, hIEV, (Or.inr ⟨(vc_X12_withdraw_v_20 h103.2.1 h103.2.2.1 h109 h114.2.1 h114.2.2.1 h118 h105 h116 ht_f_dm h120 h110 h119 h108 h117), Or.inl ⟨(by rw [q122]; exact (vc_X12_withdraw_v_26 h124 h134)), rfl⟩⟩), (Or.inl ⟨vc_X11_prefix_v_25, rfl⟩), trivial⟩
  have h135 : 0 ≤ z115 ∧ z115 ≤ 0 := (vc_X11_announce_v_1 h116 h114.2.1 h114.2.2.1 ht_f_n hp2 h114.1)
  have h136 : p2 < 0 ∨ f_n ≤ p2 := (h114.2.2.1 (vc_X11_announce_v_9 h114.2.1 h114.2.2.1 h116 ht_f_n hp2 h135))
  refine mr_iconst (pc := 16) (z := (-1)) dX12_withdraw_16 ?_
  exact mr_iret dX12_withdraw_17 rfl (le_t rfl) (le_t rfl) hT mF.refl ⟨(rW (c := (-2147483648)) (d := 2147483647) (rR (x := (-1))) rfl), hIJC, hIRP, hIEP, hIHP, hIUP, hIG1, hIEV, (Or.inl ⟨(vc_X12_withdraw_v_30 h103.2.1 h103.2.2.1 h109 h114.2.1 h114.2.2.1 h136 h105 h116 ht_f_dm ht_f_n h110 hp2 h108 h135), rfl⟩), (Or.inl ⟨vc_X12_raise_u_49, rfl⟩), trivial⟩
