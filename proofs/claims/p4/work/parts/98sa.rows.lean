theorem vc_X10_maskOf_v_1 {p1 : Int} (h0 : ¬ p1 = 0) (h1 : 0 ≤ p1 ∧ p1 ≤ 32) : 1 ≤ p1 ∧ p1 ≤ 32 := by omega
theorem vc_X10_maskOf_v_2 {p1 : Int} (h0 : ¬ p1 = 0) (h1 : 1 ≤ p1 ∧ p1 ≤ 32) : ¬ p1 = 0 := by omega
theorem vc_X10_maskOf_v_3 {p1 : Int} (h0 : p1 = 0) (h1 : 0 ≤ p1 ∧ p1 ≤ 32) : 0 ≤ p1 ∧ p1 ≤ 0 := by omega
set_option maxRecDepth 4000 in
set_option maxHeartbeats 4000000 in
theorem c_X10_maskOf_v {l : Launch} {D : va_G} {c : Nat → ClassId} {H0 : Heap} {sa : Nat × Nat × (Nat → Int32)} {w : mW} {μ : mM} (hw : mWF w) (hT : mT w μ) {p1 : Int} (hp1 : 0 ≤ p1 ∧ p1 ≤ 32) : sC (gG l D c H0 sa) mX10_maskOf 1 0 0 [iv p1] (mk w μ) (qP w μ (fun z => ((-2147483648) ≤ z ∧ z ≤ 2147483647) ∧ (z = mskF p1) ∧ True)) := by
  refine sC.of rfl (by decide) (le_t rfl) ?_
  refine mr_lvE (lv' := [(0, iv p1)]) rfl ?_
  refine mr_iload_n (pc := 0) (z := p1) dX10_maskOf_0 rfl rfl ?_
  refine mr_if_ne (pc := 1) (tgt := 8) dX10_maskOf_1 (by decide) (r32 hp1 rfl) (fun h1 => ?_) (fun h1 => ?_)
  · have h2 : 1 ≤ p1 ∧ p1 ≤ 32 := (vc_X10_maskOf_v_1 h1 hp1)
    refine mr_iconst (pc := 8) (z := (-1)) dX10_maskOf_8 ?_
    refine mr_bipush (pc := 9) (z := 32) dX10_maskOf_9 (by decide) ?_
    refine mr_iload_n (pc := 11) (z := p1) dX10_maskOf_11 rfl rfl ?_
    refine mr_isub (pc := 12) (x := 32) (y := p1) dX10_maskOf_12 ?_
    refine mr_ishl (pc := 13) (x := (-1)) (y := (32 - p1)) dX10_maskOf_13 ?_
    refine mr_gen (P := fun z => (-2147483648) ≤ z ∧ z ≤ 2147483647) (r32i _) fun z3 q4 h5 => ?_
    exact mr_iretP dX10_maskOf_14 rfl (le_t rfl) (le_t rfl) ⟨h5, (mskF.pos (vc_X10_maskOf_v_2 h1 h2) q4), trivial⟩
  have h6 : 0 ≤ p1 ∧ p1 ≤ 0 := (vc_X10_maskOf_v_3 h1 hp1)
  refine mr_iconst (pc := 4) (z := 0) dX10_maskOf_4 ?_
  refine sv_goto (pc := 5) (tgt := 14) dX10_maskOf_5 (by decide) ?_
  exact mr_iretP dX10_maskOf_14 rfl (le_t rfl) (le_t rfl) ⟨(rW (c := (-2147483648)) (d := 2147483647) (rR (x := 0)) rfl), (mskF.zero (vc_X12_goes_7 h1 h6)), trivial⟩
set_option maxRecDepth 4000 in
set_option maxHeartbeats 4000000 in
theorem c_X12_mask_v {l : Launch} {D : va_G} {c : Nat → ClassId} {H0 : Heap} {sa : Nat × Nat × (Nat → Int32)} {w : mW} {μ : mM} (hw : mWF w) (hT : mT w μ) {p1 : Int} (hp1 : 0 ≤ p1 ∧ p1 ≤ 32) : sC (gG l D c H0 sa) mX12_mask 1 0 0 [iv p1] (mk w μ) (qP w μ (fun z => ((-2147483648) ≤ z ∧ z ≤ 2147483647) ∧ (z = mskF p1) ∧ True)) := by
  refine sC.of rfl (by decide) (le_t rfl) ?_
  refine mr_lvE (lv' := [(0, iv p1)]) rfl ?_
  refine mr_iload_n (pc := 0) (z := p1) dX12_mask_0 rfl rfl ?_
  refine mr_if_ne (pc := 1) (tgt := 8) dX12_mask_1 (by decide) (r32 hp1 rfl) (fun h1 => ?_) (fun h1 => ?_)
  · have h2 : 1 ≤ p1 ∧ p1 ≤ 32 := (vc_X10_maskOf_v_1 h1 hp1)
    refine mr_iconst (pc := 8) (z := (-1)) dX12_mask_8 ?_
    refine mr_bipush (pc := 9) (z := 32) dX12_mask_9 (by decide) ?_
    refine mr_iload_n (pc := 11) (z := p1) dX12_mask_11 rfl rfl ?_
    refine mr_isub (pc := 12) (x := 32) (y := p1) dX12_mask_12 ?_
    refine mr_ishl (pc := 13) (x := (-1)) (y := (32 - p1)) dX12_mask_13 ?_
    refine mr_gen (P := fun z => (-2147483648) ≤ z ∧ z ≤ 2147483647) (r32i _) fun z3 q4 h5 => ?_
    exact mr_iretP dX12_mask_14 rfl (le_t rfl) (le_t rfl) ⟨h5, (mskF.pos (vc_X10_maskOf_v_2 h1 h2) q4), trivial⟩
  have h6 : 0 ≤ p1 ∧ p1 ≤ 0 := (vc_X10_maskOf_v_3 h1 hp1)
  refine mr_iconst (pc := 4) (z := 0) dX12_mask_4 ?_
  refine sv_goto (pc := 5) (tgt := 14) dX12_mask_5 (by decide) ?_
  exact mr_iretP dX12_mask_14 rfl (le_t rfl) (le_t rfl) ⟨(rW (c := (-2147483648)) (d := 2147483647) (rR (x := 0)) rfl), (mskF.zero (vc_X12_goes_7 h1 h6)), trivial⟩
theorem vc_X10_findPrefix_v_2  : ¬ (0 : Int) ≤ (((-1) : Int) : Int) := by omega
theorem vc_X10_findPrefix_v_7 {f_n z161 : Int} (h0 : z161 < f_n) (h1 : 1 ≤ f_n ∧ f_n ≤ 10) (h2 : 0 ≤ z161 ∧ z161 ≤ 9) : 0 ≤ z161 := by omega
theorem vc_X10_findPrefix_v_8 {p1 z173 : Int} (h0 : ¬ z173 = p1) (h1 : (-2147483648) ≤ p1 ∧ p1 ≤ 2147483647) (h2 : (-2147483648) ≤ z173 ∧ z173 ≤ 2147483647) : ¬ z173 = p1 := by omega
theorem vc_X10_findPrefix_v_9 {p2 z177 : Int} (h0 : ¬ z177 = p2) (h1 : (-2147483648) ≤ p2 ∧ p2 ≤ 2147483647) (h2 : 0 ≤ z177 ∧ z177 ≤ 32) : ¬ z177 = p2 := by omega
theorem vc_X10_findPrefix_v_11 {f_n z161 : Int} (h0 : z161 < f_n) (h1 : 1 ≤ f_n ∧ f_n ≤ 10) (h2 : 0 ≤ z161 ∧ z161 ≤ 9) : 0 ≤ z161 ∧ z161 < f_n := by omega
theorem vc_X10_findPrefix_v_12 {p1 z173 : Int} (h0 : z173 = p1) (h1 : (-2147483648) ≤ p1 ∧ p1 ≤ 2147483647) (h2 : (-2147483648) ≤ z173 ∧ z173 ≤ 2147483647) : z173 = p1 := by omega
theorem vc_X10_findPrefix_v_13 {p2 z177 : Int} (h0 : z177 = p2) (h1 : 0 ≤ p2 ∧ p2 ≤ 32) (h2 : 0 ≤ z177 ∧ z177 ≤ 32) : z177 = p2 := by omega
theorem vc_X10_findPrefix_v_14 {f_n z161 : Int} (h0 : z161 < f_n) (h1 : 1 ≤ f_n ∧ f_n ≤ 10) (h2 : 0 ≤ z161 ∧ z161 ≤ 9) : ¬ z161 < 0 := by omega
theorem vc_X10_findPrefix_v_16  : ((0 : Int) : Int) ≤ (0 : Int) := by omega
set_option maxRecDepth 4000 in
set_option maxHeartbeats 4000000 in
theorem c_X10_findPrefix_v {l : Launch} {D : va_G} {c : Nat → ClassId} {H0 : Heap} {sa : Nat × Nat × (Nat → Int32)} {w : mW} {μ : mM} (hw : mWF w) (hT : mT w μ) {p1 : Int} (hp1 : (-2147483648) ≤ p1 ∧ p1 ≤ 2147483647) {p2 : Int} (hp2 : (-2147483648) ≤ p2 ∧ p2 ≤ 2147483647) {f_n : Int} (q_f_n : μ 6 14 = f_n) : sC (gG l D c H0 sa) mX10_findPrefix 1 0 0 [.ref 6, iv p1, iv p2] (mk w μ) (qP w μ (fun z => ((-1) ≤ z ∧ z ≤ 9) ∧ (0 ≤ z → hasP μ 7 8 f_n p1 p2) ∧ (z < 0 → ¬ hasP μ 7 8 f_n p1 p2) ∧ True)) := by
  refine sC.of rfl (by decide) (le_t rfl) ?_
  have ht_f_n : (0 ≤ f_n ∧ f_n ≤ 10) := by rw [← q_f_n]; exact hT 6 6 (A_6 hw) 14
  refine mr_lvE (lv' := [(0, .ref 6), (1, iv p1), (2, iv p2)]) rfl ?_
  refine mr_iconst (pc := 0) (z := 0) dX10_findPrefix_0 ?_
  refine mr_istore_n (pc := 1) (lv' := [(3, iv 0), (0, .ref 6), (1, iv p1), (2, iv p2)]) dX10_findPrefix_1 rfl (by decide) rfl ?_
  have L162 : ∀ (nL162 : Nat) (z161 : Int), True → (0 ≤ z161 ∧ z161 ≤ 10) → noneP μ 7 8 z161 p1 p2 → (11 - z161) < (nL162 : Int) → sV (gG l D c H0 sa) mX10_findPrefix (sRm 1 0 0) (sZ (gG l D c H0 sa) 0 0 (qP w μ (fun z => ((-1) ≤ z ∧ z ≤ 9) ∧ (0 ≤ z → hasP μ 7 8 f_n p1 p2) ∧ (z < 0 → ¬ hasP μ 7 8 f_n p1 p2) ∧ True))) 2 [(0, .ref 6), (1, iv p1), (2, iv p2), (3, iv z161)] [] (mk w μ) 0 0 := by
    intro nL162
    induction nL162 with
    | zero => intro z161 _ h163 R167 h168; exact ((vc_X12_ring_2 h168 h163)).elim
    | succ nL162 ih169 =>
      intro z161 _ h163 R167 h168
      refine mr_iload_n (pc := 2) (z := z161) dX10_findPrefix_2 rfl rfl ?_
      refine sv_aload_n (pc := 3) dX10_findPrefix_3 rfl rfl ?_
      refine gk_X10_14 (pc := 4) dX10_findPrefix_4 wF_X10_60 (A_6 hw) q_f_n ?_
      refine mr_icmp_ge (pc := 7) (tgt := 38) dX10_findPrefix_7 (by decide) (r32 h163 rfl) (r32 ht_f_n rfl) (fun h170 => ?_) (fun h170 => ?_)
      · refine mr_iconst (pc := 38) (z := (-1)) dX10_findPrefix_38 ?_
        exact mr_iretP dX10_findPrefix_39 rfl (le_t rfl) (le_t rfl) ⟨(rW (c := (-1)) (d := 9) (rR (x := (-1))) rfl), (fun h => absurd h vc_X10_findPrefix_v_2), (fun _ => noneP.no R167 (vc_X12_lookAll_u_5 h170 ht_f_n h163)), trivial⟩
      have h171 : 0 ≤ z161 ∧ z161 ≤ 9 := (vc_X12_lookAll_u_6 h170 ht_f_n h163)
      have h172 : 1 ≤ f_n ∧ f_n ≤ 10 := (vc_X12_say_u_2 h170 ht_f_n h171)
      refine sv_aload_n (pc := 10) dX10_findPrefix_10 rfl rfl ?_
      refine gf_X10_0 (pc := 11) dX10_findPrefix_11 wF_X10_9 (A_6 hw) hT ?_
      refine mr_iload_n (pc := 14) (z := z161) dX10_findPrefix_14 rfl rfl ?_
      refine la_7 (pc := 15) dX10_findPrefix_15 (A_7 hw) hT (rIx (n := 10) h171 rfl) fun z173 q174 h175 => ?_
      refine mr_iload_n (pc := 16) (z := p1) dX10_findPrefix_16 rfl rfl ?_
      refine mr_icmp_ne (pc := 17) (tgt := 32) dX10_findPrefix_17 (by decide) h175 hp1 (fun h176 => ?_) (fun h176 => ?_)
      · refine mr_iinc (pc := 32) (lv' := [(3, iv (z161 + 1)), (0, .ref 6), (1, iv p1), (2, iv p2)]) dX10_findPrefix_32 rfl (by decide) rfl ?_
        refine sv_goto (pc := 35) (tgt := 2) dX10_findPrefix_35 (by decide) ?_
        refine mr_lvS (lv' := [(0, .ref 6), (1, iv p1), (2, iv p2), (3, iv (z161 + 1))]) (List.forall_mem_cons.mpr ⟨rfl, List.forall_mem_cons.mpr ⟨rfl, List.forall_mem_cons.mpr ⟨rfl, List.forall_mem_cons.mpr ⟨rfl, fun _ h => absurd h List.not_mem_nil⟩⟩⟩⟩) ?_
        exact ih169 (z161 + 1) trivial (rW (c := 0) (d := 10) (rAdd (e := 1) (f := 10) h171 (rR (x := 1)) rfl) rfl) (noneP.succ (v := 0) R167 (vc_X10_findPrefix_v_7 h170 h172 h171) q174 (vc_X10_findPrefix_v_8 h176 hp1 h175)) (vc_X12_lookAll_u_9 (nS h168) h170 h172 h171)
      refine sv_aload_n (pc := 20) dX10_findPrefix_20 rfl rfl ?_
      refine gf_X10_1 (pc := 21) dX10_findPrefix_21 wF_X10_15 (A_6 hw) hT ?_
      refine mr_iload_n (pc := 24) (z := z161) dX10_findPrefix_24 rfl rfl ?_
      refine la_8 (pc := 25) dX10_findPrefix_25 (A_8 hw) hT (rIx (n := 10) h171 rfl) fun z177 q178 h179 => ?_
      refine mr_iload_n (pc := 26) (z := p2) dX10_findPrefix_26 rfl rfl ?_
      refine mr_icmp_ne (pc := 27) (tgt := 32) dX10_findPrefix_27 (by decide) (r32 h179 rfl) hp2 (fun h180 => ?_) (fun h180 => ?_)
      · refine mr_iinc (pc := 32) (lv' := [(3, iv (z161 + 1)), (0, .ref 6), (1, iv p1), (2, iv p2)]) dX10_findPrefix_32 rfl (by decide) rfl ?_
        refine sv_goto (pc := 35) (tgt := 2) dX10_findPrefix_35 (by decide) ?_
        refine mr_lvS (lv' := [(0, .ref 6), (1, iv p1), (2, iv p2), (3, iv (z161 + 1))]) (List.forall_mem_cons.mpr ⟨rfl, List.forall_mem_cons.mpr ⟨rfl, List.forall_mem_cons.mpr ⟨rfl, List.forall_mem_cons.mpr ⟨rfl, fun _ h => absurd h List.not_mem_nil⟩⟩⟩⟩) ?_
        exact ih169 (z161 + 1) trivial (rW (c := 0) (d := 10) (rAdd (e := 1) (f := 10) h171 (rR (x := 1)) rfl) rfl) (noneP.succ2 (u := 0) R167 (vc_X10_findPrefix_v_7 h170 h172 h171) q178 (vc_X10_findPrefix_v_9 h180 hp2 h179)) (vc_X12_lookAll_u_9 (nS h168) h170 h172 h171)
      have h181 : 0 ≤ p2 ∧ p2 ≤ 32 := (vc_X10_findPrefix_5 h180 hp2 h179)
      refine mr_iload_n (pc := 30) (z := z161) dX10_findPrefix_30 rfl rfl ?_
      exact mr_iretP dX10_findPrefix_31 rfl (le_t rfl) (le_t rfl) ⟨(rW (c := (-1)) (d := 9) h171 rfl), (fun _ => hasP.of (vc_X10_findPrefix_v_11 h170 h172 h171) q174 q178 (vc_X10_findPrefix_v_12 h176 hp1 h175) (vc_X10_findPrefix_v_13 h180 h181 h179)), (fun h => absurd h (vc_X10_findPrefix_v_14 h170 h172 h171)), trivial⟩
  refine mr_lvS (lv' := [(0, .ref 6), (1, iv p1), (2, iv p2), (3, iv 0)]) (List.forall_mem_cons.mpr ⟨rfl, List.forall_mem_cons.mpr ⟨rfl, List.forall_mem_cons.mpr ⟨rfl, List.forall_mem_cons.mpr ⟨rfl, fun _ h => absurd h List.not_mem_nil⟩⟩⟩⟩) ?_
  exact L162 12 0 trivial (rW (c := 0) (d := 10) (rR (x := 0)) rfl) (noneP.zero vc_X10_findPrefix_v_16) vc_X12_ring_27
theorem vc_X12_prefixOf_v_3  : ¬ (0 : Int) ≤ (((-99999999) : Int) : Int) := by omega
set_option maxRecDepth 4000 in
set_option maxHeartbeats 4000000 in
theorem c_X12_prefixOf_v {l : Launch} {D : va_G} {c : Nat → ClassId} {H0 : Heap} {sa : Nat × Nat × (Nat → Int32)} {w : mW} {μ : mM} (hw : mWF w) (hT : mT w μ) {p1 : Int} (hp1 : (-2147483648) ≤ p1 ∧ p1 ≤ 2147483647) {p2 : Int} (hp2 : (-2147483648) ≤ p2 ∧ p2 ≤ 2147483647) {f_n : Int} (q_f_n : μ 106 2 = f_n) : sC (gG l D c H0 sa) mX12_prefixOf 1 0 0 [.ref 106, iv p1, iv p2] (mk w μ) (qP w μ (fun z => ((-99999999) ≤ z ∧ z ≤ 9) ∧ (z = -99999999 ∨ (0 ≤ z ∧ z ≤ 9)) ∧ (0 ≤ z → hasP μ 108 109 f_n p1 p2) ∧ (z < 0 → ¬ hasP μ 108 109 f_n p1 p2) ∧ True)) := by
  refine sC.of rfl (by decide) (le_t rfl) ?_
  have ht_f_n : (0 ≤ f_n ∧ f_n ≤ 10) := by rw [← q_f_n]; exact hT 106 106 (A_106 hw) 2
  refine mr_lvE (lv' := [(0, .ref 106), (1, iv p1), (2, iv p2)]) rfl ?_
  refine mr_iconst (pc := 0) (z := 0) dX12_prefixOf_0 ?_
  refine mr_istore_n (pc := 1) (lv' := [(3, iv 0), (0, .ref 106), (1, iv p1), (2, iv p2)]) dX12_prefixOf_1 rfl (by decide) rfl ?_
  have L162 : ∀ (nL162 : Nat) (z161 : Int), True → (0 ≤ z161 ∧ z161 ≤ 10) → noneP μ 108 109 z161 p1 p2 → (11 - z161) < (nL162 : Int) → sV (gG l D c H0 sa) mX12_prefixOf (sRm 1 0 0) (sZ (gG l D c H0 sa) 0 0 (qP w μ (fun z => ((-99999999) ≤ z ∧ z ≤ 9) ∧ (z = -99999999 ∨ (0 ≤ z ∧ z ≤ 9)) ∧ (0 ≤ z → hasP μ 108 109 f_n p1 p2) ∧ (z < 0 → ¬ hasP μ 108 109 f_n p1 p2) ∧ True))) 2 [(0, .ref 106), (1, iv p1), (2, iv p2), (3, iv z161)] [] (mk w μ) 0 0 := by
    intro nL162
    induction nL162 with
    | zero => intro z161 _ h163 R167 h168; exact ((vc_X12_ring_2 h168 h163)).elim
    | succ nL162 ih169 =>
      intro z161 _ h163 R167 h168
      refine mr_iload_n (pc := 2) (z := z161) dX12_prefixOf_2 rfl rfl ?_
      refine sv_aload_n (pc := 3) dX12_prefixOf_3 rfl rfl ?_
      refine gk_X12_2 (pc := 4) dX12_prefixOf_4 wF_X12_15 (A_106 hw) q_f_n ?_
      refine mr_icmp_ge (pc := 7) (tgt := 38) dX12_prefixOf_7 (by decide) (r32 h163 rfl) (r32 ht_f_n rfl) (fun h170 => ?_) (fun h170 => ?_)
      · refine mr_ldc (pc := 38) (z := (-99999999)) dX12_prefixOf_38 wG_X12_29 (by decide) ?_
        exact mr_iretP dX12_prefixOf_40 rfl (le_t rfl) (le_t rfl) ⟨(rW (c := (-99999999)) (d := 9) (rR (x := (-99999999))) rfl), vc_X12_prefixOf_u_2, (fun h => absurd h vc_X12_prefixOf_v_3), (fun _ => noneP.no R167 (vc_X12_lookAll_u_5 h170 ht_f_n h163)), trivial⟩
      have h171 : 0 ≤ z161 ∧ z161 ≤ 9 := (vc_X12_lookAll_u_6 h170 ht_f_n h163)
      have h172 : 1 ≤ f_n ∧ f_n ≤ 10 := (vc_X12_say_u_2 h170 ht_f_n h171)
      refine sv_aload_n (pc := 10) dX12_prefixOf_10 rfl rfl ?_
      refine gf_X12_3 (pc := 11) dX12_prefixOf_11 wF_X12_22 (A_106 hw) hT ?_
      refine mr_iload_n (pc := 14) (z := z161) dX12_prefixOf_14 rfl rfl ?_
      refine la_108 (pc := 15) dX12_prefixOf_15 (A_108 hw) hT (rIx (n := 10) h171 rfl) fun z173 q174 h175 => ?_
      refine mr_iload_n (pc := 16) (z := p1) dX12_prefixOf_16 rfl rfl ?_
      refine mr_icmp_ne (pc := 17) (tgt := 32) dX12_prefixOf_17 (by decide) h175 hp1 (fun h176 => ?_) (fun h176 => ?_)
      · refine mr_iinc (pc := 32) (lv' := [(3, iv (z161 + 1)), (0, .ref 106), (1, iv p1), (2, iv p2)]) dX12_prefixOf_32 rfl (by decide) rfl ?_
        refine sv_goto (pc := 35) (tgt := 2) dX12_prefixOf_35 (by decide) ?_
        refine mr_lvS (lv' := [(0, .ref 106), (1, iv p1), (2, iv p2), (3, iv (z161 + 1))]) (List.forall_mem_cons.mpr ⟨rfl, List.forall_mem_cons.mpr ⟨rfl, List.forall_mem_cons.mpr ⟨rfl, List.forall_mem_cons.mpr ⟨rfl, fun _ h => absurd h List.not_mem_nil⟩⟩⟩⟩) ?_
        exact ih169 (z161 + 1) trivial (rW (c := 0) (d := 10) (rAdd (e := 1) (f := 10) h171 (rR (x := 1)) rfl) rfl) (noneP.succ (v := 0) R167 (vc_X10_findPrefix_v_7 h170 h172 h171) q174 (vc_X10_findPrefix_v_8 h176 hp1 h175)) (vc_X12_lookAll_u_9 (nS h168) h170 h172 h171)
      refine sv_aload_n (pc := 20) dX12_prefixOf_20 rfl rfl ?_
      refine gf_X12_4 (pc := 21) dX12_prefixOf_21 wF_X12_26 (A_106 hw) hT ?_
      refine mr_iload_n (pc := 24) (z := z161) dX12_prefixOf_24 rfl rfl ?_
      refine la_109 (pc := 25) dX12_prefixOf_25 (A_109 hw) hT (rIx (n := 10) h171 rfl) fun z177 q178 h179 => ?_
      refine mr_iload_n (pc := 26) (z := p2) dX12_prefixOf_26 rfl rfl ?_
      refine mr_icmp_ne (pc := 27) (tgt := 32) dX12_prefixOf_27 (by decide) (r32 h179 rfl) hp2 (fun h180 => ?_) (fun h180 => ?_)
      · refine mr_iinc (pc := 32) (lv' := [(3, iv (z161 + 1)), (0, .ref 106), (1, iv p1), (2, iv p2)]) dX12_prefixOf_32 rfl (by decide) rfl ?_
        refine sv_goto (pc := 35) (tgt := 2) dX12_prefixOf_35 (by decide) ?_
        refine mr_lvS (lv' := [(0, .ref 106), (1, iv p1), (2, iv p2), (3, iv (z161 + 1))]) (List.forall_mem_cons.mpr ⟨rfl, List.forall_mem_cons.mpr ⟨rfl, List.forall_mem_cons.mpr ⟨rfl, List.forall_mem_cons.mpr ⟨rfl, fun _ h => absurd h List.not_mem_nil⟩⟩⟩⟩) ?_
        exact ih169 (z161 + 1) trivial (rW (c := 0) (d := 10) (rAdd (e := 1) (f := 10) h171 (rR (x := 1)) rfl) rfl) (noneP.succ2 (u := 0) R167 (vc_X10_findPrefix_v_7 h170 h172 h171) q178 (vc_X10_findPrefix_v_9 h180 hp2 h179)) (vc_X12_lookAll_u_9 (nS h168) h170 h172 h171)
      have h181 : 0 ≤ p2 ∧ p2 ≤ 32 := (vc_X10_findPrefix_5 h180 hp2 h179)
      refine mr_iload_n (pc := 30) (z := z161) dX12_prefixOf_30 rfl rfl ?_
      exact mr_iretP dX12_prefixOf_31 rfl (le_t rfl) (le_t rfl) ⟨(rW (c := (-99999999)) (d := 9) h171 rfl), (vc_X12_prefixOf_u_8 h170 h172 h171), (fun _ => hasP.of (vc_X10_findPrefix_v_11 h170 h172 h171) q174 q178 (vc_X10_findPrefix_v_12 h176 hp1 h175) (vc_X10_findPrefix_v_13 h180 h181 h179)), (fun h => absurd h (vc_X10_findPrefix_v_14 h170 h172 h171)), trivial⟩
  refine mr_lvS (lv' := [(0, .ref 106), (1, iv p1), (2, iv p2), (3, iv 0)]) (List.forall_mem_cons.mpr ⟨rfl, List.forall_mem_cons.mpr ⟨rfl, List.forall_mem_cons.mpr ⟨rfl, List.forall_mem_cons.mpr ⟨rfl, fun _ h => absurd h List.not_mem_nil⟩⟩⟩⟩) ?_
  exact L162 12 0 trivial (rW (c := 0) (d := 10) (rR (x := 0)) rfl) (noneP.zero vc_X10_findPrefix_v_16) vc_X12_ring_27
theorem vc_X10_addPrefix_v_1 {f_p : Int} (h0 : f_p ≤ 9) (h1 : 0 ≤ f_p ∧ f_p ≤ 10) : 0 ≤ f_p ∧ f_p ≤ 9 := by omega
theorem vc_X10_addPrefix_v_2 {f_p : Int} (h0 : f_p ≤ 9) (h1 : 0 ≤ f_p ∧ f_p ≤ 9) : ((f_p + 1) - 1) = f_p := by omega
theorem vc_X10_addPrefix_v_3 {f_p : Int} (h0 : f_p ≤ 9) (h1 : 0 ≤ f_p ∧ f_p ≤ 9) : (f_p + 1) = f_p + 1 := by omega
set_option maxRecDepth 4000 in
set_option maxHeartbeats 4000000 in
theorem c_X10_addPrefix_v {l : Launch} {D : va_G} {c : Nat → ClassId} {H0 : Heap} {sa : Nat × Nat × (Nat → Int32)} {w : mW} {μ : mM} (hw : mWF w) (hT : mT w μ) {p1 : Int} (hp1 : (-2147483648) ≤ p1 ∧ p1 ≤ 2147483647) {p2 : Int} (hp2 : 0 ≤ p2 ∧ p2 ≤ 32) {f_p : Int} (q_f_p : μ 6 14 = f_p) (hq0 : f_p ≤ 9) : sC (gG l D c H0 sa) mX10_addPrefix 2 0 0 [.ref 6, iv p1, iv p2] (mk w μ) (qI w [6014, 7999, 8999, 9999] μ (fun z μ1 => ∃ o_n : Int, μ1 6 14 = o_n ∧ ((-2147483648) ≤ z ∧ z ≤ 2147483647) ∧ (z = f_p) ∧ (o_n = f_p + 1) ∧ (adT μ μ1 7 8 f_p p1 p2) ∧ True)) := by
  refine sC.of rfl (by decide) (le_t rfl) ?_
  have ht_f_p : (0 ≤ f_p ∧ f_p ≤ 10) := by rw [← q_f_p]; exact hT 6 6 (A_6 hw) 14
  have h1 : 0 ≤ f_p ∧ f_p ≤ 9 := (vc_X10_addPrefix_v_1 hq0 ht_f_p)
  refine mr_lvE (lv' := [(0, .ref 6), (1, iv p1), (2, iv p2)]) rfl ?_
  refine sv_aload_n (pc := 0) dX10_addPrefix_0 rfl rfl ?_
  refine gf_X10_0 (pc := 1) dX10_addPrefix_1 wF_X10_9 (A_6 hw) hT ?_
  refine sv_aload_n (pc := 4) dX10_addPrefix_4 rfl rfl ?_
  refine gk_X10_14 (pc := 5) dX10_addPrefix_5 wF_X10_60 (A_6 hw) q_f_p ?_
  refine mr_iload_n (pc := 8) (z := p1) dX10_addPrefix_8 rfl rfl ?_
  refine ss_7 (pc := 9) dX10_addPrefix_9 (A_7 hw) hT (rIx (n := 10) h1 rfl) hp1 fun μ53 u54 T55 => ?_
  refine sv_aload_n (pc := 10) dX10_addPrefix_10 rfl rfl ?_
  refine gf_X10_1 (pc := 11) dX10_addPrefix_11 wF_X10_15 (A_6 hw) T55 ?_
  refine sv_aload_n (pc := 14) dX10_addPrefix_14 rfl rfl ?_
  refine gk_X10_14 (pc := 15) dX10_addPrefix_15 wF_X10_60 (A_6 hw) (u54.f (Or.inl (mAt.ne (A_7 hw) (A_6 hw) rfl)) q_f_p) ?_
  refine mr_iload_n (pc := 18) (z := p2) dX10_addPrefix_18 rfl rfl ?_
  refine ss_8 (pc := 19) dX10_addPrefix_19 (A_8 hw) T55 (rIx (n := 10) h1 rfl) hp2 fun μ56 u57 T58 => ?_
  refine sv_aload_n (pc := 20) dX10_addPrefix_20 rfl rfl ?_
  refine gf_X10_2 (pc := 21) dX10_addPrefix_21 wF_X10_18 (A_6 hw) T58 ?_
  refine sv_aload_n (pc := 24) dX10_addPrefix_24 rfl rfl ?_
  refine gk_X10_14 (pc := 25) dX10_addPrefix_25 wF_X10_60 (A_6 hw) (u57.f (Or.inl (mAt.ne (A_8 hw) (A_6 hw) rfl)) (u54.f (Or.inl (mAt.ne (A_7 hw) (A_6 hw) rfl)) q_f_p)) ?_
  refine mr_iload_n (pc := 28) (z := p2) dX10_addPrefix_28 rfl rfl ?_
  refine mr_cSP (pc := 29) (c_X10_maskOf hw T58 (rW (c := (-2147483648)) (d := 2147483647) hp2 rfl)) (gOk _ _ _ _ _) dX10_addPrefix_29 (tX10_maskOf _ _ _ _ _) wS_X10_maskOf wM_X10_64 ⟨le_t rfl, le_t rfl⟩ ⟨le_t rfl, le_t rfl⟩ rfl (le_t rfl) fun z63 h62 => ?_
  refine ss_9 (pc := 32) dX10_addPrefix_32 (A_9 hw) T58 (rIx (n := 10) h1 rfl) h62.1 fun μ64 u65 T66 => ?_
  refine sv_aload_n (pc := 33) dX10_addPrefix_33 rfl rfl ?_
  refine sv_dup (pc := 34) dX10_addPrefix_34 rfl ?_
  refine gk_X10_14 (pc := 35) dX10_addPrefix_35 wF_X10_60 (A_6 hw) (u65.f (Or.inl (mAt.ne (A_9 hw) (A_6 hw) rfl)) (u57.f (Or.inl (mAt.ne (A_8 hw) (A_6 hw) rfl)) (u54.f (Or.inl (mAt.ne (A_7 hw) (A_6 hw) rfl)) q_f_p))) ?_
  refine mr_iconst (pc := 38) (z := 1) dX10_addPrefix_38 ?_
  refine mr_iadd (pc := 39) (x := f_p) (y := 1) dX10_addPrefix_39 ?_
  refine pf_X10_14 (pc := 40) dX10_addPrefix_40 wF_X10_60 (A_6 hw) T66 (rW (c := 0) (d := 10) (rAdd (e := 1) (f := 10) h1 (rR (x := 1)) rfl) rfl) fun μ67 u68 T69 => ?_
  refine sv_aload_n (pc := 43) dX10_addPrefix_43 rfl rfl ?_
  refine gk_X10_14 (pc := 44) dX10_addPrefix_44 wF_X10_60 (A_6 hw) u68.1 ?_
  refine mr_iconst (pc := 47) (z := 1) dX10_addPrefix_47 ?_
  refine mr_isub (pc := 48) (x := (f_p + 1)) (y := 1) dX10_addPrefix_48 ?_
  exact mr_iret dX10_addPrefix_49 rfl (le_t rfl) (le_t rfl) T69 (mF.up (mF.up (mF.up (mF.up mF.refl (A_7 hw) u54 rfl) (A_8 hw) u57 rfl) (A_9 hw) u65 rfl) (A_6 hw) u68 rfl) ⟨(f_p + 1), u68.1, (rW (c := (-2147483648)) (d := 2147483647) (rSub (e := 0) (f := 9) (rAdd (e := 1) (f := 10) h1 (rR (x := 1)) rfl) (rR (x := 1)) rfl) rfl), (vc_X10_addPrefix_v_2 hq0 h1), (vc_X10_addPrefix_v_3 hq0 h1), (adT.oth (adT.oth (adT.two u54 u57 (by decide)) u65 (by decide) (by decide)) u68 (by decide) (by decide)), trivial⟩
theorem vc_X11_prefix_v_2 {p2 : Int} (h0 : p2 < 0) (h1 : (-2147483648) ≤ p2 ∧ p2 ≤ (-1)) : p2 < 0 ∨ 32 < p2 := by omega
theorem vc_X11_prefix_v_5 {p2 : Int} (h0 : 32 < p2) (h1 : 0 ≤ p2) (h2 : 0 ≤ p2 ∧ p2 ≤ 2147483647) : 33 ≤ p2 ∧ p2 ≤ 2147483647 := by omega
theorem vc_X11_prefix_v_6 {p2 : Int} (h0 : 0 ≤ p2) (h1 : 32 < p2) (h2 : 33 ≤ p2 ∧ p2 ≤ 2147483647) : p2 < 0 ∨ 32 < p2 := by omega
theorem vc_X11_prefix_v_7 {p2 : Int} (h0 : p2 ≤ 32) (h1 : 0 ≤ p2) (h2 : 0 ≤ p2 ∧ p2 ≤ 2147483647) : 0 ≤ p2 ∧ p2 ≤ 32 := by omega
theorem vc_X11_prefix_v_11 {f_n : Int} (h0 : f_n < 10) (h1 : 0 ≤ f_n ∧ f_n ≤ 9) : f_n ≤ 9 := by omega
theorem vc_X11_prefix_v_12 {f_n z141 : Int} (h0 : z141 = f_n) (h1 : f_n < 10) (h2 : 0 ≤ f_n ∧ f_n ≤ 9) (h3 : (-2147483648) ≤ z141 ∧ z141 ≤ 2147483647) : 0 ≤ z141 ∧ z141 ≤ 9 := by omega
theorem vc_X11_prefix_v_13 {p2 : Int} (h0 : 0 ≤ p2) (h1 : p2 ≤ 32) (h2 : 0 ≤ p2 ∧ p2 ≤ 32) : 0 ≤ p2 ∧ p2 ≤ 32 := by omega
theorem vc_X11_prefix_v_15 {z132 : Int} (h0 : z132 < 0) (h1 : (-1) ≤ z132 ∧ z132 ≤ (-1)) : z132 < 0 := by omega
theorem vc_X11_prefix_v_16 {f_n z141 z142 : Int} (h0 : f_n < 10) (h1 : z141 = f_n) (h2 : z142 = f_n + 1) (h3 : 0 ≤ f_n ∧ f_n ≤ 9) (h4 : 0 ≤ z141 ∧ z141 ≤ 9) (h5 : 0 ≤ z142 ∧ z142 ≤ 10) : f_n < 10 := by omega
theorem vc_X11_prefix_v_17 {f_n z141 z142 : Int} (h0 : f_n < 10) (h1 : z141 = f_n) (h2 : z142 = f_n + 1) (h3 : 0 ≤ f_n ∧ f_n ≤ 9) (h4 : 0 ≤ z141 ∧ z141 ≤ 9) (h5 : 0 ≤ z142 ∧ z142 ≤ 10) : z141 = f_n := by omega
theorem vc_X11_prefix_v_18 {f_n z141 z142 : Int} (h0 : z141 = f_n) (h1 : f_n < 10) (h2 : z142 = f_n + 1) (h3 : 0 ≤ f_n ∧ f_n ≤ 9) (h4 : 0 ≤ z141 ∧ z141 ≤ 9) (h5 : 0 ≤ z142 ∧ z142 ≤ 10) : 0 ≤ z141 := by omega
theorem vc_X11_prefix_v_19 {f_n z141 z142 : Int} (h0 : f_n < 10) (h1 : z141 = f_n) (h2 : z142 = f_n + 1) (h3 : 0 ≤ f_n ∧ f_n ≤ 9) (h4 : 0 ≤ z141 ∧ z141 ≤ 9) (h5 : 0 ≤ z142 ∧ z142 ≤ 10) : (f_n + 1) = f_n + 1 := by omega
theorem vc_X11_prefix_v_21 {f_n : Int} (h0 : 10 ≤ f_n) (h1 : 10 ≤ f_n ∧ f_n ≤ 10) : 10 ≤ f_n := by omega
theorem vc_X11_prefix_v_22  : (((-3) : Int) : Int) < (0 : Int) := by omega
theorem vc_X11_prefix_v_24 {z132 : Int} (h0 : 0 ≤ z132) (h1 : 0 ≤ z132 ∧ z132 ≤ 9) : 0 ≤ z132 := by omega
theorem vc_X11_prefix_v_25  : (((-2) : Int) : Int) < (0 : Int) := by omega
theorem vc_X11_prefix_v_26 {z123 : Int} (h0 : ¬ z123 = 0) (h1 : (-2147483648) ≤ z123 ∧ z123 ≤ 2147483647) : ¬ z123 = 0 := by omega
set_option maxRecDepth 4000 in
set_option maxHeartbeats 4000000 in
theorem c_X11_prefix_v {l : Launch} {D : va_G} {c : Nat → ClassId} {H0 : Heap} {sa : Nat × Nat × (Nat → Int32)} {w : mW} {μ : mM} (hw : mWF w) (hT : mT w μ) {p1 : Int} (hp1 : (-2147483648) ≤ p1 ∧ p1 ≤ 2147483647) {p2 : Int} (hp2 : (-2147483648) ≤ p2 ∧ p2 ≤ 2147483647) {f_n : Int} (q_f_n : μ 6 14 = f_n) : sC (gG l D c H0 sa) mX11_prefix 3 0 0 [.ref 0, iv p1, iv p2] (mk w μ) (qI w [6014, 7999, 8999, 9999] μ (fun z μ1 => ((-2147483648) ≤ z ∧ z ≤ 2147483647) ∧ (preA (hasP μ 7 8 f_n p1 p2) f_n p1 p2 z) ∧ (adQ μ μ1 6 14 7 8 p1 p2 z) ∧ True)) := by
  refine sC.of rfl (by decide) (le_t rfl) ?_
  have ht_f_n : (0 ≤ f_n ∧ f_n ≤ 10) := by rw [← q_f_n]; exact hT 6 6 (A_6 hw) 14
  refine mr_lvE (lv' := [(0, .ref 0), (1, iv p1), (2, iv p2)]) rfl ?_
  refine mr_iload_n (pc := 0) (z := p2) dX11_prefix_0 rfl rfl ?_
  refine mr_if_lt (pc := 1) (tgt := 21) dX11_prefix_1 (by decide) hp2 (fun h109 => ?_) (fun h109 => ?_)
  · have h110 : (-2147483648) ≤ p2 ∧ p2 ≤ (-1) := (vc_X12_cut_1 h109 hp2)
    refine mr_iconst (pc := 21) (z := (-1)) dX11_prefix_21 ?_
    exact mr_iret dX11_prefix_22 rfl (le_t rfl) (le_t rfl) hT mF.refl ⟨(rW (c := (-2147483648)) (d := 2147483647) (rR (x := (-1))) rfl), (Or.inl ⟨badP.r (vc_X11_prefix_v_2 h109 h110), rfl⟩), (Or.inr ⟨vc_X12_raise_u_49, rfl⟩), trivial⟩
  have h111 : 0 ≤ p2 ∧ p2 ≤ 2147483647 := (vc_X12_cut_2 h109 hp2)
  refine mr_iload_n (pc := 4) (z := p2) dX11_prefix_4 rfl rfl ?_
  refine mr_bipush (pc := 5) (z := 32) dX11_prefix_5 (by decide) ?_
  refine mr_icmp_gt (pc := 7) (tgt := 21) dX11_prefix_7 (by decide) (r32 h111 rfl) (r32 (rR (x := 32)) rfl) (fun h112 => ?_) (fun h112 => ?_)
  · have h113 : 33 ≤ p2 ∧ p2 ≤ 2147483647 := (vc_X11_prefix_v_5 h112 h109 h111)
    refine mr_iconst (pc := 21) (z := (-1)) dX11_prefix_21 ?_
    exact mr_iret dX11_prefix_22 rfl (le_t rfl) (le_t rfl) hT mF.refl ⟨(rW (c := (-2147483648)) (d := 2147483647) (rR (x := (-1))) rfl), (Or.inl ⟨badP.r (vc_X11_prefix_v_6 h109 h112 h113), rfl⟩), (Or.inr ⟨vc_X12_raise_u_49, rfl⟩), trivial⟩
  have h114 : 0 ≤ p2 ∧ p2 ≤ 32 := (vc_X11_prefix_v_7 h112 h109 h111)
  refine mr_iload_n (pc := 10) (z := p1) dX11_prefix_10 rfl rfl ?_
  refine mr_iload_n (pc := 11) (z := p2) dX11_prefix_11 rfl rfl ?_
  refine mr_cSP (pc := 12) (c_X10_maskOf_v hw hT h114) (gOk _ _ _ _ _) dX11_prefix_12 (tX10_maskOf _ _ _ _ _) wS_X10_maskOf wM_X11_84 ⟨le_t rfl, le_t rfl⟩ ⟨le_t rfl, le_t rfl⟩ rfl (le_t rfl) fun z119 h118 => ?_
  refine mr_iconst (pc := 15) (z := (-1)) dX11_prefix_15 ?_
  refine mr_ixor (pc := 16) (x := z119) (y := (-1)) dX11_prefix_16 ?_
  refine mr_gen (P := fun z => (-2147483648) ≤ z ∧ z ≤ 2147483647) (r32i _) fun z120 q121 h122 => ?_
  refine mr_iand (pc := 17) (x := p1) (y := z120) dX11_prefix_17 ?_
  refine mr_gen (P := fun z => (-2147483648) ≤ z ∧ z ≤ 2147483647) (r32i _) fun z123 q124 h125 => ?_
  refine mr_if_eq (pc := 18) (tgt := 23) dX11_prefix_18 (by decide) h125 (fun h126 => ?_) (fun h126 => ?_)
  · have h127 : 0 ≤ z123 ∧ z123 ≤ 0 := (vc_X12_mask_1 h126 h125)
    refine sv_aload_n (pc := 23) dX11_prefix_23 rfl rfl ?_
    refine gf_X11_3 (pc := 24) dX11_prefix_24 wF_X11_26 (A_0 hw) hT ?_
    refine mr_iload_n (pc := 27) (z := p1) dX11_prefix_27 rfl rfl ?_
    refine mr_iload_n (pc := 28) (z := p2) dX11_prefix_28 rfl rfl ?_
    refine mr_cVP (pc := 29) (c_X10_findPrefix_v hw hT hp1 (rW (c := (-2147483648)) (d := 2147483647) h114 rfl) q_f_n) (gOk _ _ _ _ _) dX11_prefix_29 (tX10_findPrefix _ _ _ _ _) ⟨wV_X10_findPrefix, wL_X10_findPrefix⟩ wM_X11_88 (gCX10 _ _ _ _ _) rfl (A_6 hw) rfl ⟨le_t rfl, le_t rfl⟩ ⟨le_t rfl, le_t rfl⟩ rfl (le_t rfl) fun z132 h131 => ?_
    refine mr_if_lt (pc := 32) (tgt := 38) dX11_prefix_32 (by decide) (r32 h131.1 rfl) (fun h133 => ?_) (fun h133 => ?_)
    · have h134 : (-1) ≤ z132 ∧ z132 ≤ (-1) := (vc_X12_isThere_3 h133 h131.1)
      refine sv_aload_n (pc := 38) dX11_prefix_38 rfl rfl ?_
      refine gf_X11_3 (pc := 39) dX11_prefix_39 wF_X11_26 (A_0 hw) hT ?_
      refine gk_X10_14 (pc := 42) dX11_prefix_42 wF_X11_92 (A_6 hw) q_f_n ?_
      refine mr_bipush (pc := 45) (z := 10) dX11_prefix_45 (by decide) ?_
      refine mr_icmp_lt (pc := 47) (tgt := 53) dX11_prefix_47 (by decide) (r32 ht_f_n rfl) (r32 (rR (x := 10)) rfl) (fun h135 => ?_) (fun h135 => ?_)
      · have h136 : 0 ≤ f_n ∧ f_n ≤ 9 := (vc_X12_ring_57 h135 ht_f_n)
        refine sv_aload_n (pc := 53) dX11_prefix_53 rfl rfl ?_
        refine gf_X11_3 (pc := 54) dX11_prefix_54 wF_X11_26 (A_0 hw) hT ?_
        refine mr_iload_n (pc := 57) (z := p1) dX11_prefix_57 rfl rfl ?_
        refine mr_iload_n (pc := 58) (z := p2) dX11_prefix_58 rfl rfl ?_
        refine mr_cVI (pc := 59) (c_X10_addPrefix_v hw hT hp1 h114 q_f_n (vc_X11_prefix_v_11 h135 h136)) (gOk _ _ _ _ _) dX11_prefix_59 (tX10_addPrefix _ _ _ _ _) ⟨wV_X10_addPrefix, wL_X10_addPrefix⟩ wM_X11_95 (gCX10 _ _ _ _ _) rfl (A_6 hw) rfl ⟨le_t rfl, le_t rfl⟩ ⟨le_t rfl, le_t rfl⟩ rfl (le_t rfl) fun z141 μ137 T138 F139 h140 => ?_
        obtain ⟨z142, q143, h144⟩ := h140
        have h145 : (0 ≤ z142 ∧ z142 ≤ 10) := by rw [← q143]; exact T138 6 6 (A_6 hw) 14
        have h146 : 0 ≤ z141 ∧ z141 ≤ 9 := (vc_X11_prefix_v_12 h144.2.1 h135 h136 h144.1)
        have q147 : μ137 6 14 = (f_n + 1) := q143.trans h144.2.2.1
        exact mr_iret dX11_prefix_62 rfl (le_t rfl) (le_t rfl) T138 (mF.call mF.refl F139 rfl) ⟨(rW (c := (-2147483648)) (d := 2147483647) h146 rfl), (Or.inr ⟨(badP.n (vc_X11_prefix_v_13 h109 h112 h114) (andMk h118.2.1 q121 q124) (vc_X12_goes_7 h126 h127)), Or.inr ⟨(h131.2.2.1 (vc_X11_prefix_v_15 h133 h134)), Or.inr ⟨(vc_X11_prefix_v_16 h135 h144.2.1 h144.2.2.1 h136 h146 h145), (vc_X11_prefix_v_17 h135 h144.2.1 h144.2.2.1 h136 h146 h145)⟩⟩⟩), (adQ.add q_f_n (vc_X11_prefix_v_18 h144.2.1 h135 h144.2.2.1 h136 h146 h145) q147 (vc_X11_prefix_v_19 h135 h144.2.1 h144.2.2.1 h136 h146 h145) h144.2.2.2.1), trivial⟩
      have h148 : 10 ≤ f_n ∧ f_n ≤ 10 := (vc_X12_ring_6 h135 ht_f_n)
      refine mr_bipush (pc := 50) (z := (-3)) dX11_prefix_50 (by decide) ?_
      exact mr_iret dX11_prefix_52 rfl (le_t rfl) (le_t rfl) hT mF.refl ⟨(rW (c := (-2147483648)) (d := 2147483647) (rR (x := (-3))) rfl), (Or.inr ⟨(badP.n (vc_X11_prefix_v_13 h109 h112 h114) (andMk h118.2.1 q121 q124) (vc_X12_goes_7 h126 h127)), Or.inr ⟨(h131.2.2.1 (vc_X11_prefix_v_15 h133 h134)), Or.inl ⟨(vc_X11_prefix_v_21 h135 h148), rfl⟩⟩⟩), (Or.inr ⟨vc_X11_prefix_v_22, rfl⟩), trivial⟩
    have h149 : 0 ≤ z132 ∧ z132 ≤ 9 := (vc_X12_isThere_6 h133 h131.1)
    refine mr_bipush (pc := 35) (z := (-2)) dX11_prefix_35 (by decide) ?_
    exact mr_iret dX11_prefix_37 rfl (le_t rfl) (le_t rfl) hT mF.refl ⟨(rW (c := (-2147483648)) (d := 2147483647) (rR (x := (-2))) rfl), (Or.inr ⟨(badP.n (vc_X11_prefix_v_13 h109 h112 h114) (andMk h118.2.1 q121 q124) (vc_X12_goes_7 h126 h127)), Or.inl ⟨h131.2.1 (vc_X11_prefix_v_24 h133 h149), rfl⟩⟩), (Or.inr ⟨vc_X11_prefix_v_25, rfl⟩), trivial⟩
  refine mr_iconst (pc := 21) (z := (-1)) dX11_prefix_21 ?_
  exact mr_iret dX11_prefix_22 rfl (le_t rfl) (le_t rfl) hT mF.refl ⟨(rW (c := (-2147483648)) (d := 2147483647) (rR (x := (-1))) rfl), (Or.inl ⟨badP.a (andMk h118.2.1 q121 q124) (vc_X11_prefix_v_26 h126 h125), rfl⟩), (Or.inr ⟨vc_X12_raise_u_49, rfl⟩), trivial⟩
theorem vc_X12_prefix_v_1 {p2 z125 : Int} (h0 : z125 = 0) (h1 : (z125 = 1 → (0 : Int) ≤ p2 ∧ p2 ≤ (32 : Int))) (h2 : (z125 = 0 → p2 < (0 : Int) ∨ (32 : Int) < p2)) (h3 : (-2147483648) ≤ p2 ∧ p2 ≤ 2147483647) (h4 : 0 ≤ z125 ∧ z125 ≤ 1) : 0 ≤ z125 ∧ z125 ≤ 0 := by omega
theorem vc_X12_prefix_v_2 {p2 z125 : Int} (h0 : (z125 = 1 → (0 : Int) ≤ p2 ∧ p2 ≤ (32 : Int))) (h1 : (z125 = 0 → p2 < (0 : Int) ∨ (32 : Int) < p2)) (h2 : z125 = 0) (h3 : (-2147483648) ≤ p2 ∧ p2 ≤ 2147483647) (h4 : 0 ≤ z125 ∧ z125 ≤ 0) : z125 = 0 := by omega
theorem vc_X12_prefix_v_3 {p2 z125 : Int} (h0 : (z125 = 1 → (0 : Int) ≤ p2 ∧ p2 ≤ (32 : Int))) (h1 : (z125 = 0 → p2 < (0 : Int) ∨ (32 : Int) < p2)) (h2 : p2 < (0 : Int) ∨ (32 : Int) < p2) (h3 : z125 = 0) (h4 : (-2147483648) ≤ p2 ∧ p2 ≤ 2147483647) (h5 : 0 ≤ z125 ∧ z125 ≤ 0) : p2 < 0 ∨ 32 < p2 := by omega
theorem vc_X12_prefix_v_5 {p2 z125 : Int} (h0 : ¬ z125 = 0) (h1 : (z125 = 1 → (0 : Int) ≤ p2 ∧ p2 ≤ (32 : Int))) (h2 : (z125 = 0 → p2 < (0 : Int) ∨ (32 : Int) < p2)) (h3 : (-2147483648) ≤ p2 ∧ p2 ≤ 2147483647) (h4 : 0 ≤ z125 ∧ z125 ≤ 1) : 1 ≤ z125 ∧ z125 ≤ 1 := by omega
theorem vc_X12_prefix_v_6 {p2 z125 : Int} (h0 : (z125 = 1 → (0 : Int) ≤ p2 ∧ p2 ≤ (32 : Int))) (h1 : (z125 = 0 → p2 < (0 : Int) ∨ (32 : Int) < p2)) (h2 : ¬ z125 = 0) (h3 : (-2147483648) ≤ p2 ∧ p2 ≤ 2147483647) (h4 : 1 ≤ z125 ∧ z125 ≤ 1) : z125 = 1 := by omega
theorem vc_X12_prefix_v_7 {p2 z125 : Int} (h0 : (0 : Int) ≤ p2 ∧ p2 ≤ (32 : Int)) (h1 : (z125 = 1 → (0 : Int) ≤ p2 ∧ p2 ≤ (32 : Int))) (h2 : (z125 = 0 → p2 < (0 : Int) ∨ (32 : Int) < p2)) (h3 : (-2147483648) ≤ p2 ∧ p2 ≤ 2147483647) (h4 : 1 ≤ z125 ∧ z125 ≤ 1) : 0 ≤ p2 ∧ p2 ≤ 32 := by omega
theorem vc_X12_prefix_v_9 {z149 : Int} (h0 : z149 = (-99999999)) (h1 : z149 = -99999999 ∨ (0 ≤ z149 ∧ z149 ≤ 9)) (h2 : (-99999999) ≤ z149 ∧ z149 ≤ 9) : (-99999999) ≤ z149 ∧ z149 ≤ (-99999999) := by omega
theorem vc_X12_prefix_v_11 {f_n : Int} (h0 : ¬ f_n = 10) (h1 : 0 ≤ f_n ∧ f_n ≤ 9) : f_n ≤ (f_n + 1) := by omega
theorem vc_X12_prefix_v_12 {f_n : Int} (h0 : ¬ f_n = 10) (h1 : 0 ≤ f_n ∧ f_n ≤ 9) : (f_n + 1) = f_n + 1 := by omega
theorem vc_X12_prefix_v_13 {p2 z125 : Int} (h0 : (z125 = 1 → (0 : Int) ≤ p2 ∧ p2 ≤ (32 : Int))) (h1 : (z125 = 0 → p2 < (0 : Int) ∨ (32 : Int) < p2)) (h2 : (0 : Int) ≤ p2 ∧ p2 ≤ (32 : Int)) (h3 : ¬ z125 = 0) (h4 : 0 ≤ p2 ∧ p2 ≤ 32) (h5 : 1 ≤ z125 ∧ z125 ≤ 1) : 0 ≤ p2 ∧ p2 ≤ 32 := by omega
theorem vc_X12_prefix_v_15 {z149 : Int} (h0 : z149 = -99999999 ∨ (0 ≤ z149 ∧ z149 ≤ 9)) (h1 : z149 = (-99999999)) (h2 : (-99999999) ≤ z149 ∧ z149 ≤ (-99999999)) : z149 < 0 := by omega
theorem vc_X12_prefix_v_16 {f_n : Int} (h0 : ¬ f_n = 10) (h1 : 0 ≤ f_n ∧ f_n ≤ 9) : f_n < 10 := by omega
theorem vc_X12_prefix_v_17 {f_n : Int} (h0 : ¬ f_n = 10) (h1 : 0 ≤ f_n ∧ f_n ≤ 9) : ((f_n + 1) - 1) = f_n := by omega
theorem vc_X12_prefix_v_18 {f_n : Int} (h0 : ¬ f_n = 10) (h1 : 0 ≤ f_n ∧ f_n ≤ 9) : 0 ≤ ((f_n + 1) - 1) := by omega
theorem vc_X12_prefix_v_20 {f_n : Int} (h0 : f_n = 10) (h1 : 10 ≤ f_n ∧ f_n ≤ 10) : 10 ≤ f_n := by omega
theorem vc_X12_prefix_v_22 {z149 : Int} (h0 : ¬ z149 = (-99999999)) (h1 : z149 = -99999999 ∨ (0 ≤ z149 ∧ z149 ≤ 9)) (h2 : (-99999999) ≤ z149 ∧ z149 ≤ 9) : 0 ≤ z149 ∧ z149 ≤ 9 := by omega
theorem vc_X12_prefix_v_23 {z149 : Int} (h0 : z149 = -99999999 ∨ (0 ≤ z149 ∧ z149 ≤ 9)) (h1 : ¬ z149 = (-99999999)) (h2 : 0 ≤ z149 ∧ z149 ≤ 9) : 0 ≤ z149 := by omega
set_option maxRecDepth 4000 in
set_option maxHeartbeats 4000000 in
theorem c_X12_prefix_v {l : Launch} {D : va_G} {c : Nat → ClassId} {H0 : Heap} {sa : Nat × Nat × (Nat → Int32)} {w : mW} {μ : mM} (hw : mWF w) (hT : mT w μ) {p1 : Int} (hp1 : (-2147483648) ≤ p1 ∧ p1 ≤ 2147483647) {p2 : Int} (hp2 : (-2147483648) ≤ p2 ∧ p2 ≤ 2147483647) {f_n : Int} (q_f_n : μ 106 2 = f_n) (hIJC : JC l D c H0 sa μ) (hIRP : RP μ) (hIEP : EP μ) (hIHP : HP μ) (hIUP : UP l D c H0 sa μ) (hIRR : RR μ) (hIG1 : G1 μ) (hIEV : EV μ) (hIPK : PK μ) : sC (gG l D c H0 sa) mX12_prefix 2 0 0 [.ref 106, iv p1, iv p2] (mk w μ) (qI w [106002, 108999, 109999] μ (fun z μ1 => ((-2147483648) ≤ z ∧ z ≤ 2147483647) ∧ JC l D c H0 sa μ1 ∧ RP μ1 ∧ EP μ1 ∧ HP μ1 ∧ UP l D c H0 sa μ1 ∧ RR μ1 ∧ G1 μ1 ∧ EV μ1 ∧ PK μ1 ∧ (preA (hasP μ 108 109 f_n p1 p2) f_n p1 p2 z) ∧ (adQ μ μ1 106 2 108 109 p1 p2 z) ∧ True)) := by
  refine sC.of rfl (by decide) (le_t rfl) ?_
  have ht_f_n : (0 ≤ f_n ∧ f_n ≤ 10) := by rw [← q_f_n]; exact hT 106 106 (A_106 hw) 2
  refine mr_lvE (lv' := [(0, .ref 106), (1, iv p1), (2, iv p2)]) rfl ?_
  refine mr_iload_n (pc := 0) (z := p2) dX12_prefix_0 rfl rfl ?_
  refine mr_iconst (pc := 1) (z := 0) dX12_prefix_1 ?_
  refine mr_bipush (pc := 2) (z := 32) dX12_prefix_2 (by decide) ?_
  refine mr_cSP (pc := 4) (c_X12_in hw hT hp2 (rW (c := (-2147483648)) (d := 2147483647) (rR (x := 0)) rfl) (rW (c := (-2147483648)) (d := 2147483647) (rR (x := 32)) rfl)) (gOk _ _ _ _ _) dX12_prefix_4 (tX12_in _ _ _ _ _) wS_X12_in wM_X12_18 ⟨le_t rfl, le_t rfl⟩ ⟨le_t rfl, le_t rfl⟩ rfl (le_t rfl) fun z125 h124 => ?_
  refine mr_if_eq (pc := 7) (tgt := 21) dX12_prefix_7 (by decide) (r32 h124.1 rfl) (fun h126 => ?_) (fun h126 => ?_)
  · have h127 : 0 ≤ z125 ∧ z125 ≤ 0 := (vc_X12_prefix_v_1 h126 h124.2.1 h124.2.2.1 hp2 h124.1)
    have h128 : p2 < (0 : Int) ∨ (32 : Int) < p2 := (h124.2.2.1 (vc_X12_prefix_v_2 h124.2.1 h124.2.2.1 h126 hp2 h127))
    refine mr_iconst (pc := 21) (z := (-1)) dX12_prefix_21 ?_
    exact mr_iret dX12_prefix_22 rfl (le_t rfl) (le_t rfl) hT mF.refl ⟨(rW (c := (-2147483648)) (d := 2147483647) (rR (x := (-1))) rfl), hIJC, hIRP, hIEP, hIHP, hIUP, hIRR, hIG1, hIEV, hIPK, (Or.inl ⟨badP.r (vc_X12_prefix_v_3 h124.2.1 h124.2.2.1 h128 h126 hp2 h127), rfl⟩), (Or.inr ⟨vc_X12_raise_u_49, rfl⟩), trivial⟩
  have h129 : 1 ≤ z125 ∧ z125 ≤ 1 := (vc_X12_prefix_v_5 h126 h124.2.1 h124.2.2.1 hp2 h124.1)
  have h130 : (0 : Int) ≤ p2 ∧ p2 ≤ (32 : Int) := (h124.2.1 (vc_X12_prefix_v_6 h124.2.1 h124.2.2.1 h126 hp2 h129))
  have h131 : 0 ≤ p2 ∧ p2 ≤ 32 := (vc_X12_prefix_v_7 h130 h124.2.1 h124.2.2.1 hp2 h129)
  refine mr_iload_n (pc := 10) (z := p1) dX12_prefix_10 rfl rfl ?_
  refine mr_iload_n (pc := 11) (z := p2) dX12_prefix_11 rfl rfl ?_
  refine mr_cSP (pc := 12) (c_X12_mask_v hw hT h131) (gOk _ _ _ _ _) dX12_prefix_12 (tX12_mask _ _ _ _ _) wS_X12_mask wM_X12_11 ⟨le_t rfl, le_t rfl⟩ ⟨le_t rfl, le_t rfl⟩ rfl (le_t rfl) fun z136 h135 => ?_
  refine mr_iconst (pc := 15) (z := (-1)) dX12_prefix_15 ?_
  refine mr_ixor (pc := 16) (x := z136) (y := (-1)) dX12_prefix_16 ?_
  refine mr_gen (P := fun z => (-2147483648) ≤ z ∧ z ≤ 2147483647) (r32i _) fun z137 q138 h139 => ?_
  refine mr_iand (pc := 17) (x := p1) (y := z137) dX12_prefix_17 ?_
  refine mr_gen (P := fun z => (-2147483648) ≤ z ∧ z ≤ 2147483647) (r32i _) fun z140 q141 h142 => ?_
  refine mr_if_eq (pc := 18) (tgt := 23) dX12_prefix_18 (by decide) h142 (fun h143 => ?_) (fun h143 => ?_)
  · have h144 : 0 ≤ z140 ∧ z140 ≤ 0 := (vc_X12_mask_1 h143 h142)
    refine sv_aload_n (pc := 23) dX12_prefix_23 rfl rfl ?_
    refine mr_iload_n (pc := 24) (z := p1) dX12_prefix_24 rfl rfl ?_
    refine mr_iload_n (pc := 25) (z := p2) dX12_prefix_25 rfl rfl ?_
    refine mr_cVP (pc := 26) (c_X12_prefixOf_v hw hT hp1 (rW (c := (-2147483648)) (d := 2147483647) h131 rfl) q_f_n) (gOk _ _ _ _ _) dX12_prefix_26 (tX12_prefixOf _ _ _ _ _) ⟨wV_X12_prefixOf, wL_X12_prefixOf⟩ wM_X12_30 (gCX12 _ _ _ _ _) rfl (A_106 hw) rfl ⟨le_t rfl, le_t rfl⟩ ⟨le_t rfl, le_t rfl⟩ rfl (le_t rfl) fun z149 h148 => ?_
    refine mr_ldc (pc := 29) (z := (-99999999)) dX12_prefix_29 wG_X12_29 (by decide) ?_
    refine mr_icmp_eq (pc := 31) (tgt := 37) dX12_prefix_31 (by decide) (r32 h148.1 rfl) (r32 (rR (x := (-99999999))) rfl) (fun h150 => ?_) (fun h150 => ?_)
    · have h151 : (-99999999) ≤ z149 ∧ z149 ≤ (-99999999) := (vc_X12_prefix_v_9 h150 h148.2.1 h148.1)
      refine sv_aload_n (pc := 37) dX12_prefix_37 rfl rfl ?_
      refine gk_X12_2 (pc := 38) dX12_prefix_38 wF_X12_15 (A_106 hw) q_f_n ?_
      refine mr_bipush (pc := 41) (z := 10) dX12_prefix_41 (by decide) ?_
      refine mr_icmp_ne (pc := 43) (tgt := 49) dX12_prefix_43 (by decide) (r32 ht_f_n rfl) (r32 (rR (x := 10)) rfl) (fun h152 => ?_) (fun h152 => ?_)
      · have h153 : 0 ≤ f_n ∧ f_n ≤ 9 := (vc_X12_domain_v_1 h152 ht_f_n)
        refine sv_aload_n (pc := 49) dX12_prefix_49 rfl rfl ?_
        refine gf_X12_3 (pc := 50) dX12_prefix_50 wF_X12_22 (A_106 hw) hT ?_
        refine sv_aload_n (pc := 53) dX12_prefix_53 rfl rfl ?_
        refine gk_X12_2 (pc := 54) dX12_prefix_54 wF_X12_15 (A_106 hw) q_f_n ?_
        refine mr_iload_n (pc := 57) (z := p1) dX12_prefix_57 rfl rfl ?_
        refine ss_108 (pc := 58) dX12_prefix_58 (A_108 hw) hT (rIx (n := 10) h153 rfl) hp1 fun μ154 u155 T156 => ?_
        refine sv_aload_n (pc := 59) dX12_prefix_59 rfl rfl ?_
        refine gf_X12_4 (pc := 60) dX12_prefix_60 wF_X12_26 (A_106 hw) T156 ?_
        refine sv_aload_n (pc := 63) dX12_prefix_63 rfl rfl ?_
        refine gk_X12_2 (pc := 64) dX12_prefix_64 wF_X12_15 (A_106 hw) (u155.f (Or.inl (mAt.ne (A_108 hw) (A_106 hw) rfl)) q_f_n) ?_
        refine mr_iload_n (pc := 67) (z := p2) dX12_prefix_67 rfl rfl ?_
        refine ss_109 (pc := 68) dX12_prefix_68 (A_109 hw) T156 (rIx (n := 10) h153 rfl) h131 fun μ157 u158 T159 => ?_
        refine sv_aload_n (pc := 69) dX12_prefix_69 rfl rfl ?_
        refine sv_dup (pc := 70) dX12_prefix_70 rfl ?_
        refine gk_X12_2 (pc := 71) dX12_prefix_71 wF_X12_15 (A_106 hw) (u158.f (Or.inl (mAt.ne (A_109 hw) (A_106 hw) rfl)) (u155.f (Or.inl (mAt.ne (A_108 hw) (A_106 hw) rfl)) q_f_n)) ?_
        refine mr_iconst (pc := 74) (z := 1) dX12_prefix_74 ?_
        refine mr_iadd (pc := 75) (x := f_n) (y := 1) dX12_prefix_75 ?_
        refine pf_X12_2 (pc := 76) dX12_prefix_76 wF_X12_15 (A_106 hw) T159 (rW (c := 0) (d := 10) (rAdd (e := 1) (f := 10) h153 (rR (x := 1)) rfl) rfl) fun μ160 u161 T162 => ?_
        have I163 : RP μ160 := RP.grow (RP.keep hIRP hw ((mF.up (mF.up mF.refl (A_108 hw) u155 rfl) (A_109 hw) u158 rfl) : mF [108999, 109999] w μ μ157) rfl ((mG.upO (mG.upO mG.refl u155 rfl) u158 rfl) : mG [] μ μ157) (fun _ h => absurd h List.not_mem_nil)) (u158.f (Or.inl (mAt.ne (A_109 hw) (A_106 hw) rfl)) (u155.f (Or.inl (mAt.ne (A_108 hw) (A_106 hw) rfl)) q_f_n)) u161 (vc_X12_prefix_v_11 h152 h153)
        have I164 : EP μ160 := EP.grow (EP.keep hIEP hw ((mF.up (mF.up mF.refl (A_108 hw) u155 rfl) (A_109 hw) u158 rfl) : mF [108999, 109999] w μ μ157) rfl) (u158.f (Or.inl (mAt.ne (A_109 hw) (A_106 hw) rfl)) (u155.f (Or.inl (mAt.ne (A_108 hw) (A_106 hw) rfl)) q_f_n)) u161 (vc_X12_prefix_v_11 h152 h153)
        have I165 : HP μ160 := HP.grow2 (HP.keep hIHP hw ((mF.up (mF.up mF.refl (A_108 hw) u155 rfl) (A_109 hw) u158 rfl) : mF [108999, 109999] w μ μ157) rfl ((mG.upO (mG.upO mG.refl u155 rfl) u158 rfl) : mG [] μ μ157) (fun _ h => absurd h List.not_mem_nil)) (u158.f (Or.inl (mAt.ne (A_109 hw) (A_106 hw) rfl)) (u155.f (Or.inl (mAt.ne (A_108 hw) (A_106 hw) rfl)) q_f_n)) u161 (vc_X12_prefix_v_11 h152 h153)
        have I166 : RR μ160 := RR.grow (RR.keep hIRR hw ((mF.up (mF.up mF.refl (A_108 hw) u155 rfl) (A_109 hw) u158 rfl) : mF [108999, 109999] w μ μ157) rfl rfl rfl) (u158.f (Or.inl (mAt.ne (A_109 hw) (A_106 hw) rfl)) (u155.f (Or.inl (mAt.ne (A_108 hw) (A_106 hw) rfl)) q_f_n)) u161 (vc_X12_prefix_v_11 h152 h153)
        have I167 : JC l D c H0 sa μ160 := PX.jc hIJC hIRR hw hT q_f_n u155 u158 u161 (vc_X12_prefix_v_11 h152 h153)
        have I168 : UP l D c H0 sa μ160 := PX.up hIUP hIHP hIRP hIRR hw hT T162 (PK.keep hIPK hw ((mF.up (mF.up (mF.up mF.refl (A_108 hw) u155 rfl) (A_109 hw) u158 rfl) (A_106 hw) u161 rfl) : mF [106002, 108999, 109999] w μ μ160) rfl) q_f_n u155 u158 u161 (vc_X12_prefix_v_12 h152 h153)
        refine sv_aload_n (pc := 79) dX12_prefix_79 rfl rfl ?_
        refine gk_X12_2 (pc := 80) dX12_prefix_80 wF_X12_15 (A_106 hw) u161.1 ?_
        refine mr_iconst (pc := 83) (z := 1) dX12_prefix_83 ?_
        refine mr_isub (pc := 84) (x := (f_n + 1)) (y := 1) dX12_prefix_84 ?_
        exact mr_iret dX12_prefix_85 rfl (le_t rfl) (le_t rfl) T162 (mF.up (mF.up (mF.up mF.refl (A_108 hw) u155 rfl) (A_109 hw) u158 rfl) (A_106 hw) u161 rfl) ⟨(rW (c := (-2147483648)) (d := 2147483647) (rSub (e := 0) (f := 9) (rAdd (e := 1) (f := 10) h153 (rR (x := 1)) rfl) (rR (x := 1)) rfl) rfl), I167, I163, I164, I165, I168, I166, (G1.keep hIG1 hw ((mF.up (mF.up (mF.up mF.refl (A_108 hw) u155 rfl) (A_109 hw) u158 rfl) (A_106 hw) u161 rfl) : mF [106002, 108999, 109999] w μ μ160) rfl rfl ((mG.upO (mG.upO (mG.upO mG.refl u155 rfl) u158 rfl) u161 rfl) : mG [] μ μ160) (fun _ h => absurd h List.not_mem_nil)), (EV.keep hIEV hw ((mF.up (mF.up (mF.up mF.refl (A_108 hw) u155 rfl) (A_109 hw) u158 rfl) (A_106 hw) u161 rfl) : mF [106002, 108999, 109999] w μ μ160) rfl), (PK.keep hIPK hw ((mF.up (mF.up (mF.up mF.refl (A_108 hw) u155 rfl) (A_109 hw) u158 rfl) (A_106 hw) u161 rfl) : mF [106002, 108999, 109999] w μ μ160) rfl), (Or.inr ⟨(badP.n (vc_X12_prefix_v_13 h124.2.1 h124.2.2.1 h130 h126 h131 h129) (andMk h135.2.1 q138 q141) (vc_X12_goes_7 h143 h144)), Or.inr ⟨(h148.2.2.2.1 (vc_X12_prefix_v_15 h148.2.1 h150 h151)), Or.inr ⟨(vc_X12_prefix_v_16 h152 h153), (vc_X12_prefix_v_17 h152 h153)⟩⟩⟩), (adQ.add q_f_n (vc_X12_prefix_v_18 h152 h153) u161.1 (vc_X12_prefix_v_12 h152 h153) (adT.oth (adT.two u155 u158 (by decide)) u161 (by decide) (by decide))), trivial⟩
      have h169 : 10 ≤ f_n ∧ f_n ≤ 10 := (vc_X12_domain_v_4 h152 ht_f_n)
      refine mr_bipush (pc := 46) (z := (-3)) dX12_prefix_46 (by decide) ?_
      exact mr_iret dX12_prefix_48 rfl (le_t rfl) (le_t rfl) hT mF.refl ⟨(rW (c := (-2147483648)) (d := 2147483647) (rR (x := (-3))) rfl), hIJC, hIRP, hIEP, hIHP, hIUP, hIRR, hIG1, hIEV, hIPK, (Or.inr ⟨(badP.n (vc_X12_prefix_v_13 h124.2.1 h124.2.2.1 h130 h126 h131 h129) (andMk h135.2.1 q138 q141) (vc_X12_goes_7 h143 h144)), Or.inr ⟨(h148.2.2.2.1 (vc_X12_prefix_v_15 h148.2.1 h150 h151)), Or.inl ⟨(vc_X12_prefix_v_20 h152 h169), rfl⟩⟩⟩), (Or.inr ⟨vc_X11_prefix_v_22, rfl⟩), trivial⟩
    have h170 : 0 ≤ z149 ∧ z149 ≤ 9 := (vc_X12_prefix_v_22 h150 h148.2.1 h148.1)
    refine mr_bipush (pc := 34) (z := (-2)) dX12_prefix_34 (by decide) ?_
    exact mr_iret dX12_prefix_36 rfl (le_t rfl) (le_t rfl) hT mF.refl ⟨(rW (c := (-2147483648)) (d := 2147483647) (rR (x := (-2))) rfl), hIJC, hIRP, hIEP, hIHP, hIUP, hIRR, hIG1, hIEV, hIPK, (Or.inr ⟨(badP.n (vc_X12_prefix_v_13 h124.2.1 h124.2.2.1 h130 h126 h131 h129) (andMk h135.2.1 q138 q141) (vc_X12_goes_7 h143 h144)), Or.inl ⟨h148.2.2.1 (vc_X12_prefix_v_23 h148.2.1 h150 h170), rfl⟩⟩), (Or.inr ⟨vc_X11_prefix_v_25, rfl⟩), trivial⟩
  refine mr_iconst (pc := 21) (z := (-1)) dX12_prefix_21 ?_
  exact mr_iret dX12_prefix_22 rfl (le_t rfl) (le_t rfl) hT mF.refl ⟨(rW (c := (-2147483648)) (d := 2147483647) (rR (x := (-1))) rfl), hIJC, hIRP, hIEP, hIHP, hIUP, hIRR, hIG1, hIEV, hIPK, (Or.inl ⟨badP.a (andMk h135.2.1 q138 q141) (vc_X11_prefix_v_26 h143 h142), rfl⟩), (Or.inr ⟨vc_X12_raise_u_49, rfl⟩), trivial⟩
