set_option maxRecDepth 4000 in
set_option maxHeartbeats 4000000 in
theorem c_X10_maskOf_v {l : Launch} {D : va_G} {c : Nat → ClassId} {H0 : Heap} {sa : Nat × Nat × (Nat → Int32)} {w : mW} {μ : mM} (hw : mWF w) (hT : mT w μ) {p1 : Int} (hp1 : 0 ≤ p1 ∧ p1 ≤ 32) : sC (gG l D c H0 sa) mX10_maskOf 1 0 0 [iv p1] (mk w μ) (qP w μ (fun z => ((-2147483648) ≤ z ∧ z ≤ 2147483647) ∧ (z = mskF p1) ∧ True)) := by
  refine sC.of rfl (by decide) (le_t rfl) ?_
  refine mr_lvE (lv' := [(0, iv p1)]) rfl ?_
  refine mr_iload_n (pc := 0) (z := p1) dX10_maskOf_0 rfl rfl ?_
  refine mr_if_ne (pc := 1) (tgt := 8) dX10_maskOf_1 (by decide) (r32 hp1 rfl) (fun h1 => ?_) (fun h1 => ?_)
  · have h2 : 1 ≤ p1 ∧ p1 ≤ 32 := (vc_X12_mask_v_1 h1 hp1)
    refine mr_iconst (pc := 8) (z := (-1)) dX10_maskOf_8 ?_
    refine mr_bipush (pc := 9) (z := 32) dX10_maskOf_9 (by decide) ?_
    refine mr_iload_n (pc := 11) (z := p1) dX10_maskOf_11 rfl rfl ?_
    refine mr_isub (pc := 12) (x := 32) (y := p1) dX10_maskOf_12 ?_
    refine mr_ishl (pc := 13) (x := (-1)) (y := (32 - p1)) dX10_maskOf_13 ?_
    refine mr_gen (P := fun z => (-2147483648) ≤ z ∧ z ≤ 2147483647) (r32i _) fun z3 q4 h5 => ?_
    exact mr_iretP dX10_maskOf_14 rfl (le_t rfl) (le_t rfl) ⟨h5, (mskF.pos (vc_X12_mask_v_2 h1 h2) q4), trivial⟩
  have h6 : 0 ≤ p1 ∧ p1 ≤ 0 := (vc_X12_mask_v_3 h1 hp1)
  refine mr_iconst (pc := 4) (z := 0) dX10_maskOf_4 ?_
  refine sv_goto (pc := 5) (tgt := 14) dX10_maskOf_5 (by decide) ?_
  exact mr_iretP dX10_maskOf_14 rfl (le_t rfl) (le_t rfl) ⟨(rW (c := (-2147483648)) (d := 2147483647) (rR (x := 0)) rfl), (mskF.zero (vc_X12_goes_7 h1 h6)), trivial⟩
theorem vc_X10_findPrefix_v_2  : ¬ (0 : Int) ≤ (((-1) : Int) : Int) := by omega
theorem vc_X10_findPrefix_v_7 {f_n z161 : Int} (h0 : z161 < f_n) (h1 : 1 ≤ f_n ∧ f_n ≤ 10) (h2 : 0 ≤ z161 ∧ z161 ≤ 9) : 0 ≤ z161 := by omega
theorem vc_X10_findPrefix_v_8 {p1 z173 : Int} (h0 : ¬ z173 = p1) (h1 : (-2147483648) ≤ p1 ∧ p1 ≤ 2147483647) (h2 : (-2147483648) ≤ z173 ∧ z173 ≤ 2147483647) : ¬ z173 = p1 := by omega
theorem vc_X10_findPrefix_v_9 {p2 z177 : Int} (h0 : ¬ z177 = p2) (h1 : (-2147483648) ≤ p2 ∧ p2 ≤ 2147483647) (h2 : 0 ≤ z177 ∧ z177 ≤ 32) : ¬ z177 = p2 := by omega
theorem vc_X10_findPrefix_v_11 {f_n z161 : Int} (h0 : z161 < f_n) (h1 : 1 ≤ f_n ∧ f_n ≤ 10) (h2 : 0 ≤ z161 ∧ z161 ≤ 9) : 0 ≤ z161 ∧ z161 < f_n := by omega
theorem vc_X10_findPrefix_v_12 {p1 z173 : Int} (h0 : z173 = p1) (h1 : (-2147483648) ≤ p1 ∧ p1 ≤ 2147483647) (h2 : (-2147483648) ≤ z173 ∧ z173 ≤ 2147483647) : z173 = p1 := by omega
theorem vc_X10_findPrefix_v_13 {p2 z177 : Int} (h0 : z177 = p2) (h1 : 0 ≤ p2 ∧ p2 ≤ 32) (h2 : 0 ≤ z177 ∧ z177 ≤ 32) : z177 = p2 := by omega
theorem vc_X10_findPrefix_v_14 {f_n z161 : Int} (h0 : z161 < f_n) (h1 : 1 ≤ f_n ∧ f_n ≤ 10) (h2 : 0 ≤ z161 ∧ z161 ≤ 9) : ¬ z161 < 0 := by omega
theorem vc_X10_findPrefix_v_16  : ((0 : Int) : Int) ≤ (0 : Int) := by omega
set_option maxRecDepth 4000 in
set_option maxHeartbeats 4000000 in
theorem c_X10_findPrefix_v {l : Launch} {D : va_G} {c : Nat → ClassId} {H0 : Heap} {sa : Nat × Nat × (Nat → Int32)} {w : mW} {μ : mM} (hw : mWF w) (hT : mT w μ) {p1 : Int} (hp1 : (-2147483648) ≤ p1 ∧ p1 ≤ 2147483647) {p2 : Int} (hp2 : (-2147483648) ≤ p2 ∧ p2 ≤ 2147483647) {f_n : Int} (q_f_n : μ 6 14 = f_n) : sC (gG l D c H0 sa) mX10_findPrefix 1 0 0 [.ref 6, iv p1, iv p2] (mk w μ) (qP w μ (fun z => ((-1) ≤ z ∧ z ≤ 9) ∧ (0 ≤ z → hasP μ 7 8 f_n p1 p2) ∧ (z < 0 → ¬ hasP μ 7 8 f_n p1 p2) ∧ True)) := by
  refine sC.of rfl (by decide) (le_t rfl) ?_
  have ht_f_n : (0 ≤ f_n ∧ f_n ≤ 10) := by rw [← q_f_n]; exact hT 6 6 (A_6 hw) 14
  refine mr_lvE (lv' := [(0, .ref 6), (1, iv p1), (2, iv p2)]) rfl ?_
  refine mr_iconst (pc := 0) (z := 0) dX10_findPrefix_0 ?_
  refine mr_istore_n (pc := 1) (lv' := [(3, iv 0), (0, .ref 6), (1, iv p1), (2, iv p2)]) dX10_findPrefix_1 rfl (by decide) rfl ?_
  have L162 : ∀ (nL162 : Nat) (z161 : Int), True → (0 ≤ z161 ∧ z161 ≤ 10) → noneP μ 7 8 z161 p1 p2 → (11 - z161) < (nL162 : Int) → sV (gG l D c H0 sa) mX10_findPrefix (sRm 1 0 0) (sZ (gG l D c H0 sa) 0 0 (qP w μ (fun z => ((-1) ≤ z ∧ z ≤ 9) ∧ (0 ≤ z → hasP μ 7 8 f_n p1 p2) ∧ (z < 0 → ¬ hasP μ 7 8 f_n p1 p2) ∧ True))) 2 [(0, .ref 6), (1, iv p1), (2, iv p2), (3, iv z161)] [] (mk w μ) 0 0 := by
    intro nL162
    induction nL162 with
    | zero => intro z161 _ h163 R167 h168; exact ((vc_X12_ring_2 h168 h163)).elim
    | succ nL162 ih169 =>
      intro z161 _ h163 R167 h168
      refine mr_iload_n (pc := 2) (z := z161) dX10_findPrefix_2 rfl rfl ?_
      refine sv_aload_n (pc := 3) dX10_findPrefix_3 rfl rfl ?_
      refine gk_X10_14 (pc := 4) dX10_findPrefix_4 wF_X10_60 (A_6 hw) q_f_n ?_
      refine mr_icmp_ge (pc := 7) (tgt := 38) dX10_findPrefix_7 (by decide) (r32 h163 rfl) (r32 ht_f_n rfl) (fun h170 => ?_) (fun h170 => ?_)
      · refine mr_iconst (pc := 38) (z := (-1)) dX10_findPrefix_38 ?_
        exact mr_iretP dX10_findPrefix_39 rfl (le_t rfl) (le_t rfl) ⟨(rW (c := (-1)) (d := 9) (rR (x := (-1))) rfl), (fun h => absurd h vc_X10_findPrefix_v_2), (fun _ => noneP.no R167 (vc_X12_lookAll_u_5 h170 ht_f_n h163)), trivial⟩
      have h171 : 0 ≤ z161 ∧ z161 ≤ 9 := (vc_X12_lookAll_u_6 h170 ht_f_n h163)
      have h172 : 1 ≤ f_n ∧ f_n ≤ 10 := (vc_X12_say_u_2 h170 ht_f_n h171)
      refine sv_aload_n (pc := 10) dX10_findPrefix_10 rfl rfl ?_
      refine gf_X10_0 (pc := 11) dX10_findPrefix_11 wF_X10_9 (A_6 hw) hT ?_
      refine mr_iload_n (pc := 14) (z := z161) dX10_findPrefix_14 rfl rfl ?_
      refine la_7 (pc := 15) dX10_findPrefix_15 (A_7 hw) hT (rIx (n := 10) h171 rfl) fun z173 q174 h175 => ?_
      refine mr_iload_n (pc := 16) (z := p1) dX10_findPrefix_16 rfl rfl ?_
      refine mr_icmp_ne (pc := 17) (tgt := 32) dX10_findPrefix_17 (by decide) h175 hp1 (fun h176 => ?_) (fun h176 => ?_)
      · refine mr_iinc (pc := 32) (lv' := [(3, iv (z161 + 1)), (0, .ref 6), (1, iv p1), (2, iv p2)]) dX10_findPrefix_32 rfl (by decide) rfl ?_
        refine sv_goto (pc := 35) (tgt := 2) dX10_findPrefix_35 (by decide) ?_
        refine mr_lvS (lv' := [(0, .ref 6), (1, iv p1), (2, iv p2), (3, iv (z161 + 1))]) (List.forall_mem_cons.mpr ⟨rfl, List.forall_mem_cons.mpr ⟨rfl, List.forall_mem_cons.mpr ⟨rfl, List.forall_mem_cons.mpr ⟨rfl, fun _ h => absurd h List.not_mem_nil⟩⟩⟩⟩) ?_
        exact ih169 (z161 + 1) trivial (rW (c := 0) (d := 10) (rAdd (e := 1) (f := 10) h171 (rR (x := 1)) rfl) rfl) (noneP.succ (v := 0) R167 (vc_X10_findPrefix_v_7 h170 h172 h171) q174 (vc_X10_findPrefix_v_8 h176 hp1 h175)) (vc_X12_lookAll_u_9 (nS h168) h170 h172 h171)
      refine sv_aload_n (pc := 20) dX10_findPrefix_20 rfl rfl ?_
      refine gf_X10_1 (pc := 21) dX10_findPrefix_21 wF_X10_15 (A_6 hw) hT ?_
      refine mr_iload_n (pc := 24) (z := z161) dX10_findPrefix_24 rfl rfl ?_
      refine la_8 (pc := 25) dX10_findPrefix_25 (A_8 hw) hT (rIx (n := 10) h171 rfl) fun z177 q178 h179 => ?_
      refine mr_iload_n (pc := 26) (z := p2) dX10_findPrefix_26 rfl rfl ?_
      refine mr_icmp_ne (pc := 27) (tgt := 32) dX10_findPrefix_27 (by decide) (r32 h179 rfl) hp2 (fun h180 => ?_) (fun h180 => ?_)
      · refine mr_iinc (pc := 32) (lv' := [(3, iv (z161 + 1)), (0, .ref 6), (1, iv p1), (2, iv p2)]) dX10_findPrefix_32 rfl (by decide) rfl ?_
        refine sv_goto (pc := 35) (tgt := 2) dX10_findPrefix_35 (by decide) ?_
        refine mr_lvS (lv' := [(0, .ref 6), (1, iv p1), (2, iv p2), (3, iv (z161 + 1))]) (List.forall_mem_cons.mpr ⟨rfl, List.forall_mem_cons.mpr ⟨rfl, List.forall_mem_cons.mpr ⟨rfl, List.forall_mem_cons.mpr ⟨rfl, fun _ h => absurd h List.not_mem_nil⟩⟩⟩⟩) ?_
        exact ih169 (z161 + 1) trivial (rW (c := 0) (d := 10) (rAdd (e := 1) (f := 10) h171 (rR (x := 1)) rfl) rfl) (noneP.succ2 (u := 0) R167 (vc_X10_findPrefix_v_7 h170 h172 h171) q178 (vc_X10_findPrefix_v_9 h180 hp2 h179)) (vc_X12_lookAll_u_9 (nS h168) h170 h172 h171)
      have h181 : 0 ≤ p2 ∧ p2 ≤ 32 := (vc_X10_findPrefix_5 h180 hp2 h179)
      refine mr_iload_n (pc := 30) (z := z161) dX10_findPrefix_30 rfl rfl ?_
      exact mr_iretP dX10_findPrefix_31 rfl (le_t rfl) (le_t rfl) ⟨(rW (c := (-1)) (d := 9) h171 rfl), (fun _ => hasP.of (vc_X10_findPrefix_v_11 h170 h172 h171) q174 q178 (vc_X10_findPrefix_v_12 h176 hp1 h175) (vc_X10_findPrefix_v_13 h180 h181 h179)), (fun h => absurd h (vc_X10_findPrefix_v_14 h170 h172 h171)), trivial⟩
  refine mr_lvS (lv' := [(0, .ref 6), (1, iv p1), (2, iv p2), (3, iv 0)]) (List.forall_mem_cons.mpr ⟨rfl, List.forall_mem_cons.mpr ⟨rfl, List.forall_mem_cons.mpr ⟨rfl, List.forall_mem_cons.mpr ⟨rfl, fun _ h => absurd h List.not_mem_nil⟩⟩⟩⟩) ?_
  exact L162 12 0 trivial (rW (c := 0) (d := 10) (rR (x := 0)) rfl) (noneP.zero vc_X10_findPrefix_v_16) vc_X12_ring_27
theorem vc_X12_prefixOf_v_3  : ¬ (0 : Int) ≤ (((-99999999) : Int) : Int) := by omega
set_option maxRecDepth 4000 in
set_option maxHeartbeats 4000000 in
theorem c_X12_prefixOf_v {l : Launch} {D : va_G} {c : Nat → ClassId} {H0 : Heap} {sa : Nat × Nat × (Nat → Int32)} {w : mW} {μ : mM} (hw : mWF w) (hT : mT w μ) {p1 : Int} (hp1 : (-2147483648) ≤ p1 ∧ p1 ≤ 2147483647) {p2 : Int} (hp2 : (-2147483648) ≤ p2 ∧ p2 ≤ 2147483647) {f_n : Int} (q_f_n : μ 106 2 = f_n) : sC (gG l D c H0 sa) mX12_prefixOf 1 0 0 [.ref 106, iv p1, iv p2] (mk w μ) (qP w μ (fun z => ((-99999999) ≤ z ∧ z ≤ 9) ∧ (z = -99999999 ∨ (0 ≤ z ∧ z ≤ 9)) ∧ (0 ≤ z → hasP μ 108 109 f_n p1 p2) ∧ (z < 0 → ¬ hasP μ 108 109 f_n p1 p2) ∧ True)) := by
  refine sC.of rfl (by decide) (le_t rfl) ?_
  have ht_f_n : (0 ≤ f_n ∧ f_n ≤ 10) := by rw [← q_f_n]; exact hT 106 106 (A_106 hw) 2
  refine mr_lvE (lv' := [(0, .ref 106), (1, iv p1), (2, iv p2)]) rfl ?_
  refine mr_iconst (pc := 0) (z := 0) dX12_prefixOf_0 ?_
  refine mr_istore_n (pc := 1) (lv' := [(3, iv 0), (0, .ref 106), (1, iv p1), (2, iv p2)]) dX12_prefixOf_1 rfl (by decide) rfl ?_
  have L162 : ∀ (nL162 : Nat) (z161 : Int), True → (0 ≤ z161 ∧ z161 ≤ 10) → noneP μ 108 109 z161 p1 p2 → (11 - z161) < (nL162 : Int) → sV (gG l D c H0 sa) mX12_prefixOf (sRm 1 0 0) (sZ (gG l D c H0 sa) 0 0 (qP w μ (fun z => ((-99999999) ≤ z ∧ z ≤ 9) ∧ (z = -99999999 ∨ (0 ≤ z ∧ z ≤ 9)) ∧ (0 ≤ z → hasP μ 108 109 f_n p1 p2) ∧ (z < 0 → ¬ hasP μ 108 109 f_n p1 p2) ∧ True))) 2 [(0, .ref 106), (1, iv p1), (2, iv p2), (3, iv z161)] [] (mk w μ) 0 0 := by
    intro nL162
    induction nL162 with
    | zero => intro z161 _ h163 R167 h168; exact ((vc_X12_ring_2 h168 h163)).elim
    | succ nL162 ih169 =>
      intro z161 _ h163 R167 h168
      refine mr_iload_n (pc := 2) (z := z161) dX12_prefixOf_2 rfl rfl ?_
      refine sv_aload_n (pc := 3) dX12_prefixOf_3 rfl rfl ?_
      refine gk_X12_2 (pc := 4) dX12_prefixOf_4 wF_X12_15 (A_106 hw) q_f_n ?_
      refine mr_icmp_ge (pc := 7) (tgt := 38) dX12_prefixOf_7 (by decide) (r32 h163 rfl) (r32 ht_f_n rfl) (fun h170 => ?_) (fun h170 => ?_)
      · refine mr_ldc (pc := 38) (z := (-99999999)) dX12_prefixOf_38 wG_X12_29 (by decide) ?_
        exact mr_iretP dX12_prefixOf_40 rfl (le_t rfl) (le_t rfl) ⟨(rW (c := (-99999999)) (d := 9) (rR (x := (-99999999))) rfl), vc_X12_prefixOf_u_2, (fun h => absurd h vc_X12_prefixOf_v_3), (fun _ => noneP.no R167 (vc_X12_lookAll_u_5 h170 ht_f_n h163)), trivial⟩
      have h171 : 0 ≤ z161 ∧ z161 ≤ 9 := (vc_X12_lookAll_u_6 h170 ht_f_n h163)
      have h172 : 1 ≤ f_n ∧ f_n ≤ 10 := (vc_X12_say_u_2 h170 ht_f_n h171)
      refine sv_aload_n (pc := 10) dX12_prefixOf_10 rfl rfl ?_
      refine gf_X12_3 (pc := 11) dX12_prefixOf_11 wF_X12_22 (A_106 hw) hT ?_
      refine mr_iload_n (pc := 14) (z := z161) dX12_prefixOf_14 rfl rfl ?_
      refine la_108 (pc := 15) dX12_prefixOf_15 (A_108 hw) hT (rIx (n := 10) h171 rfl) fun z173 q174 h175 => ?_
      refine mr_iload_n (pc := 16) (z := p1) dX12_prefixOf_16 rfl rfl ?_
      refine mr_icmp_ne (pc := 17) (tgt := 32) dX12_prefixOf_17 (by decide) h175 hp1 (fun h176 => ?_) (fun h176 => ?_)
      · refine mr_iinc (pc := 32) (lv' := [(3, iv (z161 + 1)), (0, .ref 106), (1, iv p1), (2, iv p2)]) dX12_prefixOf_32 rfl (by decide) rfl ?_
        refine sv_goto (pc := 35) (tgt := 2) dX12_prefixOf_35 (by decide) ?_
        refine mr_lvS (lv' := [(0, .ref 106), (1, iv p1), (2, iv p2), (3, iv (z161 + 1))]) (List.forall_mem_cons.mpr ⟨rfl, List.forall_mem_cons.mpr ⟨rfl, List.forall_mem_cons.mpr ⟨rfl, List.forall_mem_cons.mpr ⟨rfl, fun _ h => absurd h List.not_mem_nil⟩⟩⟩⟩) ?_
        exact ih169 (z161 + 1) trivial (rW (c := 0) (d := 10) (rAdd (e := 1) (f := 10) h171 (rR (x := 1)) rfl) rfl) (noneP.succ (v := 0) R167 (vc_X10_findPrefix_v_7 h170 h172 h171) q174 (vc_X10_findPrefix_v_8 h176 hp1 h175)) (vc_X12_lookAll_u_9 (nS h168) h170 h172 h171)
      refine sv_aload_n (pc := 20) dX12_prefixOf_20 rfl rfl ?_
      refine gf_X12_4 (pc := 21) dX12_prefixOf_21 wF_X12_26 (A_106 hw) hT ?_
      refine mr_iload_n (pc := 24) (z := z161) dX12_prefixOf_24 rfl rfl ?_
      refine la_109 (pc := 25) dX12_prefixOf_25 (A_109 hw) hT (rIx (n := 10) h171 rfl) fun z177 q178 h179 => ?_
      refine mr_iload_n (pc := 26) (z := p2) dX12_prefixOf_26 rfl rfl ?_
      refine mr_icmp_ne (pc := 27) (tgt := 32) dX12_prefixOf_27 (by decide) (r32 h179 rfl) hp2 (fun h180 => ?_) (fun h180 => ?_)
      · refine mr_iinc (pc := 32) (lv' := [(3, iv (z161 + 1)), (0, .ref 106), (1, iv p1), (2, iv p2)]) dX12_prefixOf_32 rfl (by decide) rfl ?_
        refine sv_goto (pc := 35) (tgt := 2) dX12_prefixOf_35 (by decide) ?_
        refine mr_lvS (lv' := [(0, .ref 106), (1, iv p1), (2, iv p2), (3, iv (z161 + 1))]) (List.forall_mem_cons.mpr ⟨rfl, List.forall_mem_cons.mpr ⟨rfl, List.forall_mem_cons.mpr ⟨rfl, List.forall_mem_cons.mpr ⟨rfl, fun _ h => absurd h List.not_mem_nil⟩⟩⟩⟩) ?_
        exact ih169 (z161 + 1) trivial (rW (c := 0) (d := 10) (rAdd (e := 1) (f := 10) h171 (rR (x := 1)) rfl) rfl) (noneP.succ2 (u := 0) R167 (vc_X10_findPrefix_v_7 h170 h172 h171) q178 (vc_X10_findPrefix_v_9 h180 hp2 h179)) (vc_X12_lookAll_u_9 (nS h168) h170 h172 h171)
      have h181 : 0 ≤ p2 ∧ p2 ≤ 32 := (vc_X10_findPrefix_5 h180 hp2 h179)
      refine mr_iload_n (pc := 30) (z := z161) dX12_prefixOf_30 rfl rfl ?_
      exact mr_iretP dX12_prefixOf_31 rfl (le_t rfl) (le_t rfl) ⟨(rW (c := (-99999999)) (d := 9) h171 rfl), (vc_X12_prefixOf_u_8 h170 h172 h171), (fun _ => hasP.of (vc_X10_findPrefix_v_11 h170 h172 h171) q174 q178 (vc_X10_findPrefix_v_12 h176 hp1 h175) (vc_X10_findPrefix_v_13 h180 h181 h179)), (fun h => absurd h (vc_X10_findPrefix_v_14 h170 h172 h171)), trivial⟩
  refine mr_lvS (lv' := [(0, .ref 106), (1, iv p1), (2, iv p2), (3, iv 0)]) (List.forall_mem_cons.mpr ⟨rfl, List.forall_mem_cons.mpr ⟨rfl, List.forall_mem_cons.mpr ⟨rfl, List.forall_mem_cons.mpr ⟨rfl, fun _ h => absurd h List.not_mem_nil⟩⟩⟩⟩) ?_
  exact L162 12 0 trivial (rW (c := 0) (d := 10) (rR (x := 0)) rfl) (noneP.zero vc_X10_findPrefix_v_16) vc_X12_ring_27
theorem vc_X12_prefix_v_1 {p2 z125 : Int} (h0 : z125 = 0) (h1 : (z125 = 1 → (0 : Int) ≤ p2 ∧ p2 ≤ (32 : Int))) (h2 : (z125 = 0 → p2 < (0 : Int) ∨ (32 : Int) < p2)) (h3 : (-2147483648) ≤ p2 ∧ p2 ≤ 2147483647) (h4 : 0 ≤ z125 ∧ z125 ≤ 1) : 0 ≤ z125 ∧ z125 ≤ 0 := by omega
theorem vc_X12_prefix_v_2 {p2 z125 : Int} (h0 : (z125 = 1 → (0 : Int) ≤ p2 ∧ p2 ≤ (32 : Int))) (h1 : (z125 = 0 → p2 < (0 : Int) ∨ (32 : Int) < p2)) (h2 : z125 = 0) (h3 : (-2147483648) ≤ p2 ∧ p2 ≤ 2147483647) (h4 : 0 ≤ z125 ∧ z125 ≤ 0) : z125 = 0 := by omega
theorem vc_X12_prefix_v_3 {p2 z125 : Int} (h0 : (z125 = 1 → (0 : Int) ≤ p2 ∧ p2 ≤ (32 : Int))) (h1 : (z125 = 0 → p2 < (0 : Int) ∨ (32 : Int) < p2)) (h2 : p2 < (0 : Int) ∨ (32 : Int) < p2) (h3 : z125 = 0) (h4 : (-2147483648) ≤ p2 ∧ p2 ≤ 2147483647) (h5 : 0 ≤ z125 ∧ z125 ≤ 0) : p2 < 0 ∨ 32 < p2 := by omega
theorem vc_X12_prefix_v_5 {p2 z125 : Int} (h0 : ¬ z125 = 0) (h1 : (z125 = 1 → (0 : Int) ≤ p2 ∧ p2 ≤ (32 : Int))) (h2 : (z125 = 0 → p2 < (0 : Int) ∨ (32 : Int) < p2)) (h3 : (-2147483648) ≤ p2 ∧ p2 ≤ 2147483647) (h4 : 0 ≤ z125 ∧ z125 ≤ 1) : 1 ≤ z125 ∧ z125 ≤ 1 := by omega
theorem vc_X12_prefix_v_6 {p2 z125 : Int} (h0 : (z125 = 1 → (0 : Int) ≤ p2 ∧ p2 ≤ (32 : Int))) (h1 : (z125 = 0 → p2 < (0 : Int) ∨ (32 : Int) < p2)) (h2 : ¬ z125 = 0) (h3 : (-2147483648) ≤ p2 ∧ p2 ≤ 2147483647) (h4 : 1 ≤ z125 ∧ z125 ≤ 1) : z125 = 1 := by omega
theorem vc_X12_prefix_v_7 {p2 z125 : Int} (h0 : (0 : Int) ≤ p2 ∧ p2 ≤ (32 : Int)) (h1 : (z125 = 1 → (0 : Int) ≤ p2 ∧ p2 ≤ (32 : Int))) (h2 : (z125 = 0 → p2 < (0 : Int) ∨ (32 : Int) < p2)) (h3 : (-2147483648) ≤ p2 ∧ p2 ≤ 2147483647) (h4 : 1 ≤ z125 ∧ z125 ≤ 1) : 0 ≤ p2 ∧ p2 ≤ 32 := by omega
theorem vc_X12_prefix_v_9 {z149 : Int} (h0 : z149 = (-99999999)) (h1 : z149 = -99999999 ∨ (0 ≤ z149 ∧ z149 ≤ 9)) (h2 : (-99999999) ≤ z149 ∧ z149 ≤ 9) : (-99999999) ≤ z149 ∧ z149 ≤ (-99999999) := by omega
theorem vc_X12_prefix_v_11 {f_n : Int} (h0 : ¬ f_n = 10) (h1 : 0 ≤ f_n ∧ f_n ≤ 9) : f_n ≤ (f_n + 1) := by omega
theorem vc_X12_prefix_v_12 {f_n : Int} (h0 : ¬ f_n = 10) (h1 : 0 ≤ f_n ∧ f_n ≤ 9) : (f_n + 1) = f_n + 1 := by omega
theorem vc_X12_prefix_v_13 {p2 z125 : Int} (h0 : (z125 = 1 → (0 : Int) ≤ p2 ∧ p2 ≤ (32 : Int))) (h1 : (z125 = 0 → p2 < (0 : Int) ∨ (32 : Int) < p2)) (h2 : (0 : Int) ≤ p2 ∧ p2 ≤ (32 : Int)) (h3 : ¬ z125 = 0) (h4 : 0 ≤ p2 ∧ p2 ≤ 32) (h5 : 1 ≤ z125 ∧ z125 ≤ 1) : 0 ≤ p2 ∧ p2 ≤ 32 := by omega
theorem vc_X12_prefix_v_15 {z149 : Int} (h0 : z149 = -99999999 ∨ (0 ≤ z149 ∧ z149 ≤ 9)) (h1 : z149 = (-99999999)) (h2 : (-99999999) ≤ z149 ∧ z149 ≤ (-99999999)) : z149 < 0 := by omega
theorem vc_X12_prefix_v_16 {f_n : Int} (h0 : ¬ f_n = 10) (h1 : 0 ≤ f_n ∧ f_n ≤ 9) : f_n < 10 := by omega
theorem vc_X12_prefix_v_17 {f_n : Int} (h0 : ¬ f_n = 10) (h1 : 0 ≤ f_n ∧ f_n ≤ 9) : ((f_n + 1) - 1) = f_n := by omega
theorem vc_X12_prefix_v_18 {f_n : Int} (h0 : ¬ f_n = 10) (h1 : 0 ≤ f_n ∧ f_n ≤ 9) : 0 ≤ ((f_n + 1) - 1) := by omega
theorem vc_X12_prefix_v_20 {f_n : Int} (h0 : f_n = 10) (h1 : 10 ≤ f_n ∧ f_n ≤ 10) : 10 ≤ f_n := by omega
theorem vc_X12_prefix_v_21  : (((-3) : Int) : Int) < (0 : Int) := by omega
theorem vc_X12_prefix_v_22 {z149 : Int} (h0 : ¬ z149 = (-99999999)) (h1 : z149 = -99999999 ∨ (0 ≤ z149 ∧ z149 ≤ 9)) (h2 : (-99999999) ≤ z149 ∧ z149 ≤ 9) : 0 ≤ z149 ∧ z149 ≤ 9 := by omega
theorem vc_X12_prefix_v_23 {z149 : Int} (h0 : z149 = -99999999 ∨ (0 ≤ z149 ∧ z149 ≤ 9)) (h1 : ¬ z149 = (-99999999)) (h2 : 0 ≤ z149 ∧ z149 ≤ 9) : 0 ≤ z149 := by omega
theorem vc_X12_prefix_v_24  : (((-2) : Int) : Int) < (0 : Int) := by omega
set_option maxRecDepth 4000 in
set_option maxHeartbeats 4000000 in
theorem c_X12_prefix_v {l : Launch} {D : va_G} {c : Nat → ClassId} {H0 : Heap} {sa : Nat × Nat × (Nat → Int32)} {w : mW} {μ : mM} (hw : mWF w) (hT : mT w μ) {p1 : Int} (hp1 : (-2147483648) ≤ p1 ∧ p1 ≤ 2147483647) {p2 : Int} (hp2 : (-2147483648) ≤ p2 ∧ p2 ≤ 2147483647) {f_n : Int} (q_f_n : μ 106 2 = f_n) (hIJC : JC l D c H0 sa μ) (hIRP : RP μ) (hIEP : EP μ) (hIHP : HP μ) (hIUP : UP l D c H0 sa μ) (hIRR : RR μ) (hIG1 : G1 μ) (hIEV : EV μ) (hIPK : PK μ) : sC (gG l D c H0 sa) mX12_prefix 2 0 0 [.ref 106, iv p1, iv p2] (mk w μ) (qI w [106002, 108999, 109999] μ (fun z μ1 => ((-2147483648) ≤ z ∧ z ≤ 2147483647) ∧ JC l D c H0 sa μ1 ∧ RP μ1 ∧ EP μ1 ∧ HP μ1 ∧ UP l D c H0 sa μ1 ∧ RR μ1 ∧ G1 μ1 ∧ EV μ1 ∧ PK μ1 ∧ (preA (hasP μ 108 109 f_n p1 p2) f_n p1 p2 z) ∧ (adQ μ μ1 106 2 108 109 p1 p2 z) ∧ True)) := by
  refine sC.of rfl (by decide) (le_t rfl) ?_
  have ht_f_n : (0 ≤ f_n ∧ f_n ≤ 10) := by rw [← q_f_n]; exact hT 106 106 (A_106 hw) 2
  refine mr_lvE (lv' := [(0, .ref 106), (1, iv p1), (2, iv p2)]) rfl ?_
  refine mr_iload_n (pc := 0) (z := p2) dX12_prefix_0 rfl rfl ?_
  refine mr_iconst (pc := 1) (z := 0) dX12_prefix_1 ?_
  refine mr_bipush (pc := 2) (z := 32) dX12_prefix_2 (by decide) ?_
  refine mr_cSP (pc := 4) (c_X12_in hw hT hp2 (rW (c := (-2147483648)) (d := 2147483647) (rR (x := 0)) rfl) (rW (c := (-2147483648)) (d := 2147483647) (rR (x := 32)) rfl)) (gOk _ _ _ _ _) dX12_prefix_4 (tX12_in _ _ _ _ _) wS_X12_in wM_X12_18 ⟨le_t rfl, le_t rfl⟩ ⟨le_t rfl, le_t rfl⟩ rfl (le_t rfl) fun z125 h124 => ?_
  refine mr_if_eq (pc := 7) (tgt := 21) dX12_prefix_7 (by decide) (r32 h124.1 rfl) (fun h126 => ?_) (fun h126 => ?_)
  · have h127 : 0 ≤ z125 ∧ z125 ≤ 0 := (vc_X12_prefix_v_1 h126 h124.2.1 h124.2.2.1 hp2 h124.1)
    have h128 : p2 < (0 : Int) ∨ (32 : Int) < p2 := (h124.2.2.1 (vc_X12_prefix_v_2 h124.2.1 h124.2.2.1 h126 hp2 h127))
    refine mr_iconst (pc := 21) (z := (-1)) dX12_prefix_21 ?_
    exact mr_iret dX12_prefix_22 rfl (le_t rfl) (le_t rfl) hT mF.refl ⟨(rW (c := (-2147483648)) (d := 2147483647) (rR (x := (-1))) rfl), hIJC, hIRP, hIEP, hIHP, hIUP, hIRR, hIG1, hIEV, hIPK, (Or.inl ⟨badP.r (vc_X12_prefix_v_3 h124.2.1 h124.2.2.1 h128 h126 hp2 h127), rfl⟩), (Or.inr ⟨vc_X12_raise_u_49, rfl⟩), trivial⟩
  have h129 : 1 ≤ z125 ∧ z125 ≤ 1 := (vc_X12_prefix_v_5 h126 h124.2.1 h124.2.2.1 hp2 h124.1)
  have h130 : (0 : Int) ≤ p2 ∧ p2 ≤ (32 : Int) := (h124.2.1 (vc_X12_prefix_v_6 h124.2.1 h124.2.2.1 h126 hp2 h129))
  have h131 : 0 ≤ p2 ∧ p2 ≤ 32 := (vc_X12_prefix_v_7 h130 h124.2.1 h124.2.2.1 hp2 h129)
  refine mr_iload_n (pc := 10) (z := p1) dX12_prefix_10 rfl rfl ?_
  refine mr_iload_n (pc := 11) (z := p2) dX12_prefix_11 rfl rfl ?_
  refine mr_cSP (pc := 12) (c_X12_mask_v hw hT h131) (gOk _ _ _ _ _) dX12_prefix_12 (tX12_mask _ _ _ _ _) wS_X12_mask wM_X12_11 ⟨le_t rfl, le_t rfl⟩ ⟨le_t rfl, le_t rfl⟩ rfl (le_t rfl) fun z136 h135 => ?_
  refine mr_iconst (pc := 15) (z := (-1)) dX12_prefix_15 ?_
  refine mr_ixor (pc := 16) (x := z136) (y := (-1)) dX12_prefix_16 ?_
  refine mr_gen (P := fun z => (-2147483648) ≤ z ∧ z ≤ 2147483647) (r32i _) fun z137 q138 h139 => ?_
  refine mr_iand (pc := 17) (x := p1) (y := z137) dX12_prefix_17 ?_
  refine mr_gen (P := fun z => (-2147483648) ≤ z ∧ z ≤ 2147483647) (r32i _) fun z140 q141 h142 => ?_
  refine mr_if_eq (pc := 18) (tgt := 23) dX12_prefix_18 (by decide) h142 (fun h143 => ?_) (fun h143 => ?_)
  · have h144 : 0 ≤ z140 ∧ z140 ≤ 0 := (vc_X12_mask_1 h143 h142)
    refine sv_aload_n (pc := 23) dX12_prefix_23 rfl rfl ?_
    refine mr_iload_n (pc := 24) (z := p1) dX12_prefix_24 rfl rfl ?_
    refine mr_iload_n (pc := 25) (z := p2) dX12_prefix_25 rfl rfl ?_
    refine mr_cVP (pc := 26) (c_X12_prefixOf_v hw hT hp1 (rW (c := (-2147483648)) (d := 2147483647) h131 rfl) q_f_n) (gOk _ _ _ _ _) dX12_prefix_26 (tX12_prefixOf _ _ _ _ _) ⟨wV_X12_prefixOf, wL_X12_prefixOf⟩ wM_X12_30 (gCX12 _ _ _ _ _) rfl (A_106 hw) rfl ⟨le_t rfl, le_t rfl⟩ ⟨le_t rfl, le_t rfl⟩ rfl (le_t rfl) fun z149 h148 => ?_
    refine mr_ldc (pc := 29) (z := (-99999999)) dX12_prefix_29 wG_X12_29 (by decide) ?_
    refine mr_icmp_eq (pc := 31) (tgt := 37) dX12_prefix_31 (by decide) (r32 h148.1 rfl) (r32 (rR (x := (-99999999))) rfl) (fun h150 => ?_) (fun h150 => ?_)
    · have h151 : (-99999999) ≤ z149 ∧ z149 ≤ (-99999999) := (vc_X12_prefix_v_9 h150 h148.2.1 h148.1)
      refine sv_aload_n (pc := 37) dX12_prefix_37 rfl rfl ?_
      refine gk_X12_2 (pc := 38) dX12_prefix_38 wF_X12_15 (A_106 hw) q_f_n ?_
      refine mr_bipush (pc := 41) (z := 10) dX12_prefix_41 (by decide) ?_
      refine mr_icmp_ne (pc := 43) (tgt := 49) dX12_prefix_43 (by decide) (r32 ht_f_n rfl) (r32 (rR (x := 10)) rfl) (fun h152 => ?_) (fun h152 => ?_)
      · have h153 : 0 ≤ f_n ∧ f_n ≤ 9 := (vc_X12_domain_v_1 h152 ht_f_n)
        refine sv_aload_n (pc := 49) dX12_prefix_49 rfl rfl ?_
        refine gf_X12_3 (pc := 50) dX12_prefix_50 wF_X12_22 (A_106 hw) hT ?_
        refine sv_aload_n (pc := 53) dX12_prefix_53 rfl rfl ?_
        refine gk_X12_2 (pc := 54) dX12_prefix_54 wF_X12_15 (A_106 hw) q_f_n ?_
        refine mr_iload_n (pc := 57) (z := p1) dX12_prefix_57 rfl rfl ?_
        refine ss_108 (pc := 58) dX12_prefix_58 (A_108 hw) hT (rIx (n := 10) h153 rfl) hp1 fun μ154 u155 T156 => ?_
        refine sv_aload_n (pc := 59) dX12_prefix_59 rfl rfl ?_
        refine gf_X12_4 (pc := 60) dX12_prefix_60 wF_X12_26 (A_106 hw) T156 ?_
        refine sv_aload_n (pc := 63) dX12_prefix_63 rfl rfl ?_
        refine gk_X12_2 (pc := 64) dX12_prefix_64 wF_X12_15 (A_106 hw) (u155.f (Or.inl (mAt.ne (A_108 hw) (A_106 hw) rfl)) q_f_n) ?_
        refine mr_iload_n (pc := 67) (z := p2) dX12_prefix_67 rfl rfl ?_
        refine ss_109 (pc := 68) dX12_prefix_68 (A_109 hw) T156 (rIx (n := 10) h153 rfl) h131 fun μ157 u158 T159 => ?_
        refine sv_aload_n (pc := 69) dX12_prefix_69 rfl rfl ?_
        refine sv_dup (pc := 70) dX12_prefix_70 rfl ?_
        refine gk_X12_2 (pc := 71) dX12_prefix_71 wF_X12_15 (A_106 hw) (u158.f (Or.inl (mAt.ne (A_109 hw) (A_106 hw) rfl)) (u155.f (Or.inl (mAt.ne (A_108 hw) (A_106 hw) rfl)) q_f_n)) ?_
        refine mr_iconst (pc := 74) (z := 1) dX12_prefix_74 ?_
        refine mr_iadd (pc := 75) (x := f_n) (y := 1) dX12_prefix_75 ?_
        refine pf_X12_2 (pc := 76) dX12_prefix_76 wF_X12_15 (A_106 hw) T159 (rW (c := 0) (d := 10) (rAdd (e := 1) (f := 10) h153 (rR (x := 1)) rfl) rfl) fun μ160 u161 T162 => ?_
        have I163 : RP μ160 := RP.grow (RP.keep hIRP hw ((mF.up (mF.up mF.refl (A_108 hw) u155 rfl) (A_109 hw) u158 rfl) : mF [108999, 109999] w μ μ157) rfl ((mG.upO (mG.upO mG.refl u155 rfl) u158 rfl) : mG [] μ μ157) (fun _ h => absurd h List.not_mem_nil)) (u158.f (Or.inl (mAt.ne (A_109 hw) (A_106 hw) rfl)) (u155.f (Or.inl (mAt.ne (A_108 hw) (A_106 hw) rfl)) q_f_n)) u161 (vc_X12_prefix_v_11 h152 h153)
        have I164 : EP μ160 := EP.grow (EP.keep hIEP hw ((mF.up (mF.up mF.refl (A_108 hw) u155 rfl) (A_109 hw) u158 rfl) : mF [108999, 109999] w μ μ157) rfl) (u158.f (Or.inl (mAt.ne (A_109 hw) (A_106 hw) rfl)) (u155.f (Or.inl (mAt.ne (A_108 hw) (A_106 hw) rfl)) q_f_n)) u161 (vc_X12_prefix_v_11 h152 h153)
        have I165 : HP μ160 := HP.grow2 (HP.keep hIHP hw ((mF.up (mF.up mF.refl (A_108 hw) u155 rfl) (A_109 hw) u158 rfl) : mF [108999, 109999] w μ μ157) rfl ((mG.upO (mG.upO mG.refl u155 rfl) u158 rfl) : mG [] μ μ157) (fun _ h => absurd h List.not_mem_nil)) (u158.f (Or.inl (mAt.ne (A_109 hw) (A_106 hw) rfl)) (u155.f (Or.inl (mAt.ne (A_108 hw) (A_106 hw) rfl)) q_f_n)) u161 (vc_X12_prefix_v_11 h152 h153)
        have I166 : RR μ160 := RR.grow (RR.keep hIRR hw ((mF.up (mF.up mF.refl (A_108 hw) u155 rfl) (A_109 hw) u158 rfl) : mF [108999, 109999] w μ μ157) rfl rfl rfl) (u158.f (Or.inl (mAt.ne (A_109 hw) (A_106 hw) rfl)) (u155.f (Or.inl (mAt.ne (A_108 hw) (A_106 hw) rfl)) q_f_n)) u161 (vc_X12_prefix_v_11 h152 h153)
        have I167 : JC l D c H0 sa μ160 := PX.jc hIJC hIRR hw hT q_f_n u155 u158 u161 (vc_X12_prefix_v_11 h152 h153)
        have I168 : UP l D c H0 sa μ160 := PX.up hIUP hIHP hIRP hIRR hw hT T162 (PK.keep hIPK hw ((mF.up (mF.up (mF.up mF.refl (A_108 hw) u155 rfl) (A_109 hw) u158 rfl) (A_106 hw) u161 rfl) : mF [106002, 108999, 109999] w μ μ160) rfl) q_f_n u155 u158 u161 (vc_X12_prefix_v_12 h152 h153)
        refine sv_aload_n (pc := 79) dX12_prefix_79 rfl rfl ?_
        refine gk_X12_2 (pc := 80) dX12_prefix_80 wF_X12_15 (A_106 hw) u161.1 ?_
        refine mr_iconst (pc := 83) (z := 1) dX12_prefix_83 ?_
        refine mr_isub (pc := 84) (x := (f_n + 1)) (y := 1) dX12_prefix_84 ?_
        exact mr_iret dX12_prefix_85 rfl (le_t rfl) (le_t rfl) T162 (mF.up (mF.up (mF.up mF.refl (A_108 hw) u155 rfl) (A_109 hw) u158 rfl) (A_106 hw) u161 rfl) ⟨(rW (c := (-2147483648)) (d := 2147483647) (rSub (e := 0) (f := 9) (rAdd (e := 1) (f := 10) h153 (rR (x := 1)) rfl) (rR (x := 1)) rfl) rfl), I167, I163, I164, I165, I168, I166, (G1.keep hIG1 hw ((mF.up (mF.up (mF.up mF.refl (A_108 hw) u155 rfl) (A_109 hw) u158 rfl) (A_106 hw) u161 rfl) : mF [106002, 108999, 109999] w μ μ160) rfl rfl ((mG.upO (mG.upO (mG.upO mG.refl u155 rfl) u158 rfl) u161 rfl) : mG [] μ μ160) (fun _ h => absurd h List.not_mem_nil)), (EV.keep hIEV hw ((mF.up (mF.up (mF.up mF.refl (A_108 hw) u155 rfl) (A_109 hw) u158 rfl) (A_106 hw) u161 rfl) : mF [106002, 108999, 109999] w μ μ160) rfl), (PK.keep hIPK hw ((mF.up (mF.up (mF.up mF.refl (A_108 hw) u155 rfl) (A_109 hw) u158 rfl) (A_106 hw) u161 rfl) : mF [106002, 108999, 109999] w μ μ160) rfl), (Or.inr ⟨(badP.n (vc_X12_prefix_v_13 h124.2.1 h124.2.2.1 h130 h126 h131 h129) (andMk h135.2.1 q138 q141) (vc_X12_goes_7 h143 h144)), Or.inr ⟨(h148.2.2.2.1 (vc_X12_prefix_v_15 h148.2.1 h150 h151)), Or.inr ⟨(vc_X12_prefix_v_16 h152 h153), (vc_X12_prefix_v_17 h152 h153)⟩⟩⟩), (adQ.add q_f_n (vc_X12_prefix_v_18 h152 h153) u161.1 (vc_X12_prefix_v_12 h152 h153) (adT.oth (adT.two u155 u158 (by decide)) u161 (by decide) (by decide))), trivial⟩
      have h169 : 10 ≤ f_n ∧ f_n ≤ 10 := (vc_X12_domain_v_4 h152 ht_f_n)
      refine mr_bipush (pc := 46) (z := (-3)) dX12_prefix_46 (by decide) ?_
      exact mr_iret dX12_prefix_48 rfl (le_t rfl) (le_t rfl) hT mF.refl ⟨(rW (c := (-2147483648)) (d := 2147483647) (rR (x := (-3))) rfl), hIJC, hIRP, hIEP, hIHP, hIUP, hIRR, hIG1, hIEV, hIPK, (Or.inr ⟨(badP.n (vc_X12_prefix_v_13 h124.2.1 h124.2.2.1 h130 h126 h131 h129) (andMk h135.2.1 q138 q141) (vc_X12_goes_7 h143 h144)), Or.inr ⟨(h148.2.2.2.1 (vc_X12_prefix_v_15 h148.2.1 h150 h151)), Or.inl ⟨(vc_X12_prefix_v_20 h152 h169), rfl⟩⟩⟩), (Or.inr ⟨vc_X12_prefix_v_21, rfl⟩), trivial⟩
    have h170 : 0 ≤ z149 ∧ z149 ≤ 9 := (vc_X12_prefix_v_22 h150 h148.2.1 h148.1)
    refine mr_bipush (pc := 34) (z := (-2)) dX12_prefix_34 (by decide) ?_
    exact mr_iret dX12_prefix_36 rfl (le_t rfl) (le_t rfl) hT mF.refl ⟨(rW (c := (-2147483648)) (d := 2147483647) (rR (x := (-2))) rfl), hIJC, hIRP, hIEP, hIHP, hIUP, hIRR, hIG1, hIEV, hIPK, (Or.inr ⟨(badP.n (vc_X12_prefix_v_13 h124.2.1 h124.2.2.1 h130 h126 h131 h129) (andMk h135.2.1 q138 q141) (vc_X12_goes_7 h143 h144)), Or.inl ⟨h148.2.2.1 (vc_X12_prefix_v_23 h148.2.1 h150 h170), rfl⟩⟩), (Or.inr ⟨vc_X12_prefix_v_24, rfl⟩), trivial⟩
  refine mr_iconst (pc := 21) (z := (-1)) dX12_prefix_21 ?_
  exact mr_iret dX12_prefix_22 rfl (le_t rfl) (le_t rfl) hT mF.refl ⟨(rW (c := (-2147483648)) (d := 2147483647) (rR (x := (-1))) rfl), hIJC, hIRP, hIEP, hIHP, hIUP, hIRR, hIG1, hIEV, hIPK, (Or.inl ⟨badP.a (andMk h135.2.1 q138 q141) (vc_X12_holds_v_1 h143 h142), rfl⟩), (Or.inr ⟨vc_X12_raise_u_49, rfl⟩), trivial⟩
theorem vc_X11_strike_v_2 {f_k f_q f_s p1 p2 : Int} (h0 : p1 < 0) (h1 : (-2147483648) ≤ f_k ∧ f_k ≤ 2147483647) (h2 : 0 ≤ f_q ∧ f_q ≤ 30) (h3 : (-2147483648) ≤ f_s ∧ f_s ≤ 2147483647) (h4 : (-2147483648) ≤ p1 ∧ p1 ≤ (-1)) (h5 : (-2147483648) ≤ p2 ∧ p2 ≤ 2147483647) : p1 < 0 ∨ f_q ≤ p1 ∨ p2 < f_k := by omega
theorem vc_X11_strike_v_4 {f_k f_q f_s p1 p2 : Int} (h0 : 0 ≤ p1) (h1 : f_q ≤ p1) (h2 : (-2147483648) ≤ f_k ∧ f_k ≤ 2147483647) (h3 : 0 ≤ f_q ∧ f_q ≤ 30) (h4 : (-2147483648) ≤ f_s ∧ f_s ≤ 2147483647) (h5 : 0 ≤ p1 ∧ p1 ≤ 2147483647) (h6 : (-2147483648) ≤ p2 ∧ p2 ≤ 2147483647) : p1 < 0 ∨ f_q ≤ p1 ∨ p2 < f_k := by omega
theorem vc_X11_strike_v_5 {f_q p1 : Int} (h0 : p1 < f_q) (h1 : 0 ≤ p1) (h2 : 0 ≤ f_q ∧ f_q ≤ 30) (h3 : 0 ≤ p1 ∧ p1 ≤ 2147483647) : 0 ≤ p1 ∧ p1 ≤ 29 := by omega
theorem vc_X11_strike_v_6 {f_q p1 : Int} (h0 : p1 < f_q) (h1 : 0 ≤ p1) (h2 : 0 ≤ f_q ∧ f_q ≤ 30) (h3 : 0 ≤ p1 ∧ p1 ≤ 29) : 1 ≤ f_q ∧ f_q ≤ 30 := by omega
theorem vc_X11_strike_v_8 {f_k f_q f_s p1 p2 : Int} (h0 : 0 ≤ p1) (h1 : p1 < f_q) (h2 : f_k ≤ p2) (h3 : f_s = (-1)) (h4 : (-2147483648) ≤ f_k ∧ f_k ≤ 2147483647) (h5 : 1 ≤ f_q ∧ f_q ≤ 30) (h6 : (-1) ≤ f_s ∧ f_s ≤ (-1)) (h7 : 0 ≤ p1 ∧ p1 ≤ 29) (h8 : (-2147483648) ≤ p2 ∧ p2 ≤ 2147483647) : 0 ≤ p1 := by omega
theorem vc_X11_strike_v_9 {f_k f_q f_s p1 p2 : Int} (h0 : 0 ≤ p1) (h1 : p1 < f_q) (h2 : f_k ≤ p2) (h3 : f_s = (-1)) (h4 : (-2147483648) ≤ f_k ∧ f_k ≤ 2147483647) (h5 : 1 ≤ f_q ∧ f_q ≤ 30) (h6 : (-1) ≤ f_s ∧ f_s ≤ (-1)) (h7 : 0 ≤ p1 ∧ p1 ≤ 29) (h8 : (-2147483648) ≤ p2 ∧ p2 ≤ 2147483647) : p1 < f_q := by omega
theorem vc_X11_strike_v_10 {f_k f_q f_s p1 p2 : Int} (h0 : 0 ≤ p1) (h1 : p1 < f_q) (h2 : f_k ≤ p2) (h3 : f_s = (-1)) (h4 : (-2147483648) ≤ f_k ∧ f_k ≤ 2147483647) (h5 : 1 ≤ f_q ∧ f_q ≤ 30) (h6 : (-1) ≤ f_s ∧ f_s ≤ (-1)) (h7 : 0 ≤ p1 ∧ p1 ≤ 29) (h8 : (-2147483648) ≤ p2 ∧ p2 ≤ 2147483647) : f_k ≤ p2 := by omega
theorem vc_X11_strike_v_11 {f_k f_q f_s p1 p2 : Int} (h0 : 0 ≤ p1) (h1 : p1 < f_q) (h2 : f_k ≤ p2) (h3 : f_s = (-1)) (h4 : (-2147483648) ≤ f_k ∧ f_k ≤ 2147483647) (h5 : 1 ≤ f_q ∧ f_q ≤ 30) (h6 : (-1) ≤ f_s ∧ f_s ≤ (-1)) (h7 : 0 ≤ p1 ∧ p1 ≤ 29) (h8 : (-2147483648) ≤ p2 ∧ p2 ≤ 2147483647) : f_s = (-1) := by omega
theorem vc_X11_strike_v_12 {f_k p2 : Int} (h0 : f_k ≤ p2) (h1 : (-2147483648) ≤ f_k ∧ f_k ≤ 2147483647) (h2 : (-2147483648) ≤ p2 ∧ p2 ≤ 2147483647) : p2 = p2 := by omega
theorem vc_X11_strike_v_13 {f_k f_q f_s p1 p2 : Int} (h0 : 0 ≤ p1) (h1 : p1 < f_q) (h2 : f_k ≤ p2) (h3 : ¬ f_s = (-1)) (h4 : (-2147483648) ≤ f_k ∧ f_k ≤ 2147483647) (h5 : 1 ≤ f_q ∧ f_q ≤ 30) (h6 : (-2147483648) ≤ f_s ∧ f_s ≤ 2147483647) (h7 : 0 ≤ p1 ∧ p1 ≤ 29) (h8 : (-2147483648) ≤ p2 ∧ p2 ≤ 2147483647) : 0 ≤ p1 := by omega
theorem vc_X11_strike_v_14 {f_k f_q f_s p1 p2 : Int} (h0 : 0 ≤ p1) (h1 : p1 < f_q) (h2 : f_k ≤ p2) (h3 : ¬ f_s = (-1)) (h4 : (-2147483648) ≤ f_k ∧ f_k ≤ 2147483647) (h5 : 1 ≤ f_q ∧ f_q ≤ 30) (h6 : (-2147483648) ≤ f_s ∧ f_s ≤ 2147483647) (h7 : 0 ≤ p1 ∧ p1 ≤ 29) (h8 : (-2147483648) ≤ p2 ∧ p2 ≤ 2147483647) : p1 < f_q := by omega
theorem vc_X11_strike_v_15 {f_k f_q f_s p1 p2 : Int} (h0 : 0 ≤ p1) (h1 : p1 < f_q) (h2 : f_k ≤ p2) (h3 : ¬ f_s = (-1)) (h4 : (-2147483648) ≤ f_k ∧ f_k ≤ 2147483647) (h5 : 1 ≤ f_q ∧ f_q ≤ 30) (h6 : (-2147483648) ≤ f_s ∧ f_s ≤ 2147483647) (h7 : 0 ≤ p1 ∧ p1 ≤ 29) (h8 : (-2147483648) ≤ p2 ∧ p2 ≤ 2147483647) : f_k ≤ p2 := by omega
theorem vc_X11_strike_v_16 {f_k f_q f_s p1 p2 : Int} (h0 : 0 ≤ p1) (h1 : p1 < f_q) (h2 : f_k ≤ p2) (h3 : ¬ f_s = (-1)) (h4 : (-2147483648) ≤ f_k ∧ f_k ≤ 2147483647) (h5 : 1 ≤ f_q ∧ f_q ≤ 30) (h6 : (-2147483648) ≤ f_s ∧ f_s ≤ 2147483647) (h7 : 0 ≤ p1 ∧ p1 ≤ 29) (h8 : (-2147483648) ≤ p2 ∧ p2 ≤ 2147483647) : ¬ f_s = (-1) := by omega
theorem vc_X11_strike_v_19 {f_k f_q f_s p1 p2 : Int} (h0 : 0 ≤ p1) (h1 : p1 < f_q) (h2 : p2 < f_k) (h3 : (-2147483647) ≤ f_k ∧ f_k ≤ 2147483647) (h4 : 1 ≤ f_q ∧ f_q ≤ 30) (h5 : (-2147483648) ≤ f_s ∧ f_s ≤ 2147483647) (h6 : 0 ≤ p1 ∧ p1 ≤ 29) (h7 : (-2147483648) ≤ p2 ∧ p2 ≤ 2147483646) : p1 < 0 ∨ f_q ≤ p1 ∨ p2 < f_k := by omega
set_option maxRecDepth 4000 in
set_option maxHeartbeats 4000000 in
theorem c_X11_strike_v {l : Launch} {D : va_G} {c : Nat → ClassId} {H0 : Heap} {sa : Nat × Nat × (Nat → Int32)} {w : mW} {μ : mM} (hw : mWF w) (hT : mT w μ) {p1 : Int} (hp1 : (-2147483648) ≤ p1 ∧ p1 ≤ 2147483647) {p2 : Int} (hp2 : (-2147483648) ≤ p2 ∧ p2 ≤ 2147483647) {f_q : Int} (q_f_q : μ 6 17 = f_q) {f_k : Int} (q_f_k : μ 19 (p1.toNat) = f_k) {f_s : Int} (q_f_s : μ 20 (p1.toNat) = f_s) (hIPC : PC w μ) : sC (gG l D c H0 sa) mX11_strike 44 0 0 [.ref 0, iv p1, iv p2] (mk w μ) (qI w [20999, 21002, 21003, 21004, 21005, 21006, 21007, 32009, 32010, 33999, 34999, 66999, 200002, 200003, 200004, 200005, 200006, 200007, 200008, 200009, 200010, 200011, 201999, 202999, 213999] μ (fun z μ1 => ((-2147483648) ≤ z ∧ z ≤ 2147483647) ∧ (skT μ μ1 19 20 f_q p1 p2 (-1) z) ∧ True)) := by
  refine sC.of rfl (by decide) (le_t rfl) ?_
  have ht_f_q : (0 ≤ f_q ∧ f_q ≤ 30) := by rw [← q_f_q]; exact hT 6 6 (A_6 hw) 17
  have ht_f_k : ((-2147483648) ≤ f_k ∧ f_k ≤ 2147483647) := by rw [← q_f_k]; exact hT 19 19 (A_19 hw) (p1.toNat)
  have ht_f_s : ((-2147483648) ≤ f_s ∧ f_s ≤ 2147483647) := by rw [← q_f_s]; exact hT 20 20 (A_20 hw) (p1.toNat)
  refine mr_lvE (lv' := [(0, .ref 0), (1, iv p1), (2, iv p2)]) rfl ?_
  refine mr_iload_n (pc := 0) (z := p1) dX11_strike_0 rfl rfl ?_
  refine mr_if_lt (pc := 1) (tgt := 28) dX11_strike_1 (by decide) hp1 (fun h43 => ?_) (fun h43 => ?_)
  · have h44 : (-2147483648) ≤ p1 ∧ p1 ≤ (-1) := (vc_X12_cut_1 h43 hp1)
    refine mr_iconst (pc := 28) (z := (-1)) dX11_strike_28 ?_
    exact mr_iret dX11_strike_29 rfl (le_t rfl) (le_t rfl) hT mF.refl ⟨(rW (c := (-2147483648)) (d := 2147483647) (rR (x := (-1))) rfl), (Or.inl ⟨(by rw [q_f_k]; exact (vc_X11_strike_v_2 h43 ht_f_k ht_f_q ht_f_s h44 hp2)), rfl, rfl⟩), trivial⟩
  have h45 : 0 ≤ p1 ∧ p1 ≤ 2147483647 := (vc_X12_cut_2 h43 hp1)
  refine mr_iload_n (pc := 4) (z := p1) dX11_strike_4 rfl rfl ?_
  refine sv_aload_n (pc := 5) dX11_strike_5 rfl rfl ?_
  refine gf_X11_3 (pc := 6) dX11_strike_6 wF_X11_26 (A_0 hw) hT ?_
  refine gk_X10_17 (pc := 9) dX11_strike_9 wF_X11_188 (A_6 hw) q_f_q ?_
  refine mr_icmp_ge (pc := 12) (tgt := 28) dX11_strike_12 (by decide) (r32 h45 rfl) (r32 ht_f_q rfl) (fun h46 => ?_) (fun h46 => ?_)
  · refine mr_iconst (pc := 28) (z := (-1)) dX11_strike_28 ?_
    exact mr_iret dX11_strike_29 rfl (le_t rfl) (le_t rfl) hT mF.refl ⟨(rW (c := (-2147483648)) (d := 2147483647) (rR (x := (-1))) rfl), (Or.inl ⟨(by rw [q_f_k]; exact (vc_X11_strike_v_4 h43 h46 ht_f_k ht_f_q ht_f_s h45 hp2)), rfl, rfl⟩), trivial⟩
  have h47 : 0 ≤ p1 ∧ p1 ≤ 29 := (vc_X11_strike_v_5 h46 h43 ht_f_q h45)
  have h48 : 1 ≤ f_q ∧ f_q ≤ 30 := (vc_X11_strike_v_6 h46 h43 ht_f_q h47)
  refine mr_iload_n (pc := 15) (z := p2) dX11_strike_15 rfl rfl ?_
  refine sv_aload_n (pc := 16) dX11_strike_16 rfl rfl ?_
  refine gf_X11_3 (pc := 17) dX11_strike_17 wF_X11_26 (A_0 hw) hT ?_
  refine gf_X10_12 (pc := 20) dX11_strike_20 wF_X11_195 (A_6 hw) hT ?_
  refine mr_iload_n (pc := 23) (z := p1) dX11_strike_23 rfl rfl ?_
  refine lk_19 (pc := 24) dX11_strike_24 (A_19 hw) (rIx (n := 30) h47 rfl) q_f_k ?_
  refine mr_icmp_ge (pc := 25) (tgt := 30) dX11_strike_25 (by decide) hp2 ht_f_k (fun h49 => ?_) (fun h49 => ?_)
  · refine sv_aload_n (pc := 30) dX11_strike_30 rfl rfl ?_
    refine gf_X11_3 (pc := 31) dX11_strike_31 wF_X11_26 (A_0 hw) hT ?_
    refine gf_X10_13 (pc := 34) dX11_strike_34 wF_X11_198 (A_6 hw) hT ?_
    refine mr_iload_n (pc := 37) (z := p1) dX11_strike_37 rfl rfl ?_
    refine lk_20 (pc := 38) dX11_strike_38 (A_20 hw) (rIx (n := 30) h47 rfl) q_f_s ?_
    refine mr_iconst (pc := 39) (z := (-1)) dX11_strike_39 ?_
    refine mr_icmp_eq (pc := 40) (tgt := 46) dX11_strike_40 (by decide) ht_f_s (r32 (rR (x := (-1))) rfl) (fun h50 => ?_) (fun h50 => ?_)
    · have h51 : (-1) ≤ f_s ∧ f_s ≤ (-1) := (vc_X10_verdictOn_17 h50 ht_f_s)
      refine sv_aload_n (pc := 46) dX11_strike_46 rfl rfl ?_
      refine gf_X11_3 (pc := 47) dX11_strike_47 wF_X11_26 (A_0 hw) hT ?_
      refine gf_X10_13 (pc := 50) dX11_strike_50 wF_X11_198 (A_6 hw) hT ?_
      refine mr_iload_n (pc := 53) (z := p1) dX11_strike_53 rfl rfl ?_
      refine mr_iload_n (pc := 54) (z := p2) dX11_strike_54 rfl rfl ?_
      refine ss_20 (pc := 55) dX11_strike_55 (A_20 hw) hT (rIx (n := 30) h47 rfl) hp2 fun μ52 u53 T54 => ?_
      refine sv_aload_n (pc := 56) dX11_strike_56 rfl rfl ?_
      refine gf_X11_6 (pc := 57) dX11_strike_57 wF_X11_51 (A_0 hw) T54 ?_
      refine mr_cVV (pc := 60) (c_X8_tellAllAnew hw T54 (PC.keep hIPC hw ((mF.up mF.refl (A_20 hw) u53 rfl) : mF [20999] w μ μ52) rfl)) (gOk _ _ _ _ _) dX11_strike_60 (tX8_tellAllAnew _ _ _ _ _) ⟨wV_X8_tellAllAnew, wL_X8_tellAllAnew⟩ wM_X11_179 (gCX8 _ _ _ _ _) rfl (A_32 hw) rfl ⟨le_t rfl, le_t rfl⟩ ⟨le_t rfl, le_t rfl⟩ rfl (le_t rfl) fun μ55 T56 F57 h58 => ?_
      refine mr_iconst (pc := 63) (z := 0) dX11_strike_63 ?_
      exact mr_iret dX11_strike_64 rfl (le_t rfl) (le_t rfl) T56 (mF.call (mF.up mF.refl (A_20 hw) u53 rfl) F57 rfl) ⟨(rW (c := (-2147483648)) (d := 2147483647) (rR (x := 0)) rfl), (Or.inr ⟨⟨(vc_X11_strike_v_8 h43 h46 h49 h50 ht_f_k h48 h51 h47 hp2), (vc_X11_strike_v_9 h43 h46 h49 h50 ht_f_k h48 h51 h47 hp2), (by rw [q_f_k]; exact (vc_X11_strike_v_10 h43 h46 h49 h50 ht_f_k h48 h51 h47 hp2))⟩, Or.inr ⟨(by rw [q_f_s]; exact (vc_X11_strike_v_11 h43 h46 h49 h50 ht_f_k h48 h51 h47 hp2)), rfl, (tabS.fr (tabS.oth tabS.refl u53 rfl) F57 (A_19 hw) rfl rfl), (one.fr (one.up one.refl (vc_X11_strike_v_8 h43 h46 h49 h50 ht_f_k h48 h51 h47 hp2) u53) F57 (A_20 hw) rfl rfl), (F57.f (A_20 hw) rfl u53.1).trans (vc_X11_strike_v_12 h49 ht_f_k hp2)⟩⟩), trivial⟩
    refine mr_bipush (pc := 43) (z := (-2)) dX11_strike_43 (by decide) ?_
    exact mr_iret dX11_strike_45 rfl (le_t rfl) (le_t rfl) hT mF.refl ⟨(rW (c := (-2147483648)) (d := 2147483647) (rR (x := (-2))) rfl), (Or.inr ⟨⟨(vc_X11_strike_v_13 h43 h46 h49 h50 ht_f_k h48 ht_f_s h47 hp2), (vc_X11_strike_v_14 h43 h46 h49 h50 ht_f_k h48 ht_f_s h47 hp2), (by rw [q_f_k]; exact (vc_X11_strike_v_15 h43 h46 h49 h50 ht_f_k h48 ht_f_s h47 hp2))⟩, Or.inl ⟨(by rw [q_f_s]; exact (vc_X11_strike_v_16 h43 h46 h49 h50 ht_f_k h48 ht_f_s h47 hp2)), rfl, rfl⟩⟩), trivial⟩
  have h59 : (-2147483648) ≤ p2 ∧ p2 ≤ 2147483646 := (vc_X7_addMark_16 h49 ht_f_k hp2)
  have h60 : (-2147483647) ≤ f_k ∧ f_k ≤ 2147483647 := (vc_X7_addMark_17 h49 ht_f_k h59)
  refine mr_iconst (pc := 28) (z := (-1)) dX11_strike_28 ?_
  exact mr_iret dX11_strike_29 rfl (le_t rfl) (le_t rfl) hT mF.refl ⟨(rW (c := (-2147483648)) (d := 2147483647) (rR (x := (-1))) rfl), (Or.inl ⟨(by rw [q_f_k]; exact (vc_X11_strike_v_19 h43 h46 h49 h60 h48 ht_f_s h47 h59)), rfl, rfl⟩), trivial⟩
theorem vc_X12_strike_v_1 {f_q p1 z83 : Int} (h0 : z83 = 0) (h1 : (z83 = 1 → (0 : Int) ≤ p1 ∧ p1 ≤ (f_q - 1))) (h2 : (z83 = 0 → p1 < (0 : Int) ∨ (f_q - 1) < p1)) (h3 : 0 ≤ f_q ∧ f_q ≤ 30) (h4 : (-2147483648) ≤ p1 ∧ p1 ≤ 2147483647) (h5 : 0 ≤ z83 ∧ z83 ≤ 1) : 0 ≤ z83 ∧ z83 ≤ 0 := by omega
theorem vc_X12_strike_v_2 {f_q p1 z83 : Int} (h0 : (z83 = 1 → (0 : Int) ≤ p1 ∧ p1 ≤ (f_q - 1))) (h1 : (z83 = 0 → p1 < (0 : Int) ∨ (f_q - 1) < p1)) (h2 : z83 = 0) (h3 : 0 ≤ f_q ∧ f_q ≤ 30) (h4 : (-2147483648) ≤ p1 ∧ p1 ≤ 2147483647) (h5 : 0 ≤ z83 ∧ z83 ≤ 0) : z83 = 0 := by omega
theorem vc_X12_strike_v_3 {f_k f_q f_s p1 p2 z83 : Int} (h0 : (z83 = 1 → (0 : Int) ≤ p1 ∧ p1 ≤ (f_q - 1))) (h1 : (z83 = 0 → p1 < (0 : Int) ∨ (f_q - 1) < p1)) (h2 : p1 < (0 : Int) ∨ (f_q - 1) < p1) (h3 : z83 = 0) (h4 : (-2147483648) ≤ f_k ∧ f_k ≤ 2147483647) (h5 : 0 ≤ f_q ∧ f_q ≤ 30) (h6 : (-2147483648) ≤ f_s ∧ f_s ≤ 2147483647) (h7 : (-2147483648) ≤ p1 ∧ p1 ≤ 2147483647) (h8 : (-2147483648) ≤ p2 ∧ p2 ≤ 2147483647) (h9 : 0 ≤ z83 ∧ z83 ≤ 0) : p1 < 0 ∨ f_q ≤ p1 ∨ p2 < f_k := by omega
theorem vc_X12_strike_v_4 {f_q p1 z83 : Int} (h0 : ¬ z83 = 0) (h1 : (z83 = 1 → (0 : Int) ≤ p1 ∧ p1 ≤ (f_q - 1))) (h2 : (z83 = 0 → p1 < (0 : Int) ∨ (f_q - 1) < p1)) (h3 : 0 ≤ f_q ∧ f_q ≤ 30) (h4 : (-2147483648) ≤ p1 ∧ p1 ≤ 2147483647) (h5 : 0 ≤ z83 ∧ z83 ≤ 1) : 1 ≤ z83 ∧ z83 ≤ 1 := by omega
theorem vc_X12_strike_v_5 {f_q p1 z83 : Int} (h0 : (z83 = 1 → (0 : Int) ≤ p1 ∧ p1 ≤ (f_q - 1))) (h1 : (z83 = 0 → p1 < (0 : Int) ∨ (f_q - 1) < p1)) (h2 : ¬ z83 = 0) (h3 : 0 ≤ f_q ∧ f_q ≤ 30) (h4 : (-2147483648) ≤ p1 ∧ p1 ≤ 2147483647) (h5 : 1 ≤ z83 ∧ z83 ≤ 1) : z83 = 1 := by omega
theorem vc_X12_strike_v_6 {f_q p1 z83 : Int} (h0 : (0 : Int) ≤ p1 ∧ p1 ≤ (f_q - 1)) (h1 : (z83 = 1 → (0 : Int) ≤ p1 ∧ p1 ≤ (f_q - 1))) (h2 : (z83 = 0 → p1 < (0 : Int) ∨ (f_q - 1) < p1)) (h3 : 0 ≤ f_q ∧ f_q ≤ 30) (h4 : (-2147483648) ≤ p1 ∧ p1 ≤ 2147483647) (h5 : 1 ≤ z83 ∧ z83 ≤ 1) : 0 ≤ p1 ∧ p1 ≤ 2147483647 := by omega
theorem vc_X12_strike_v_7 {f_q p1 z83 : Int} (h0 : (z83 = 1 → (0 : Int) ≤ p1 ∧ p1 ≤ (f_q - 1))) (h1 : (z83 = 0 → p1 < (0 : Int) ∨ (f_q - 1) < p1)) (h2 : (0 : Int) ≤ p1 ∧ p1 ≤ (f_q - 1)) (h3 : ¬ z83 = 0) (h4 : 0 ≤ f_q ∧ f_q ≤ 30) (h5 : 0 ≤ p1 ∧ p1 ≤ 2147483647) (h6 : 1 ≤ z83 ∧ z83 ≤ 1) : 0 ≤ p1 ∧ p1 < 30 := by omega
theorem vc_X12_strike_v_13 {f_k f_q f_s p1 p2 z83 : Int} (h0 : (z83 = 1 → (0 : Int) ≤ p1 ∧ p1 ≤ (f_q - 1))) (h1 : (z83 = 0 → p1 < (0 : Int) ∨ (f_q - 1) < p1)) (h2 : (0 : Int) ≤ p1 ∧ p1 ≤ (f_q - 1)) (h3 : f_k ≤ p2) (h4 : f_s = (-99999999)) (h5 : ¬ z83 = 0) (h6 : (-2147483648) ≤ f_k ∧ f_k ≤ 2147483647) (h7 : 0 ≤ f_q ∧ f_q ≤ 30) (h8 : (-99999999) ≤ f_s ∧ f_s ≤ (-99999999)) (h9 : 0 ≤ p1 ∧ p1 ≤ 2147483647) (h10 : (-2147483648) ≤ p2 ∧ p2 ≤ 2147483647) (h11 : 1 ≤ z83 ∧ z83 ≤ 1) : 0 ≤ p1 := by omega
theorem vc_X12_strike_v_14 {f_k f_q f_s p1 p2 z83 : Int} (h0 : (z83 = 1 → (0 : Int) ≤ p1 ∧ p1 ≤ (f_q - 1))) (h1 : (z83 = 0 → p1 < (0 : Int) ∨ (f_q - 1) < p1)) (h2 : (0 : Int) ≤ p1 ∧ p1 ≤ (f_q - 1)) (h3 : f_k ≤ p2) (h4 : f_s = (-99999999)) (h5 : ¬ z83 = 0) (h6 : (-2147483648) ≤ f_k ∧ f_k ≤ 2147483647) (h7 : 0 ≤ f_q ∧ f_q ≤ 30) (h8 : (-99999999) ≤ f_s ∧ f_s ≤ (-99999999)) (h9 : 0 ≤ p1 ∧ p1 ≤ 2147483647) (h10 : (-2147483648) ≤ p2 ∧ p2 ≤ 2147483647) (h11 : 1 ≤ z83 ∧ z83 ≤ 1) : p1 < f_q := by omega
theorem vc_X12_strike_v_15 {f_k f_q f_s p1 p2 z83 : Int} (h0 : (z83 = 1 → (0 : Int) ≤ p1 ∧ p1 ≤ (f_q - 1))) (h1 : (z83 = 0 → p1 < (0 : Int) ∨ (f_q - 1) < p1)) (h2 : (0 : Int) ≤ p1 ∧ p1 ≤ (f_q - 1)) (h3 : f_k ≤ p2) (h4 : f_s = (-99999999)) (h5 : ¬ z83 = 0) (h6 : (-2147483648) ≤ f_k ∧ f_k ≤ 2147483647) (h7 : 0 ≤ f_q ∧ f_q ≤ 30) (h8 : (-99999999) ≤ f_s ∧ f_s ≤ (-99999999)) (h9 : 0 ≤ p1 ∧ p1 ≤ 2147483647) (h10 : (-2147483648) ≤ p2 ∧ p2 ≤ 2147483647) (h11 : 1 ≤ z83 ∧ z83 ≤ 1) : f_k ≤ p2 := by omega
theorem vc_X12_strike_v_16 {f_k f_q f_s p1 p2 z83 : Int} (h0 : (z83 = 1 → (0 : Int) ≤ p1 ∧ p1 ≤ (f_q - 1))) (h1 : (z83 = 0 → p1 < (0 : Int) ∨ (f_q - 1) < p1)) (h2 : (0 : Int) ≤ p1 ∧ p1 ≤ (f_q - 1)) (h3 : f_k ≤ p2) (h4 : f_s = (-99999999)) (h5 : ¬ z83 = 0) (h6 : (-2147483648) ≤ f_k ∧ f_k ≤ 2147483647) (h7 : 0 ≤ f_q ∧ f_q ≤ 30) (h8 : (-99999999) ≤ f_s ∧ f_s ≤ (-99999999)) (h9 : 0 ≤ p1 ∧ p1 ≤ 2147483647) (h10 : (-2147483648) ≤ p2 ∧ p2 ≤ 2147483647) (h11 : 1 ≤ z83 ∧ z83 ≤ 1) : f_s = (-99999999) := by omega
theorem vc_X12_strike_v_18 {f_k f_q f_s p1 p2 z83 : Int} (h0 : (z83 = 1 → (0 : Int) ≤ p1 ∧ p1 ≤ (f_q - 1))) (h1 : (z83 = 0 → p1 < (0 : Int) ∨ (f_q - 1) < p1)) (h2 : (0 : Int) ≤ p1 ∧ p1 ≤ (f_q - 1)) (h3 : f_k ≤ p2) (h4 : ¬ f_s = (-99999999)) (h5 : ¬ z83 = 0) (h6 : (-2147483648) ≤ f_k ∧ f_k ≤ 2147483647) (h7 : 0 ≤ f_q ∧ f_q ≤ 30) (h8 : (-2147483648) ≤ f_s ∧ f_s ≤ 2147483647) (h9 : 0 ≤ p1 ∧ p1 ≤ 2147483647) (h10 : (-2147483648) ≤ p2 ∧ p2 ≤ 2147483647) (h11 : 1 ≤ z83 ∧ z83 ≤ 1) : 0 ≤ p1 := by omega
theorem vc_X12_strike_v_19 {f_k f_q f_s p1 p2 z83 : Int} (h0 : (z83 = 1 → (0 : Int) ≤ p1 ∧ p1 ≤ (f_q - 1))) (h1 : (z83 = 0 → p1 < (0 : Int) ∨ (f_q - 1) < p1)) (h2 : (0 : Int) ≤ p1 ∧ p1 ≤ (f_q - 1)) (h3 : f_k ≤ p2) (h4 : ¬ f_s = (-99999999)) (h5 : ¬ z83 = 0) (h6 : (-2147483648) ≤ f_k ∧ f_k ≤ 2147483647) (h7 : 0 ≤ f_q ∧ f_q ≤ 30) (h8 : (-2147483648) ≤ f_s ∧ f_s ≤ 2147483647) (h9 : 0 ≤ p1 ∧ p1 ≤ 2147483647) (h10 : (-2147483648) ≤ p2 ∧ p2 ≤ 2147483647) (h11 : 1 ≤ z83 ∧ z83 ≤ 1) : p1 < f_q := by omega
theorem vc_X12_strike_v_20 {f_k f_q f_s p1 p2 z83 : Int} (h0 : (z83 = 1 → (0 : Int) ≤ p1 ∧ p1 ≤ (f_q - 1))) (h1 : (z83 = 0 → p1 < (0 : Int) ∨ (f_q - 1) < p1)) (h2 : (0 : Int) ≤ p1 ∧ p1 ≤ (f_q - 1)) (h3 : f_k ≤ p2) (h4 : ¬ f_s = (-99999999)) (h5 : ¬ z83 = 0) (h6 : (-2147483648) ≤ f_k ∧ f_k ≤ 2147483647) (h7 : 0 ≤ f_q ∧ f_q ≤ 30) (h8 : (-2147483648) ≤ f_s ∧ f_s ≤ 2147483647) (h9 : 0 ≤ p1 ∧ p1 ≤ 2147483647) (h10 : (-2147483648) ≤ p2 ∧ p2 ≤ 2147483647) (h11 : 1 ≤ z83 ∧ z83 ≤ 1) : f_k ≤ p2 := by omega
theorem vc_X12_strike_v_21 {f_k f_q f_s p1 p2 z83 : Int} (h0 : (z83 = 1 → (0 : Int) ≤ p1 ∧ p1 ≤ (f_q - 1))) (h1 : (z83 = 0 → p1 < (0 : Int) ∨ (f_q - 1) < p1)) (h2 : (0 : Int) ≤ p1 ∧ p1 ≤ (f_q - 1)) (h3 : f_k ≤ p2) (h4 : ¬ f_s = (-99999999)) (h5 : ¬ z83 = 0) (h6 : (-2147483648) ≤ f_k ∧ f_k ≤ 2147483647) (h7 : 0 ≤ f_q ∧ f_q ≤ 30) (h8 : (-2147483648) ≤ f_s ∧ f_s ≤ 2147483647) (h9 : 0 ≤ p1 ∧ p1 ≤ 2147483647) (h10 : (-2147483648) ≤ p2 ∧ p2 ≤ 2147483647) (h11 : 1 ≤ z83 ∧ z83 ≤ 1) : ¬ f_s = (-99999999) := by omega
theorem vc_X12_strike_v_24 {f_k f_q f_s p1 p2 z83 : Int} (h0 : (z83 = 1 → (0 : Int) ≤ p1 ∧ p1 ≤ (f_q - 1))) (h1 : (z83 = 0 → p1 < (0 : Int) ∨ (f_q - 1) < p1)) (h2 : (0 : Int) ≤ p1 ∧ p1 ≤ (f_q - 1)) (h3 : p2 < f_k) (h4 : ¬ z83 = 0) (h5 : (-2147483647) ≤ f_k ∧ f_k ≤ 2147483647) (h6 : 0 ≤ f_q ∧ f_q ≤ 30) (h7 : (-2147483648) ≤ f_s ∧ f_s ≤ 2147483647) (h8 : 0 ≤ p1 ∧ p1 ≤ 2147483647) (h9 : (-2147483648) ≤ p2 ∧ p2 ≤ 2147483646) (h10 : 1 ≤ z83 ∧ z83 ≤ 1) : p1 < 0 ∨ f_q ≤ p1 ∨ p2 < f_k := by omega
set_option maxRecDepth 4000 in
set_option maxHeartbeats 4000000 in
theorem c_X12_strike_v {l : Launch} {D : va_G} {c : Nat → ClassId} {H0 : Heap} {sa : Nat × Nat × (Nat → Int32)} {w : mW} {μ : mM} (hw : mWF w) (hT : mT w μ) {p1 : Int} (hp1 : (-2147483648) ≤ p1 ∧ p1 ≤ 2147483647) {p2 : Int} (hp2 : (-2147483648) ≤ p2 ∧ p2 ≤ 2147483647) {f_q : Int} (q_f_q : μ 106 18 = f_q) {f_k : Int} (q_f_k : μ 124 (p1.toNat) = f_k) {f_s : Int} (q_f_s : μ 125 (p1.toNat) = f_s) (hIJC : JC l D c H0 sa μ) (hIRP : RP μ) (hIEP : EP μ) (hIHP : HP μ) (hIUP : UP l D c H0 sa μ) (hIG1 : G1 μ) (hIEV : EV μ) (hIPK : PK μ) : sC (gG l D c H0 sa) mX12_strike 13 0 0 [.ref 106, iv p1, iv p2] (mk w μ) (qI w [106026, 106027, 106028, 106029, 106030, 106031, 106072, 125999, 126999, 151999, 152999, 153999, 155999, 156999, 157999, 158999, 159999, 160999, 161999, 165999] μ (fun z μ1 => ((-2147483648) ≤ z ∧ z ≤ 2147483647) ∧ JC l D c H0 sa μ1 ∧ RP μ1 ∧ EP μ1 ∧ HP μ1 ∧ UP l D c H0 sa μ1 ∧ G1 μ1 ∧ EV μ1 ∧ (skT μ μ1 124 125 f_q p1 p2 (-99999999) z) ∧ True)) := by
  refine sC.of rfl (by decide) (le_t rfl) ?_
  have ht_f_q : (0 ≤ f_q ∧ f_q ≤ 30) := by rw [← q_f_q]; exact hT 106 106 (A_106 hw) 18
  have ht_f_k : ((-2147483648) ≤ f_k ∧ f_k ≤ 2147483647) := by rw [← q_f_k]; exact hT 124 124 (A_124 hw) (p1.toNat)
  have ht_f_s : ((-2147483648) ≤ f_s ∧ f_s ≤ 2147483647) := by rw [← q_f_s]; exact hT 125 125 (A_125 hw) (p1.toNat)
  refine mr_lvE (lv' := [(0, .ref 106), (1, iv p1), (2, iv p2)]) rfl ?_
  refine mr_iload_n (pc := 0) (z := p1) dX12_strike_0 rfl rfl ?_
  refine mr_iconst (pc := 1) (z := 0) dX12_strike_1 ?_
  refine sv_aload_n (pc := 2) dX12_strike_2 rfl rfl ?_
  refine gk_X12_18 (pc := 3) dX12_strike_3 wF_X12_95 (A_106 hw) q_f_q ?_
  refine mr_iconst (pc := 6) (z := 1) dX12_strike_6 ?_
  refine mr_isub (pc := 7) (x := f_q) (y := 1) dX12_strike_7 ?_
  refine mr_cSP (pc := 8) (c_X12_in hw hT hp1 (rW (c := (-2147483648)) (d := 2147483647) (rR (x := 0)) rfl) (rW (c := (-2147483648)) (d := 2147483647) (rSub (e := (-1)) (f := 29) ht_f_q (rR (x := 1)) rfl) rfl)) (gOk _ _ _ _ _) dX12_strike_8 (tX12_in _ _ _ _ _) wS_X12_in wM_X12_18 ⟨le_t rfl, le_t rfl⟩ ⟨le_t rfl, le_t rfl⟩ rfl (le_t rfl) fun z83 h82 => ?_
  refine mr_if_eq (pc := 11) (tgt := 24) dX12_strike_11 (by decide) (r32 h82.1 rfl) (fun h84 => ?_) (fun h84 => ?_)
  · have h85 : 0 ≤ z83 ∧ z83 ≤ 0 := (vc_X12_strike_v_1 h84 h82.2.1 h82.2.2.1 ht_f_q hp1 h82.1)
    have h86 : p1 < (0 : Int) ∨ (f_q - 1) < p1 := (h82.2.2.1 (vc_X12_strike_v_2 h82.2.1 h82.2.2.1 h84 ht_f_q hp1 h85))
    refine mr_iconst (pc := 24) (z := (-1)) dX12_strike_24 ?_
    exact mr_iret dX12_strike_25 rfl (le_t rfl) (le_t rfl) hT mF.refl ⟨(rW (c := (-2147483648)) (d := 2147483647) (rR (x := (-1))) rfl), hIJC, hIRP, hIEP, hIHP, hIUP, hIG1, hIEV, (Or.inl ⟨(by rw [q_f_k]; exact (vc_X12_strike_v_3 h82.2.1 h82.2.2.1 h86 h84 ht_f_k ht_f_q ht_f_s hp1 hp2 h85)), rfl, rfl⟩), trivial⟩
  have h87 : 1 ≤ z83 ∧ z83 ≤ 1 := (vc_X12_strike_v_4 h84 h82.2.1 h82.2.2.1 ht_f_q hp1 h82.1)
  have h88 : (0 : Int) ≤ p1 ∧ p1 ≤ (f_q - 1) := (h82.2.1 (vc_X12_strike_v_5 h82.2.1 h82.2.2.1 h84 ht_f_q hp1 h87))
  have h89 : 0 ≤ p1 ∧ p1 ≤ 2147483647 := (vc_X12_strike_v_6 h88 h82.2.1 h82.2.2.1 ht_f_q hp1 h87)
  refine mr_iload_n (pc := 14) (z := p2) dX12_strike_14 rfl rfl ?_
  refine sv_aload_n (pc := 15) dX12_strike_15 rfl rfl ?_
  refine gf_X12_24 (pc := 16) dX12_strike_16 wF_X12_113 (A_106 hw) hT ?_
  refine mr_iload_n (pc := 19) (z := p1) dX12_strike_19 rfl rfl ?_
  refine lk_124 (pc := 20) dX12_strike_20 (A_124 hw) (vc_X12_strike_v_7 h82.2.1 h82.2.2.1 h88 h84 ht_f_q h89 h87) q_f_k ?_
  refine mr_icmp_ge (pc := 21) (tgt := 26) dX12_strike_21 (by decide) hp2 ht_f_k (fun h90 => ?_) (fun h90 => ?_)
  · refine sv_aload_n (pc := 26) dX12_strike_26 rfl rfl ?_
    refine gf_X12_25 (pc := 27) dX12_strike_27 wF_X12_116 (A_106 hw) hT ?_
    refine mr_iload_n (pc := 30) (z := p1) dX12_strike_30 rfl rfl ?_
    refine lk_125 (pc := 31) dX12_strike_31 (A_125 hw) (vc_X12_strike_v_7 h82.2.1 h82.2.2.1 h88 h84 ht_f_q h89 h87) q_f_s ?_
    refine mr_ldc (pc := 32) (z := (-99999999)) dX12_strike_32 wG_X12_29 (by decide) ?_
    refine mr_icmp_eq (pc := 34) (tgt := 40) dX12_strike_34 (by decide) ht_f_s (r32 (rR (x := (-99999999))) rfl) (fun h91 => ?_) (fun h91 => ?_)
    · have h92 : (-99999999) ≤ f_s ∧ f_s ≤ (-99999999) := (vc_X12_least_36 h91 ht_f_s)
      refine sv_aload_n (pc := 40) dX12_strike_40 rfl rfl ?_
      refine gf_X12_25 (pc := 41) dX12_strike_41 wF_X12_116 (A_106 hw) hT ?_
      refine mr_iload_n (pc := 44) (z := p1) dX12_strike_44 rfl rfl ?_
      refine mr_iload_n (pc := 45) (z := p2) dX12_strike_45 rfl rfl ?_
      refine ss_125 (pc := 46) dX12_strike_46 (A_125 hw) hT (vc_X12_strike_v_7 h82.2.1 h82.2.2.1 h88 h84 ht_f_q h89 h87) hp2 fun μ93 u94 T95 => ?_
      refine sv_aload_n (pc := 47) dX12_strike_47 rfl rfl ?_
      refine mr_iconst (pc := 48) (z := 0) dX12_strike_48 ?_
      refine pf_X12_26 (pc := 49) dX12_strike_49 wF_X12_119 (A_106 hw) T95 (rW (c := 0) (d := 1) (rR (x := 0)) rfl) fun μ96 u97 T98 => ?_
      have I99 : JC l D c H0 sa μ96 := JC.zero u97.1
      refine sv_aload_n (pc := 52) dX12_strike_52 rfl rfl ?_
      obtain ⟨z100, q101⟩ : ∃ z, μ96 106 2 = z := ⟨_, rfl⟩
      have h102 : (0 ≤ z100 ∧ z100 ≤ 10) := by rw [← q101]; exact T98 106 106 (A_106 hw) 2
      refine mr_cVV (pc := 53) (c_X12_rethink_u hw T98 q101 I99 (RP.keep hIRP hw ((mF.up (mF.up mF.refl (A_125 hw) u94 rfl) (A_106 hw) u97 rfl) : mF [106026, 125999] w μ μ96) rfl ((mG.upO (mG.upO mG.refl u94 rfl) u97 rfl) : mG [] μ μ96) (fun _ h => absurd h List.not_mem_nil)) (EP.keep hIEP hw ((mF.up (mF.up mF.refl (A_125 hw) u94 rfl) (A_106 hw) u97 rfl) : mF [106026, 125999] w μ μ96) rfl) (G1.keep hIG1 hw ((mF.up (mF.up mF.refl (A_125 hw) u94 rfl) (A_106 hw) u97 rfl) : mF [106026, 125999] w μ μ96) rfl rfl ((mG.upO (mG.upO mG.refl u94 rfl) u97 rfl) : mG [] μ μ96) (fun _ h => absurd h List.not_mem_nil)) (EV.keep hIEV hw ((mF.up (mF.up mF.refl (A_125 hw) u94 rfl) (A_106 hw) u97 rfl) : mF [106026, 125999] w μ μ96) rfl) (PK.keep hIPK hw ((mF.up (mF.up mF.refl (A_125 hw) u94 rfl) (A_106 hw) u97 rfl) : mF [106026, 125999] w μ μ96) rfl)) (gOk _ _ _ _ _) dX12_strike_53 (tX12_rethink _ _ _ _ _) ⟨wV_X12_rethink, wL_X12_rethink⟩ wM_X12_88 (gCX12 _ _ _ _ _) rfl (A_106 hw) rfl ⟨le_t rfl, le_t rfl⟩ ⟨le_t rfl, le_t rfl⟩ rfl (le_t rfl) fun μ103 T104 F105 h106 => ?_
      refine mr_iconst (pc := 56) (z := 0) dX12_strike_56 ?_
      exact mr_iret dX12_strike_57 rfl (le_t rfl) (le_t rfl) T104 (mF.call (mF.up (mF.up mF.refl (A_125 hw) u94 rfl) (A_106 hw) u97 rfl) F105 rfl) ⟨(rW (c := (-2147483648)) (d := 2147483647) (rR (x := 0)) rfl), h106.2.1, h106.2.2.1, h106.2.2.2.1, (HP.keep hIHP hw ((mF.call (mF.up (mF.up mF.refl (A_125 hw) u94 rfl) (A_106 hw) u97 rfl) F105 rfl) : mF [106026, 106027, 106028, 106029, 106030, 106031, 106072, 125999, 126999, 151999, 152999, 153999, 155999, 156999, 157999, 158999, 159999, 160999, 161999, 165999] w μ μ103) rfl ((mG.call (mG.upO (mG.upO mG.refl u94 rfl) u97 rfl) h106.1 (List.forall_mem_cons.mpr ⟨⟨_, List.mem_cons_self, vc_X12_rethink_u_5⟩, (List.forall_mem_cons.mpr ⟨⟨_, (List.mem_cons_of_mem _ List.mem_cons_self), vc_X12_say_u_34⟩, (fun _ h => absurd h List.not_mem_nil)⟩)⟩)) : mG [(80, 5200), (21200, 53200)] μ μ103) (List.forall_mem_cons.mpr ⟨vc_X12_today_u_5, (List.forall_mem_cons.mpr ⟨vc_X12_look_u_55, (fun _ h => absurd h List.not_mem_nil)⟩)⟩)), h106.2.2.2.2.2.2.1, h106.2.2.2.2.1, h106.2.2.2.2.2.1, (Or.inr ⟨⟨(vc_X12_strike_v_13 h82.2.1 h82.2.2.1 h88 h90 h91 h84 ht_f_k ht_f_q h92 h89 hp2 h87), (vc_X12_strike_v_14 h82.2.1 h82.2.2.1 h88 h90 h91 h84 ht_f_k ht_f_q h92 h89 hp2 h87), (by rw [q_f_k]; exact (vc_X12_strike_v_15 h82.2.1 h82.2.2.1 h88 h90 h91 h84 ht_f_k ht_f_q h92 h89 hp2 h87))⟩, Or.inr ⟨(by rw [q_f_s]; exact (vc_X12_strike_v_16 h82.2.1 h82.2.2.1 h88 h90 h91 h84 ht_f_k ht_f_q h92 h89 hp2 h87)), rfl, (tabS.fr (tabS.oth (tabS.oth tabS.refl u94 rfl) u97 rfl) F105 (A_124 hw) rfl rfl), (one.fr (one.oth (one.up one.refl (vc_X12_strike_v_13 h82.2.1 h82.2.2.1 h88 h90 h91 h84 ht_f_k ht_f_q h92 h89 hp2 h87) u94) u97 rfl) F105 (A_125 hw) rfl rfl), (F105.f (A_125 hw) rfl (u97.f (Or.inl (mAt.ne (A_106 hw) (A_125 hw) rfl)) u94.1)).trans (vc_X11_strike_v_12 h90 ht_f_k hp2)⟩⟩), trivial⟩
    refine mr_bipush (pc := 37) (z := (-2)) dX12_strike_37 (by decide) ?_
    exact mr_iret dX12_strike_39 rfl (le_t rfl) (le_t rfl) hT mF.refl ⟨(rW (c := (-2147483648)) (d := 2147483647) (rR (x := (-2))) rfl), hIJC, hIRP, hIEP, hIHP, hIUP, hIG1, hIEV, (Or.inr ⟨⟨(vc_X12_strike_v_18 h82.2.1 h82.2.2.1 h88 h90 h91 h84 ht_f_k ht_f_q ht_f_s h89 hp2 h87), (vc_X12_strike_v_19 h82.2.1 h82.2.2.1 h88 h90 h91 h84 ht_f_k ht_f_q ht_f_s h89 hp2 h87), (by rw [q_f_k]; exact (vc_X12_strike_v_20 h82.2.1 h82.2.2.1 h88 h90 h91 h84 ht_f_k ht_f_q ht_f_s h89 hp2 h87))⟩, Or.inl ⟨(by rw [q_f_s]; exact (vc_X12_strike_v_21 h82.2.1 h82.2.2.1 h88 h90 h91 h84 ht_f_k ht_f_q ht_f_s h89 hp2 h87)), rfl, rfl⟩⟩), trivial⟩
  have h107 : (-2147483648) ≤ p2 ∧ p2 ≤ 2147483646 := (vc_X7_addMark_16 h90 ht_f_k hp2)
  have h108 : (-2147483647) ≤ f_k ∧ f_k ≤ 2147483647 := (vc_X7_addMark_17 h90 ht_f_k h107)
  refine mr_iconst (pc := 24) (z := (-1)) dX12_strike_24 ?_
  exact mr_iret dX12_strike_25 rfl (le_t rfl) (le_t rfl) hT mF.refl ⟨(rW (c := (-2147483648)) (d := 2147483647) (rR (x := (-1))) rfl), hIJC, hIRP, hIEP, hIHP, hIUP, hIG1, hIEV, (Or.inl ⟨(by rw [q_f_k]; exact (vc_X12_strike_v_24 h82.2.1 h82.2.2.1 h88 h90 h84 h108 ht_f_q ht_f_s h89 h107 h87)), rfl, rfl⟩), trivial⟩
theorem vc_X12_verdict_v_1 {f_n p1 z65 : Int} (h0 : z65 = 0) (h1 : (z65 = 1 → 0 ≤ p1 ∧ p1 < f_n)) (h2 : (z65 = 0 → p1 < 0 ∨ f_n ≤ p1)) (h3 : 0 ≤ f_n ∧ f_n ≤ 10) (h4 : (-2147483648) ≤ p1 ∧ p1 ≤ 2147483647) (h5 : 0 ≤ z65 ∧ z65 ≤ 1) : 0 ≤ z65 ∧ z65 ≤ 0 := by omega
theorem vc_X12_verdict_v_2 {f_n p1 z65 : Int} (h0 : (z65 = 1 → 0 ≤ p1 ∧ p1 < f_n)) (h1 : (z65 = 0 → p1 < 0 ∨ f_n ≤ p1)) (h2 : z65 = 0) (h3 : 0 ≤ f_n ∧ f_n ≤ 10) (h4 : (-2147483648) ≤ p1 ∧ p1 ≤ 2147483647) (h5 : 0 ≤ z65 ∧ z65 ≤ 0) : z65 = 0 := by omega
theorem vc_X12_verdict_v_3 {f_n p1 p3 p4 z65 : Int} (h0 : (z65 = 1 → 0 ≤ p1 ∧ p1 < f_n)) (h1 : (z65 = 0 → p1 < 0 ∨ f_n ≤ p1)) (h2 : p1 < 0 ∨ f_n ≤ p1) (h3 : z65 = 0) (h4 : 0 ≤ f_n ∧ f_n ≤ 10) (h5 : (-2147483648) ≤ p1 ∧ p1 ≤ 2147483647) (h6 : (-2147483648) ≤ p3 ∧ p3 ≤ 2147483647) (h7 : (-2147483648) ≤ p4 ∧ p4 ≤ 2147483647) (h8 : 0 ≤ z65 ∧ z65 ≤ 0) : p1 < 0 ∨ f_n ≤ p1 ∨ p3 < 0 ∨ p4 < 0 := by omega
theorem vc_X12_verdict_v_4 {f_n p1 z65 : Int} (h0 : ¬ z65 = 0) (h1 : (z65 = 1 → 0 ≤ p1 ∧ p1 < f_n)) (h2 : (z65 = 0 → p1 < 0 ∨ f_n ≤ p1)) (h3 : 0 ≤ f_n ∧ f_n ≤ 10) (h4 : (-2147483648) ≤ p1 ∧ p1 ≤ 2147483647) (h5 : 0 ≤ z65 ∧ z65 ≤ 1) : 1 ≤ z65 ∧ z65 ≤ 1 := by omega
theorem vc_X12_verdict_v_5 {f_n p1 z65 : Int} (h0 : (z65 = 1 → 0 ≤ p1 ∧ p1 < f_n)) (h1 : (z65 = 0 → p1 < 0 ∨ f_n ≤ p1)) (h2 : ¬ z65 = 0) (h3 : 0 ≤ f_n ∧ f_n ≤ 10) (h4 : (-2147483648) ≤ p1 ∧ p1 ≤ 2147483647) (h5 : 1 ≤ z65 ∧ z65 ≤ 1) : z65 = 1 := by omega
theorem vc_X12_verdict_v_6 {f_n p1 z65 : Int} (h0 : 0 ≤ p1 ∧ p1 < f_n) (h1 : (z65 = 1 → 0 ≤ p1 ∧ p1 < f_n)) (h2 : (z65 = 0 → p1 < 0 ∨ f_n ≤ p1)) (h3 : 0 ≤ f_n ∧ f_n ≤ 10) (h4 : (-2147483648) ≤ p1 ∧ p1 ≤ 2147483647) (h5 : 1 ≤ z65 ∧ z65 ≤ 1) : 0 ≤ p1 ∧ p1 ≤ 9 := by omega
theorem vc_X12_verdict_v_7 {f_n p1 z65 : Int} (h0 : 0 ≤ p1 ∧ p1 < f_n) (h1 : (z65 = 1 → 0 ≤ p1 ∧ p1 < f_n)) (h2 : (z65 = 0 → p1 < 0 ∨ f_n ≤ p1)) (h3 : 0 ≤ f_n ∧ f_n ≤ 10) (h4 : 0 ≤ p1 ∧ p1 ≤ 9) (h5 : 1 ≤ z65 ∧ z65 ≤ 1) : 1 ≤ f_n ∧ f_n ≤ 10 := by omega
theorem vc_X12_verdict_v_9 {f_n p1 p3 p4 z65 : Int} (h0 : (z65 = 1 → 0 ≤ p1 ∧ p1 < f_n)) (h1 : (z65 = 0 → p1 < 0 ∨ f_n ≤ p1)) (h2 : 0 ≤ p1 ∧ p1 < f_n) (h3 : p3 < 0) (h4 : ¬ z65 = 0) (h5 : 1 ≤ f_n ∧ f_n ≤ 10) (h6 : 0 ≤ p1 ∧ p1 ≤ 9) (h7 : (-2147483648) ≤ p3 ∧ p3 ≤ (-1)) (h8 : (-2147483648) ≤ p4 ∧ p4 ≤ 2147483647) (h9 : 1 ≤ z65 ∧ z65 ≤ 1) : p1 < 0 ∨ f_n ≤ p1 ∨ p3 < 0 ∨ p4 < 0 := by omega
theorem vc_X12_verdict_v_12 {f_n p1 z65 : Int} (h0 : (z65 = 1 → 0 ≤ p1 ∧ p1 < f_n)) (h1 : (z65 = 0 → p1 < 0 ∨ f_n ≤ p1)) (h2 : 0 ≤ p1 ∧ p1 < f_n) (h3 : ¬ z65 = 0) (h4 : 1 ≤ f_n ∧ f_n ≤ 10) (h5 : 0 ≤ p1 ∧ p1 ≤ 9) (h6 : 1 ≤ z65 ∧ z65 ≤ 1) : p1 < f_n := by omega
theorem vc_X12_verdict_v_13 {f_n p1 p3 p4 z65 : Int} (h0 : (z65 = 1 → 0 ≤ p1 ∧ p1 < f_n)) (h1 : (z65 = 0 → p1 < 0 ∨ f_n ≤ p1)) (h2 : 0 ≤ p1 ∧ p1 < f_n) (h3 : 0 ≤ p3) (h4 : 0 ≤ p4) (h5 : ¬ z65 = 0) (h6 : 1 ≤ f_n ∧ f_n ≤ 10) (h7 : 0 ≤ p1 ∧ p1 ≤ 9) (h8 : 0 ≤ p3 ∧ p3 ≤ 2147483647) (h9 : 0 ≤ p4 ∧ p4 ≤ 2147483647) (h10 : 1 ≤ z65 ∧ z65 ≤ 1) : ¬ (p1 < 0 ∨ f_n ≤ p1 ∨ p3 < 0 ∨ p4 < 0) := by omega
theorem vc_X12_verdict_v_15 {f_n p1 p3 p4 z65 : Int} (h0 : (z65 = 1 → 0 ≤ p1 ∧ p1 < f_n)) (h1 : (z65 = 0 → p1 < 0 ∨ f_n ≤ p1)) (h2 : 0 ≤ p1 ∧ p1 < f_n) (h3 : 0 ≤ p3) (h4 : p4 < 0) (h5 : ¬ z65 = 0) (h6 : 1 ≤ f_n ∧ f_n ≤ 10) (h7 : 0 ≤ p1 ∧ p1 ≤ 9) (h8 : 0 ≤ p3 ∧ p3 ≤ 2147483647) (h9 : (-2147483648) ≤ p4 ∧ p4 ≤ (-1)) (h10 : 1 ≤ z65 ∧ z65 ≤ 1) : p1 < 0 ∨ f_n ≤ p1 ∨ p3 < 0 ∨ p4 < 0 := by omega
set_option maxRecDepth 4000 in
set_option maxHeartbeats 4000000 in
theorem c_X12_verdict_v {l : Launch} {D : va_G} {c : Nat → ClassId} {H0 : Heap} {sa : Nat × Nat × (Nat → Int32)} {w : mW} {μ : mM} (hw : mWF w) (hT : mT w μ) {p1 : Int} (hp1 : (-2147483648) ≤ p1 ∧ p1 ≤ 2147483647) {p2 : Int} (hp2 : (-2147483648) ≤ p2 ∧ p2 ≤ 2147483647) {p3 : Int} (hp3 : (-2147483648) ≤ p3 ∧ p3 ≤ 2147483647) {p4 : Int} (hp4 : (-2147483648) ≤ p4 ∧ p4 ≤ 2147483647) {f_n : Int} (q_f_n : μ 106 2 = f_n) (hIJC : JC l D c H0 sa μ) (hIRP : RP μ) (hIEP : EP μ) (hIHP : HP μ) (hIUP : UP l D c H0 sa μ) : sC (gG l D c H0 sa) mX12_verdict 5 0 0 [.ref 106, iv p1, iv p2, iv p3, iv p4] (mk w μ) (qI w [106026, 106027, 106028, 106029, 106030, 106031] μ (fun z μ1 => ((-2147483648) ≤ z ∧ z ≤ 2147483647) ∧ JC l D c H0 sa μ1 ∧ RP μ1 ∧ EP μ1 ∧ HP μ1 ∧ UP l D c H0 sa μ1 ∧ (vrA (p1 < 0 ∨ f_n ≤ p1 ∨ p3 < 0 ∨ p4 < 0) (vR μ p1 p2 p3 p4) z) ∧ True)) := by
  refine sC.of rfl (by decide) (le_t rfl) ?_
  have ht_f_n : (0 ≤ f_n ∧ f_n ≤ 10) := by rw [← q_f_n]; exact hT 106 106 (A_106 hw) 2
  refine mr_lvE (lv' := [(0, .ref 106), (1, iv p1), (2, iv p2), (3, iv p3), (4, iv p4)]) rfl ?_
  refine sv_aload_n (pc := 0) dX12_verdict_0 rfl rfl ?_
  refine mr_iload_n (pc := 1) (z := p1) dX12_verdict_1 rfl rfl ?_
  refine mr_cVP (pc := 2) (c_X12_isPrefix hw hT hp1 q_f_n) (gOk _ _ _ _ _) dX12_verdict_2 (tX12_isPrefix _ _ _ _ _) ⟨wV_X12_isPrefix, wL_X12_isPrefix⟩ wM_X12_92 (gCX12 _ _ _ _ _) rfl (A_106 hw) rfl ⟨le_t rfl, le_t rfl⟩ ⟨le_t rfl, le_t rfl⟩ rfl (le_t rfl) fun z65 h64 => ?_
  refine mr_if_eq (pc := 5) (tgt := 17) dX12_verdict_5 (by decide) (r32 h64.1 rfl) (fun h66 => ?_) (fun h66 => ?_)
  · have h67 : 0 ≤ z65 ∧ z65 ≤ 0 := (vc_X12_verdict_v_1 h66 h64.2.1 h64.2.2.1 ht_f_n hp1 h64.1)
    have h68 : p1 < 0 ∨ f_n ≤ p1 := (h64.2.2.1 (vc_X12_verdict_v_2 h64.2.1 h64.2.2.1 h66 ht_f_n hp1 h67))
    refine mr_iconst (pc := 17) (z := (-1)) dX12_verdict_17 ?_
    exact mr_iret dX12_verdict_18 rfl (le_t rfl) (le_t rfl) hT mF.refl ⟨(rW (c := (-2147483648)) (d := 2147483647) (rR (x := (-1))) rfl), hIJC, hIRP, hIEP, hIHP, hIUP, (Or.inl ⟨(vc_X12_verdict_v_3 h64.2.1 h64.2.2.1 h68 h66 ht_f_n hp1 hp3 hp4 h67), rfl⟩), trivial⟩
  have h69 : 1 ≤ z65 ∧ z65 ≤ 1 := (vc_X12_verdict_v_4 h66 h64.2.1 h64.2.2.1 ht_f_n hp1 h64.1)
  have h70 : 0 ≤ p1 ∧ p1 < f_n := (h64.2.1 (vc_X12_verdict_v_5 h64.2.1 h64.2.2.1 h66 ht_f_n hp1 h69))
  have h71 : 0 ≤ p1 ∧ p1 ≤ 9 := (vc_X12_verdict_v_6 h70 h64.2.1 h64.2.2.1 ht_f_n hp1 h69)
  have h72 : 1 ≤ f_n ∧ f_n ≤ 10 := (vc_X12_verdict_v_7 h70 h64.2.1 h64.2.2.1 ht_f_n h71 h69)
  refine mr_iload_n (pc := 8) (z := p3) dX12_verdict_8 rfl rfl ?_
  refine mr_if_lt (pc := 9) (tgt := 17) dX12_verdict_9 (by decide) hp3 (fun h73 => ?_) (fun h73 => ?_)
  · have h74 : (-2147483648) ≤ p3 ∧ p3 ≤ (-1) := (vc_X12_cut_1 h73 hp3)
    refine mr_iconst (pc := 17) (z := (-1)) dX12_verdict_17 ?_
    exact mr_iret dX12_verdict_18 rfl (le_t rfl) (le_t rfl) hT mF.refl ⟨(rW (c := (-2147483648)) (d := 2147483647) (rR (x := (-1))) rfl), hIJC, hIRP, hIEP, hIHP, hIUP, (Or.inl ⟨(vc_X12_verdict_v_9 h64.2.1 h64.2.2.1 h70 h73 h66 h72 h71 h74 hp4 h69), rfl⟩), trivial⟩
  have h75 : 0 ≤ p3 ∧ p3 ≤ 2147483647 := (vc_X12_cut_2 h73 hp3)
  refine mr_iload (pc := 12) (z := p4) dX12_verdict_12 rfl ?_
  refine mr_if_ge (pc := 14) (tgt := 19) dX12_verdict_14 (by decide) hp4 (fun h76 => ?_) (fun h76 => ?_)
  · have h77 : 0 ≤ p4 ∧ p4 ≤ 2147483647 := (vc_X12_cut_2 h76 hp4)
    refine sv_aload_n (pc := 19) dX12_verdict_19 rfl rfl ?_
    refine mr_iload_n (pc := 20) (z := p1) dX12_verdict_20 rfl rfl ?_
    refine mr_iload_n (pc := 21) (z := p2) dX12_verdict_21 rfl rfl ?_
    refine mr_iload_n (pc := 22) (z := p3) dX12_verdict_22 rfl rfl ?_
    refine mr_iload (pc := 23) (z := p4) dX12_verdict_23 rfl ?_
    refine mr_cVI (pc := 25) (c_X12_judged_v hw hT h71 hp2 (rW (c := (-2147483648)) (d := 2147483647) h75 rfl) (rW (c := (-2147483648)) (d := 2147483647) h77 rfl) q_f_n (vc_X12_verdict_v_12 h64.2.1 h64.2.2.1 h70 h66 h72 h71 h69) hIJC) (gOk _ _ _ _ _) dX12_verdict_25 (tX12_judged _ _ _ _ _) ⟨wV_X12_judged, wL_X12_judged⟩ wM_X12_145 (gCX12 _ _ _ _ _) rfl (A_106 hw) rfl ⟨le_t rfl, le_t rfl⟩ ⟨le_t rfl, le_t rfl⟩ rfl (le_t rfl) fun z82 μ78 T79 F80 h81 => ?_
    exact mr_iret dX12_verdict_28 rfl (le_t rfl) (le_t rfl) T79 (mF.call mF.refl F80 rfl) ⟨(rW (c := (-2147483648)) (d := 2147483647) h81.1 rfl), h81.2.1, (RP.keep hIRP hw ((mF.call mF.refl F80 rfl) : mF [106026, 106027, 106028, 106029, 106030, 106031] w μ μ78) rfl ((mG.fr mG.refl F80 (A_126 hw) rfl) : mG [] μ μ78) (fun _ h => absurd h List.not_mem_nil)), (EP.keep hIEP hw ((mF.call mF.refl F80 rfl) : mF [106026, 106027, 106028, 106029, 106030, 106031] w μ μ78) rfl), (HP.keep hIHP hw ((mF.call mF.refl F80 rfl) : mF [106026, 106027, 106028, 106029, 106030, 106031] w μ μ78) rfl ((mG.fr mG.refl F80 (A_126 hw) rfl) : mG [] μ μ78) (fun _ h => absurd h List.not_mem_nil)), (UPg.fr hIUP hw T79 rfl ((mF.call mF.refl F80 rfl) : mF [106026, 106027, 106028, 106029, 106030, 106031] w μ μ78) rfl rfl rfl ((mG.fr mG.refl F80 (A_126 hw) rfl) : mG [] μ μ78) (fun _ h => absurd h List.not_mem_nil)), (Or.inr ⟨(vc_X12_verdict_v_13 h64.2.1 h64.2.2.1 h70 h73 h76 h66 h72 h71 h75 h77 h69), h81.2.2.1⟩), trivial⟩
  have h83 : (-2147483648) ≤ p4 ∧ p4 ≤ (-1) := (vc_X12_cut_1 h76 hp4)
  refine mr_iconst (pc := 17) (z := (-1)) dX12_verdict_17 ?_
  exact mr_iret dX12_verdict_18 rfl (le_t rfl) (le_t rfl) hT mF.refl ⟨(rW (c := (-2147483648)) (d := 2147483647) (rR (x := (-1))) rfl), hIJC, hIRP, hIEP, hIHP, hIUP, (Or.inl ⟨(vc_X12_verdict_v_15 h64.2.1 h64.2.2.1 h70 h73 h76 h66 h72 h71 h75 h83 h69), rfl⟩), trivial⟩
theorem vc_X10_verdictOn_v_13 {z3252 : Int} (h0 : z3252 = 0 ∨ z3252 = 2) (h1 : 0 ≤ z3252 ∧ z3252 ≤ 2) : z3252 = 0 ∨ z3252 = 2 := by omega
theorem vc_X10_verdictOn_v_16 {p3 p4 z3270 z3273 z3276 z3279 z3282 z3285 : Int} (h0 : p3 < z3270) (h1 : p4 < z3276) (h2 : z3285 < z3282) (h3 : (-2147483648) ≤ p3 ∧ p3 ≤ 2147483646) (h4 : (-2147483648) ≤ p4 ∧ p4 ≤ 2147483646) (h5 : (-2147483647) ≤ z3270 ∧ z3270 ≤ 2147483647) (h6 : (-2147483648) ≤ z3273 ∧ z3273 ≤ 2147483647) (h7 : (-2147483647) ≤ z3276 ∧ z3276 ≤ 2147483647) (h8 : (-2147483648) ≤ z3279 ∧ z3279 ≤ 2147483647) (h9 : 1 ≤ z3282 ∧ z3282 ≤ 32) (h10 : 0 ≤ z3285 ∧ z3285 ≤ 31) : ¬ (z3270 ≤ p3 ∧ p3 < z3273 ∧ z3276 ≤ p4 ∧ (z3279 = -1 ∨ p4 < z3279) ∧ z3282 ≤ z3285) := by omega
theorem vc_X10_verdictOn_v_17 {p3 p4 z3270 z3273 z3276 z3279 z3282 z3285 : Int} (h0 : p3 < z3270) (h1 : p4 < z3276) (h2 : z3282 ≤ z3285) (h3 : (-2147483648) ≤ p3 ∧ p3 ≤ 2147483646) (h4 : (-2147483648) ≤ p4 ∧ p4 ≤ 2147483646) (h5 : (-2147483647) ≤ z3270 ∧ z3270 ≤ 2147483647) (h6 : (-2147483648) ≤ z3273 ∧ z3273 ≤ 2147483647) (h7 : (-2147483647) ≤ z3276 ∧ z3276 ≤ 2147483647) (h8 : (-2147483648) ≤ z3279 ∧ z3279 ≤ 2147483647) (h9 : 0 ≤ z3282 ∧ z3282 ≤ 32) (h10 : 0 ≤ z3285 ∧ z3285 ≤ 32) : ¬ (z3270 ≤ p3 ∧ p3 < z3273 ∧ z3276 ≤ p4 ∧ (z3279 = -1 ∨ p4 < z3279) ∧ z3282 ≤ z3285) := by omega
theorem vc_X10_verdictOn_v_19 {p3 p4 z3270 z3273 z3276 z3279 z3282 z3285 : Int} (h0 : p3 < z3270) (h1 : z3276 ≤ p4) (h2 : z3279 = (-1)) (h3 : z3285 < z3282) (h4 : (-2147483648) ≤ p3 ∧ p3 ≤ 2147483646) (h5 : (-2147483648) ≤ p4 ∧ p4 ≤ 2147483647) (h6 : (-2147483647) ≤ z3270 ∧ z3270 ≤ 2147483647) (h7 : (-2147483648) ≤ z3273 ∧ z3273 ≤ 2147483647) (h8 : (-2147483648) ≤ z3276 ∧ z3276 ≤ 2147483647) (h9 : (-1) ≤ z3279 ∧ z3279 ≤ (-1)) (h10 : 1 ≤ z3282 ∧ z3282 ≤ 32) (h11 : 0 ≤ z3285 ∧ z3285 ≤ 31) : ¬ (z3270 ≤ p3 ∧ p3 < z3273 ∧ z3276 ≤ p4 ∧ (z3279 = -1 ∨ p4 < z3279) ∧ z3282 ≤ z3285) := by omega
theorem vc_X10_verdictOn_v_20 {p3 p4 z3270 z3273 z3276 z3279 z3282 z3285 : Int} (h0 : p3 < z3270) (h1 : z3276 ≤ p4) (h2 : z3279 = (-1)) (h3 : z3282 ≤ z3285) (h4 : (-2147483648) ≤ p3 ∧ p3 ≤ 2147483646) (h5 : (-2147483648) ≤ p4 ∧ p4 ≤ 2147483647) (h6 : (-2147483647) ≤ z3270 ∧ z3270 ≤ 2147483647) (h7 : (-2147483648) ≤ z3273 ∧ z3273 ≤ 2147483647) (h8 : (-2147483648) ≤ z3276 ∧ z3276 ≤ 2147483647) (h9 : (-1) ≤ z3279 ∧ z3279 ≤ (-1)) (h10 : 0 ≤ z3282 ∧ z3282 ≤ 32) (h11 : 0 ≤ z3285 ∧ z3285 ≤ 32) : ¬ (z3270 ≤ p3 ∧ p3 < z3273 ∧ z3276 ≤ p4 ∧ (z3279 = -1 ∨ p4 < z3279) ∧ z3282 ≤ z3285) := by omega
theorem vc_X10_verdictOn_v_21 {p3 p4 z3270 z3273 z3276 z3279 z3282 z3285 : Int} (h0 : p3 < z3270) (h1 : z3276 ≤ p4) (h2 : ¬ z3279 = (-1)) (h3 : z3279 ≤ p4) (h4 : z3285 < z3282) (h5 : (-2147483648) ≤ p3 ∧ p3 ≤ 2147483646) (h6 : (-2147483648) ≤ p4 ∧ p4 ≤ 2147483647) (h7 : (-2147483647) ≤ z3270 ∧ z3270 ≤ 2147483647) (h8 : (-2147483648) ≤ z3273 ∧ z3273 ≤ 2147483647) (h9 : (-2147483648) ≤ z3276 ∧ z3276 ≤ 2147483647) (h10 : (-2147483648) ≤ z3279 ∧ z3279 ≤ 2147483647) (h11 : 1 ≤ z3282 ∧ z3282 ≤ 32) (h12 : 0 ≤ z3285 ∧ z3285 ≤ 31) : ¬ (z3270 ≤ p3 ∧ p3 < z3273 ∧ z3276 ≤ p4 ∧ (z3279 = -1 ∨ p4 < z3279) ∧ z3282 ≤ z3285) := by omega
theorem vc_X10_verdictOn_v_22 {p3 p4 z3270 z3273 z3276 z3279 z3282 z3285 : Int} (h0 : p3 < z3270) (h1 : z3276 ≤ p4) (h2 : ¬ z3279 = (-1)) (h3 : z3279 ≤ p4) (h4 : z3282 ≤ z3285) (h5 : (-2147483648) ≤ p3 ∧ p3 ≤ 2147483646) (h6 : (-2147483648) ≤ p4 ∧ p4 ≤ 2147483647) (h7 : (-2147483647) ≤ z3270 ∧ z3270 ≤ 2147483647) (h8 : (-2147483648) ≤ z3273 ∧ z3273 ≤ 2147483647) (h9 : (-2147483648) ≤ z3276 ∧ z3276 ≤ 2147483647) (h10 : (-2147483648) ≤ z3279 ∧ z3279 ≤ 2147483647) (h11 : 0 ≤ z3282 ∧ z3282 ≤ 32) (h12 : 0 ≤ z3285 ∧ z3285 ≤ 32) : ¬ (z3270 ≤ p3 ∧ p3 < z3273 ∧ z3276 ≤ p4 ∧ (z3279 = -1 ∨ p4 < z3279) ∧ z3282 ≤ z3285) := by omega
theorem vc_X10_verdictOn_v_25 {p3 p4 z3270 z3273 z3276 z3279 z3282 z3285 : Int} (h0 : p3 < z3270) (h1 : z3276 ≤ p4) (h2 : ¬ z3279 = (-1)) (h3 : p4 < z3279) (h4 : z3285 < z3282) (h5 : (-2147483648) ≤ p3 ∧ p3 ≤ 2147483646) (h6 : (-2147483648) ≤ p4 ∧ p4 ≤ 2147483646) (h7 : (-2147483647) ≤ z3270 ∧ z3270 ≤ 2147483647) (h8 : (-2147483648) ≤ z3273 ∧ z3273 ≤ 2147483647) (h9 : (-2147483648) ≤ z3276 ∧ z3276 ≤ 2147483647) (h10 : (-2147483647) ≤ z3279 ∧ z3279 ≤ 2147483647) (h11 : 1 ≤ z3282 ∧ z3282 ≤ 32) (h12 : 0 ≤ z3285 ∧ z3285 ≤ 31) : ¬ (z3270 ≤ p3 ∧ p3 < z3273 ∧ z3276 ≤ p4 ∧ (z3279 = -1 ∨ p4 < z3279) ∧ z3282 ≤ z3285) := by omega
theorem vc_X10_verdictOn_v_26 {p3 p4 z3270 z3273 z3276 z3279 z3282 z3285 : Int} (h0 : p3 < z3270) (h1 : z3276 ≤ p4) (h2 : ¬ z3279 = (-1)) (h3 : p4 < z3279) (h4 : z3282 ≤ z3285) (h5 : (-2147483648) ≤ p3 ∧ p3 ≤ 2147483646) (h6 : (-2147483648) ≤ p4 ∧ p4 ≤ 2147483646) (h7 : (-2147483647) ≤ z3270 ∧ z3270 ≤ 2147483647) (h8 : (-2147483648) ≤ z3273 ∧ z3273 ≤ 2147483647) (h9 : (-2147483648) ≤ z3276 ∧ z3276 ≤ 2147483647) (h10 : (-2147483647) ≤ z3279 ∧ z3279 ≤ 2147483647) (h11 : 0 ≤ z3282 ∧ z3282 ≤ 32) (h12 : 0 ≤ z3285 ∧ z3285 ≤ 32) : ¬ (z3270 ≤ p3 ∧ p3 < z3273 ∧ z3276 ≤ p4 ∧ (z3279 = -1 ∨ p4 < z3279) ∧ z3282 ≤ z3285) := by omega
theorem vc_X10_verdictOn_v_27 {p3 p4 z3270 z3273 z3276 z3279 z3282 z3285 : Int} (h0 : z3270 ≤ p3) (h1 : z3273 ≤ p3) (h2 : p4 < z3276) (h3 : z3285 < z3282) (h4 : (-2147483648) ≤ p3 ∧ p3 ≤ 2147483647) (h5 : (-2147483648) ≤ p4 ∧ p4 ≤ 2147483646) (h6 : (-2147483648) ≤ z3270 ∧ z3270 ≤ 2147483647) (h7 : (-2147483648) ≤ z3273 ∧ z3273 ≤ 2147483647) (h8 : (-2147483647) ≤ z3276 ∧ z3276 ≤ 2147483647) (h9 : (-2147483648) ≤ z3279 ∧ z3279 ≤ 2147483647) (h10 : 1 ≤ z3282 ∧ z3282 ≤ 32) (h11 : 0 ≤ z3285 ∧ z3285 ≤ 31) : ¬ (z3270 ≤ p3 ∧ p3 < z3273 ∧ z3276 ≤ p4 ∧ (z3279 = -1 ∨ p4 < z3279) ∧ z3282 ≤ z3285) := by omega
theorem vc_X10_verdictOn_v_28 {p3 p4 z3270 z3273 z3276 z3279 z3282 z3285 : Int} (h0 : z3270 ≤ p3) (h1 : z3273 ≤ p3) (h2 : p4 < z3276) (h3 : z3282 ≤ z3285) (h4 : (-2147483648) ≤ p3 ∧ p3 ≤ 2147483647) (h5 : (-2147483648) ≤ p4 ∧ p4 ≤ 2147483646) (h6 : (-2147483648) ≤ z3270 ∧ z3270 ≤ 2147483647) (h7 : (-2147483648) ≤ z3273 ∧ z3273 ≤ 2147483647) (h8 : (-2147483647) ≤ z3276 ∧ z3276 ≤ 2147483647) (h9 : (-2147483648) ≤ z3279 ∧ z3279 ≤ 2147483647) (h10 : 0 ≤ z3282 ∧ z3282 ≤ 32) (h11 : 0 ≤ z3285 ∧ z3285 ≤ 32) : ¬ (z3270 ≤ p3 ∧ p3 < z3273 ∧ z3276 ≤ p4 ∧ (z3279 = -1 ∨ p4 < z3279) ∧ z3282 ≤ z3285) := by omega
theorem vc_X10_verdictOn_v_29 {p3 p4 z3270 z3273 z3276 z3279 z3282 z3285 : Int} (h0 : z3270 ≤ p3) (h1 : z3273 ≤ p3) (h2 : z3276 ≤ p4) (h3 : z3279 = (-1)) (h4 : z3285 < z3282) (h5 : (-2147483648) ≤ p3 ∧ p3 ≤ 2147483647) (h6 : (-2147483648) ≤ p4 ∧ p4 ≤ 2147483647) (h7 : (-2147483648) ≤ z3270 ∧ z3270 ≤ 2147483647) (h8 : (-2147483648) ≤ z3273 ∧ z3273 ≤ 2147483647) (h9 : (-2147483648) ≤ z3276 ∧ z3276 ≤ 2147483647) (h10 : (-1) ≤ z3279 ∧ z3279 ≤ (-1)) (h11 : 1 ≤ z3282 ∧ z3282 ≤ 32) (h12 : 0 ≤ z3285 ∧ z3285 ≤ 31) : ¬ (z3270 ≤ p3 ∧ p3 < z3273 ∧ z3276 ≤ p4 ∧ (z3279 = -1 ∨ p4 < z3279) ∧ z3282 ≤ z3285) := by omega
theorem vc_X10_verdictOn_v_30 {p3 p4 z3270 z3273 z3276 z3279 z3282 z3285 : Int} (h0 : z3270 ≤ p3) (h1 : z3273 ≤ p3) (h2 : z3276 ≤ p4) (h3 : z3279 = (-1)) (h4 : z3282 ≤ z3285) (h5 : (-2147483648) ≤ p3 ∧ p3 ≤ 2147483647) (h6 : (-2147483648) ≤ p4 ∧ p4 ≤ 2147483647) (h7 : (-2147483648) ≤ z3270 ∧ z3270 ≤ 2147483647) (h8 : (-2147483648) ≤ z3273 ∧ z3273 ≤ 2147483647) (h9 : (-2147483648) ≤ z3276 ∧ z3276 ≤ 2147483647) (h10 : (-1) ≤ z3279 ∧ z3279 ≤ (-1)) (h11 : 0 ≤ z3282 ∧ z3282 ≤ 32) (h12 : 0 ≤ z3285 ∧ z3285 ≤ 32) : ¬ (z3270 ≤ p3 ∧ p3 < z3273 ∧ z3276 ≤ p4 ∧ (z3279 = -1 ∨ p4 < z3279) ∧ z3282 ≤ z3285) := by omega
theorem vc_X10_verdictOn_v_31 {p3 p4 z3270 z3273 z3276 z3279 z3282 z3285 : Int} (h0 : z3270 ≤ p3) (h1 : z3273 ≤ p3) (h2 : z3276 ≤ p4) (h3 : ¬ z3279 = (-1)) (h4 : z3279 ≤ p4) (h5 : z3285 < z3282) (h6 : (-2147483648) ≤ p3 ∧ p3 ≤ 2147483647) (h7 : (-2147483648) ≤ p4 ∧ p4 ≤ 2147483647) (h8 : (-2147483648) ≤ z3270 ∧ z3270 ≤ 2147483647) (h9 : (-2147483648) ≤ z3273 ∧ z3273 ≤ 2147483647) (h10 : (-2147483648) ≤ z3276 ∧ z3276 ≤ 2147483647) (h11 : (-2147483648) ≤ z3279 ∧ z3279 ≤ 2147483647) (h12 : 1 ≤ z3282 ∧ z3282 ≤ 32) (h13 : 0 ≤ z3285 ∧ z3285 ≤ 31) : ¬ (z3270 ≤ p3 ∧ p3 < z3273 ∧ z3276 ≤ p4 ∧ (z3279 = -1 ∨ p4 < z3279) ∧ z3282 ≤ z3285) := by omega
theorem vc_X10_verdictOn_v_32 {p3 p4 z3270 z3273 z3276 z3279 z3282 z3285 : Int} (h0 : z3270 ≤ p3) (h1 : z3273 ≤ p3) (h2 : z3276 ≤ p4) (h3 : ¬ z3279 = (-1)) (h4 : z3279 ≤ p4) (h5 : z3282 ≤ z3285) (h6 : (-2147483648) ≤ p3 ∧ p3 ≤ 2147483647) (h7 : (-2147483648) ≤ p4 ∧ p4 ≤ 2147483647) (h8 : (-2147483648) ≤ z3270 ∧ z3270 ≤ 2147483647) (h9 : (-2147483648) ≤ z3273 ∧ z3273 ≤ 2147483647) (h10 : (-2147483648) ≤ z3276 ∧ z3276 ≤ 2147483647) (h11 : (-2147483648) ≤ z3279 ∧ z3279 ≤ 2147483647) (h12 : 0 ≤ z3282 ∧ z3282 ≤ 32) (h13 : 0 ≤ z3285 ∧ z3285 ≤ 32) : ¬ (z3270 ≤ p3 ∧ p3 < z3273 ∧ z3276 ≤ p4 ∧ (z3279 = -1 ∨ p4 < z3279) ∧ z3282 ≤ z3285) := by omega
theorem vc_X10_verdictOn_v_33 {p3 p4 z3270 z3273 z3276 z3279 z3282 z3285 : Int} (h0 : z3270 ≤ p3) (h1 : z3273 ≤ p3) (h2 : z3276 ≤ p4) (h3 : ¬ z3279 = (-1)) (h4 : p4 < z3279) (h5 : z3285 < z3282) (h6 : (-2147483648) ≤ p3 ∧ p3 ≤ 2147483647) (h7 : (-2147483648) ≤ p4 ∧ p4 ≤ 2147483646) (h8 : (-2147483648) ≤ z3270 ∧ z3270 ≤ 2147483647) (h9 : (-2147483648) ≤ z3273 ∧ z3273 ≤ 2147483647) (h10 : (-2147483648) ≤ z3276 ∧ z3276 ≤ 2147483647) (h11 : (-2147483647) ≤ z3279 ∧ z3279 ≤ 2147483647) (h12 : 1 ≤ z3282 ∧ z3282 ≤ 32) (h13 : 0 ≤ z3285 ∧ z3285 ≤ 31) : ¬ (z3270 ≤ p3 ∧ p3 < z3273 ∧ z3276 ≤ p4 ∧ (z3279 = -1 ∨ p4 < z3279) ∧ z3282 ≤ z3285) := by omega
theorem vc_X10_verdictOn_v_34 {p3 p4 z3270 z3273 z3276 z3279 z3282 z3285 : Int} (h0 : z3270 ≤ p3) (h1 : z3273 ≤ p3) (h2 : z3276 ≤ p4) (h3 : ¬ z3279 = (-1)) (h4 : p4 < z3279) (h5 : z3282 ≤ z3285) (h6 : (-2147483648) ≤ p3 ∧ p3 ≤ 2147483647) (h7 : (-2147483648) ≤ p4 ∧ p4 ≤ 2147483646) (h8 : (-2147483648) ≤ z3270 ∧ z3270 ≤ 2147483647) (h9 : (-2147483648) ≤ z3273 ∧ z3273 ≤ 2147483647) (h10 : (-2147483648) ≤ z3276 ∧ z3276 ≤ 2147483647) (h11 : (-2147483647) ≤ z3279 ∧ z3279 ≤ 2147483647) (h12 : 0 ≤ z3282 ∧ z3282 ≤ 32) (h13 : 0 ≤ z3285 ∧ z3285 ≤ 32) : ¬ (z3270 ≤ p3 ∧ p3 < z3273 ∧ z3276 ≤ p4 ∧ (z3279 = -1 ∨ p4 < z3279) ∧ z3282 ≤ z3285) := by omega
theorem vc_X10_verdictOn_v_38 {p3 p4 z3270 z3273 z3276 z3279 z3282 z3285 : Int} (h0 : z3270 ≤ p3) (h1 : p3 < z3273) (h2 : p4 < z3276) (h3 : z3285 < z3282) (h4 : (-2147483648) ≤ p3 ∧ p3 ≤ 2147483646) (h5 : (-2147483648) ≤ p4 ∧ p4 ≤ 2147483646) (h6 : (-2147483648) ≤ z3270 ∧ z3270 ≤ 2147483647) (h7 : (-2147483647) ≤ z3273 ∧ z3273 ≤ 2147483647) (h8 : (-2147483647) ≤ z3276 ∧ z3276 ≤ 2147483647) (h9 : (-2147483648) ≤ z3279 ∧ z3279 ≤ 2147483647) (h10 : 1 ≤ z3282 ∧ z3282 ≤ 32) (h11 : 0 ≤ z3285 ∧ z3285 ≤ 31) : ¬ (z3270 ≤ p3 ∧ p3 < z3273 ∧ z3276 ≤ p4 ∧ (z3279 = -1 ∨ p4 < z3279) ∧ z3282 ≤ z3285) := by omega
theorem vc_X10_verdictOn_v_39 {p3 p4 z3270 z3273 z3276 z3279 z3282 z3285 : Int} (h0 : z3270 ≤ p3) (h1 : p3 < z3273) (h2 : p4 < z3276) (h3 : z3282 ≤ z3285) (h4 : (-2147483648) ≤ p3 ∧ p3 ≤ 2147483646) (h5 : (-2147483648) ≤ p4 ∧ p4 ≤ 2147483646) (h6 : (-2147483648) ≤ z3270 ∧ z3270 ≤ 2147483647) (h7 : (-2147483647) ≤ z3273 ∧ z3273 ≤ 2147483647) (h8 : (-2147483647) ≤ z3276 ∧ z3276 ≤ 2147483647) (h9 : (-2147483648) ≤ z3279 ∧ z3279 ≤ 2147483647) (h10 : 0 ≤ z3282 ∧ z3282 ≤ 32) (h11 : 0 ≤ z3285 ∧ z3285 ≤ 32) : ¬ (z3270 ≤ p3 ∧ p3 < z3273 ∧ z3276 ≤ p4 ∧ (z3279 = -1 ∨ p4 < z3279) ∧ z3282 ≤ z3285) := by omega
theorem vc_X10_verdictOn_v_40 {p3 p4 z3270 z3273 z3276 z3279 z3282 z3285 : Int} (h0 : z3270 ≤ p3) (h1 : p3 < z3273) (h2 : z3276 ≤ p4) (h3 : z3279 = (-1)) (h4 : z3285 < z3282) (h5 : (-2147483648) ≤ p3 ∧ p3 ≤ 2147483646) (h6 : (-2147483648) ≤ p4 ∧ p4 ≤ 2147483647) (h7 : (-2147483648) ≤ z3270 ∧ z3270 ≤ 2147483647) (h8 : (-2147483647) ≤ z3273 ∧ z3273 ≤ 2147483647) (h9 : (-2147483648) ≤ z3276 ∧ z3276 ≤ 2147483647) (h10 : (-1) ≤ z3279 ∧ z3279 ≤ (-1)) (h11 : 1 ≤ z3282 ∧ z3282 ≤ 32) (h12 : 0 ≤ z3285 ∧ z3285 ≤ 31) : ¬ (z3270 ≤ p3 ∧ p3 < z3273 ∧ z3276 ≤ p4 ∧ (z3279 = -1 ∨ p4 < z3279) ∧ z3282 ≤ z3285) := by omega
theorem vc_X10_verdictOn_v_42  : ((0 : Int) : Int) = (0 : Int) ∨ ((0 : Int) : Int) = (2 : Int) := by omega
theorem vc_X10_verdictOn_v_43 {p3 p4 z3270 z3273 z3276 z3279 z3282 z3285 : Int} (h0 : z3270 ≤ p3) (h1 : p3 < z3273) (h2 : z3276 ≤ p4) (h3 : z3279 = (-1)) (h4 : z3282 ≤ z3285) (h5 : (-2147483648) ≤ p3 ∧ p3 ≤ 2147483646) (h6 : (-2147483648) ≤ p4 ∧ p4 ≤ 2147483647) (h7 : (-2147483648) ≤ z3270 ∧ z3270 ≤ 2147483647) (h8 : (-2147483647) ≤ z3273 ∧ z3273 ≤ 2147483647) (h9 : (-2147483648) ≤ z3276 ∧ z3276 ≤ 2147483647) (h10 : (-1) ≤ z3279 ∧ z3279 ≤ (-1)) (h11 : 0 ≤ z3282 ∧ z3282 ≤ 32) (h12 : 0 ≤ z3285 ∧ z3285 ≤ 32) : z3270 ≤ p3 ∧ p3 < z3273 ∧ z3276 ≤ p4 ∧ (z3279 = -1 ∨ p4 < z3279) ∧ z3282 ≤ z3285 := by omega
theorem vc_X10_verdictOn_v_45 {p2 z3282 z3285 z3297 z3300 : Int} (h0 : z3282 ≤ z3285) (h1 : ¬ z3297 = p2) (h2 : (-2147483648) ≤ p2 ∧ p2 ≤ 2147483647) (h3 : 0 ≤ z3282 ∧ z3282 ≤ 32) (h4 : 0 ≤ z3285 ∧ z3285 ≤ 32) (h5 : (-2147483648) ≤ z3297 ∧ z3297 ≤ 2147483647) (h6 : (-2147483648) ≤ z3300 ∧ z3300 ≤ 2147483647) : ¬ (z3297 = p2 ∧ z3285 ≤ z3300) := by omega
theorem vc_X10_verdictOn_v_47 {p3 p4 z3270 z3273 z3276 z3279 z3282 z3285 z3300 : Int} (h0 : z3270 ≤ p3) (h1 : p3 < z3273) (h2 : z3276 ≤ p4) (h3 : z3279 = (-1)) (h4 : z3282 ≤ z3285) (h5 : z3300 < z3285) (h6 : (-2147483648) ≤ p3 ∧ p3 ≤ 2147483646) (h7 : (-2147483648) ≤ p4 ∧ p4 ≤ 2147483647) (h8 : (-2147483648) ≤ z3270 ∧ z3270 ≤ 2147483647) (h9 : (-2147483647) ≤ z3273 ∧ z3273 ≤ 2147483647) (h10 : (-2147483648) ≤ z3276 ∧ z3276 ≤ 2147483647) (h11 : (-1) ≤ z3279 ∧ z3279 ≤ (-1)) (h12 : 0 ≤ z3282 ∧ z3282 ≤ 32) (h13 : 0 ≤ z3285 ∧ z3285 ≤ 32) (h14 : (-2147483648) ≤ z3300 ∧ z3300 ≤ 31) : z3270 ≤ p3 ∧ p3 < z3273 ∧ z3276 ≤ p4 ∧ (z3279 = -1 ∨ p4 < z3279) ∧ z3282 ≤ z3285 := by omega
theorem vc_X10_verdictOn_v_48 {p2 z3282 z3285 z3297 z3300 : Int} (h0 : z3282 ≤ z3285) (h1 : z3297 = p2) (h2 : z3300 < z3285) (h3 : (-2147483648) ≤ p2 ∧ p2 ≤ 2147483647) (h4 : 0 ≤ z3282 ∧ z3282 ≤ 32) (h5 : 0 ≤ z3285 ∧ z3285 ≤ 32) (h6 : (-2147483648) ≤ z3297 ∧ z3297 ≤ 2147483647) (h7 : (-2147483648) ≤ z3300 ∧ z3300 ≤ 31) : ¬ (z3297 = p2 ∧ z3285 ≤ z3300) := by omega
theorem vc_X10_verdictOn_v_50 {f_r z3251 : Int} (h0 : z3251 ≤ f_r) (h1 : z3251 < f_r) (h2 : 1 ≤ f_r ∧ f_r ≤ 30) (h3 : 0 ≤ z3251 ∧ z3251 ≤ 29) : 0 ≤ z3251 ∧ z3251 < f_r := by omega
theorem vc_X10_verdictOn_v_51 {p3 p4 z3270 z3273 z3276 z3279 z3282 z3285 z3300 : Int} (h0 : z3270 ≤ p3) (h1 : p3 < z3273) (h2 : z3276 ≤ p4) (h3 : z3279 = (-1)) (h4 : z3282 ≤ z3285) (h5 : z3285 ≤ z3300) (h6 : (-2147483648) ≤ p3 ∧ p3 ≤ 2147483646) (h7 : (-2147483648) ≤ p4 ∧ p4 ≤ 2147483647) (h8 : (-2147483648) ≤ z3270 ∧ z3270 ≤ 2147483647) (h9 : (-2147483647) ≤ z3273 ∧ z3273 ≤ 2147483647) (h10 : (-2147483648) ≤ z3276 ∧ z3276 ≤ 2147483647) (h11 : (-1) ≤ z3279 ∧ z3279 ≤ (-1)) (h12 : 0 ≤ z3282 ∧ z3282 ≤ 32) (h13 : 0 ≤ z3285 ∧ z3285 ≤ 32) (h14 : 0 ≤ z3300 ∧ z3300 ≤ 2147483647) : z3270 ≤ p3 ∧ p3 < z3273 ∧ z3276 ≤ p4 ∧ (z3279 = -1 ∨ p4 < z3279) ∧ z3282 ≤ z3285 := by omega
theorem vc_X10_verdictOn_v_52 {p2 z3282 z3285 z3297 z3300 : Int} (h0 : z3282 ≤ z3285) (h1 : z3297 = p2) (h2 : z3285 ≤ z3300) (h3 : (-2147483648) ≤ p2 ∧ p2 ≤ 2147483647) (h4 : 0 ≤ z3282 ∧ z3282 ≤ 32) (h5 : 0 ≤ z3285 ∧ z3285 ≤ 32) (h6 : (-2147483648) ≤ z3297 ∧ z3297 ≤ 2147483647) (h7 : 0 ≤ z3300 ∧ z3300 ≤ 2147483647) : z3297 = p2 ∧ z3285 ≤ z3300 := by omega
theorem vc_X10_verdictOn_v_53 {p3 p4 z3270 z3273 z3276 z3279 z3282 z3285 : Int} (h0 : z3270 ≤ p3) (h1 : p3 < z3273) (h2 : z3276 ≤ p4) (h3 : ¬ z3279 = (-1)) (h4 : z3279 ≤ p4) (h5 : z3285 < z3282) (h6 : (-2147483648) ≤ p3 ∧ p3 ≤ 2147483646) (h7 : (-2147483648) ≤ p4 ∧ p4 ≤ 2147483647) (h8 : (-2147483648) ≤ z3270 ∧ z3270 ≤ 2147483647) (h9 : (-2147483647) ≤ z3273 ∧ z3273 ≤ 2147483647) (h10 : (-2147483648) ≤ z3276 ∧ z3276 ≤ 2147483647) (h11 : (-2147483648) ≤ z3279 ∧ z3279 ≤ 2147483647) (h12 : 1 ≤ z3282 ∧ z3282 ≤ 32) (h13 : 0 ≤ z3285 ∧ z3285 ≤ 31) : ¬ (z3270 ≤ p3 ∧ p3 < z3273 ∧ z3276 ≤ p4 ∧ (z3279 = -1 ∨ p4 < z3279) ∧ z3282 ≤ z3285) := by omega
theorem vc_X10_verdictOn_v_54 {p3 p4 z3270 z3273 z3276 z3279 z3282 z3285 : Int} (h0 : z3270 ≤ p3) (h1 : p3 < z3273) (h2 : z3276 ≤ p4) (h3 : ¬ z3279 = (-1)) (h4 : z3279 ≤ p4) (h5 : z3282 ≤ z3285) (h6 : (-2147483648) ≤ p3 ∧ p3 ≤ 2147483646) (h7 : (-2147483648) ≤ p4 ∧ p4 ≤ 2147483647) (h8 : (-2147483648) ≤ z3270 ∧ z3270 ≤ 2147483647) (h9 : (-2147483647) ≤ z3273 ∧ z3273 ≤ 2147483647) (h10 : (-2147483648) ≤ z3276 ∧ z3276 ≤ 2147483647) (h11 : (-2147483648) ≤ z3279 ∧ z3279 ≤ 2147483647) (h12 : 0 ≤ z3282 ∧ z3282 ≤ 32) (h13 : 0 ≤ z3285 ∧ z3285 ≤ 32) : ¬ (z3270 ≤ p3 ∧ p3 < z3273 ∧ z3276 ≤ p4 ∧ (z3279 = -1 ∨ p4 < z3279) ∧ z3282 ≤ z3285) := by omega
theorem vc_X10_verdictOn_v_55 {p3 p4 z3270 z3273 z3276 z3279 z3282 z3285 : Int} (h0 : z3270 ≤ p3) (h1 : p3 < z3273) (h2 : z3276 ≤ p4) (h3 : ¬ z3279 = (-1)) (h4 : p4 < z3279) (h5 : z3285 < z3282) (h6 : (-2147483648) ≤ p3 ∧ p3 ≤ 2147483646) (h7 : (-2147483648) ≤ p4 ∧ p4 ≤ 2147483646) (h8 : (-2147483648) ≤ z3270 ∧ z3270 ≤ 2147483647) (h9 : (-2147483647) ≤ z3273 ∧ z3273 ≤ 2147483647) (h10 : (-2147483648) ≤ z3276 ∧ z3276 ≤ 2147483647) (h11 : (-2147483647) ≤ z3279 ∧ z3279 ≤ 2147483647) (h12 : 1 ≤ z3282 ∧ z3282 ≤ 32) (h13 : 0 ≤ z3285 ∧ z3285 ≤ 31) : ¬ (z3270 ≤ p3 ∧ p3 < z3273 ∧ z3276 ≤ p4 ∧ (z3279 = -1 ∨ p4 < z3279) ∧ z3282 ≤ z3285) := by omega
theorem vc_X10_verdictOn_v_57 {p3 p4 z3270 z3273 z3276 z3279 z3282 z3285 : Int} (h0 : z3270 ≤ p3) (h1 : p3 < z3273) (h2 : z3276 ≤ p4) (h3 : ¬ z3279 = (-1)) (h4 : p4 < z3279) (h5 : z3282 ≤ z3285) (h6 : (-2147483648) ≤ p3 ∧ p3 ≤ 2147483646) (h7 : (-2147483648) ≤ p4 ∧ p4 ≤ 2147483646) (h8 : (-2147483648) ≤ z3270 ∧ z3270 ≤ 2147483647) (h9 : (-2147483647) ≤ z3273 ∧ z3273 ≤ 2147483647) (h10 : (-2147483648) ≤ z3276 ∧ z3276 ≤ 2147483647) (h11 : (-2147483647) ≤ z3279 ∧ z3279 ≤ 2147483647) (h12 : 0 ≤ z3282 ∧ z3282 ≤ 32) (h13 : 0 ≤ z3285 ∧ z3285 ≤ 32) : z3270 ≤ p3 ∧ p3 < z3273 ∧ z3276 ≤ p4 ∧ (z3279 = -1 ∨ p4 < z3279) ∧ z3282 ≤ z3285 := by omega
theorem vc_X10_verdictOn_v_59 {p3 p4 z3270 z3273 z3276 z3279 z3282 z3285 z3300 : Int} (h0 : z3270 ≤ p3) (h1 : p3 < z3273) (h2 : z3276 ≤ p4) (h3 : ¬ z3279 = (-1)) (h4 : p4 < z3279) (h5 : z3282 ≤ z3285) (h6 : z3300 < z3285) (h7 : (-2147483648) ≤ p3 ∧ p3 ≤ 2147483646) (h8 : (-2147483648) ≤ p4 ∧ p4 ≤ 2147483646) (h9 : (-2147483648) ≤ z3270 ∧ z3270 ≤ 2147483647) (h10 : (-2147483647) ≤ z3273 ∧ z3273 ≤ 2147483647) (h11 : (-2147483648) ≤ z3276 ∧ z3276 ≤ 2147483647) (h12 : (-2147483647) ≤ z3279 ∧ z3279 ≤ 2147483647) (h13 : 0 ≤ z3282 ∧ z3282 ≤ 32) (h14 : 0 ≤ z3285 ∧ z3285 ≤ 32) (h15 : (-2147483648) ≤ z3300 ∧ z3300 ≤ 31) : z3270 ≤ p3 ∧ p3 < z3273 ∧ z3276 ≤ p4 ∧ (z3279 = -1 ∨ p4 < z3279) ∧ z3282 ≤ z3285 := by omega
theorem vc_X10_verdictOn_v_60 {p3 p4 z3270 z3273 z3276 z3279 z3282 z3285 z3300 : Int} (h0 : z3270 ≤ p3) (h1 : p3 < z3273) (h2 : z3276 ≤ p4) (h3 : ¬ z3279 = (-1)) (h4 : p4 < z3279) (h5 : z3282 ≤ z3285) (h6 : z3285 ≤ z3300) (h7 : (-2147483648) ≤ p3 ∧ p3 ≤ 2147483646) (h8 : (-2147483648) ≤ p4 ∧ p4 ≤ 2147483646) (h9 : (-2147483648) ≤ z3270 ∧ z3270 ≤ 2147483647) (h10 : (-2147483647) ≤ z3273 ∧ z3273 ≤ 2147483647) (h11 : (-2147483648) ≤ z3276 ∧ z3276 ≤ 2147483647) (h12 : (-2147483647) ≤ z3279 ∧ z3279 ≤ 2147483647) (h13 : 0 ≤ z3282 ∧ z3282 ≤ 32) (h14 : 0 ≤ z3285 ∧ z3285 ≤ 32) (h15 : 0 ≤ z3300 ∧ z3300 ≤ 2147483647) : z3270 ≤ p3 ∧ p3 < z3273 ∧ z3276 ≤ p4 ∧ (z3279 = -1 ∨ p4 < z3279) ∧ z3282 ≤ z3285 := by omega
theorem vc_X10_verdictOn_v_62  : ((2 : Int) : Int) = (0 : Int) ∨ ((2 : Int) : Int) = (2 : Int) := by omega
set_option maxRecDepth 4000 in
set_option maxHeartbeats 4000000 in
theorem c_X10_verdictOn_v {l : Launch} {D : va_G} {c : Nat → ClassId} {H0 : Heap} {sa : Nat × Nat × (Nat → Int32)} {w : mW} {μ : mM} (hw : mWF w) (hT : mT w μ) {p1 : Int} (hp1 : 0 ≤ p1 ∧ p1 ≤ 9) {p2 : Int} (hp2 : (-2147483648) ≤ p2 ∧ p2 ≤ 2147483647) {p3 : Int} (hp3 : (-2147483648) ≤ p3 ∧ p3 ≤ 2147483647) {p4 : Int} (hp4 : (-2147483648) ≤ p4 ∧ p4 ≤ 2147483647) {f_r : Int} (q_f_r : μ 6 17 = f_r) : sC (gG l D c H0 sa) mX10_verdictOn 1 0 0 [.ref 6, iv p1, iv p2, iv p3, iv p4] (mk w μ) (qP w μ (fun z => (0 ≤ z ∧ z ≤ 2) ∧ (z = vC μ p1 p2 p3 p4) ∧ True)) := by
  refine sC.of rfl (by decide) (le_t rfl) ?_
  have ht_f_r : (0 ≤ f_r ∧ f_r ≤ 30) := by rw [← q_f_r]; exact hT 6 6 (A_6 hw) 17
  refine mr_lvE (lv' := [(0, .ref 6), (1, iv p1), (2, iv p2), (3, iv p3), (4, iv p4)]) rfl ?_
  refine mr_iconst (pc := 0) (z := 2) dX10_verdictOn_0 ?_
  refine mr_istore (pc := 1) (lv' := [(5, iv 2), (0, .ref 6), (1, iv p1), (2, iv p2), (3, iv p3), (4, iv p4)]) dX10_verdictOn_1 (by decide) rfl ?_
  refine mr_iconst (pc := 3) (z := 0) dX10_verdictOn_3 ?_
  refine mr_istore (pc := 4) (lv' := [(6, iv 0), (5, iv 2), (0, .ref 6), (1, iv p1), (2, iv p2), (3, iv p3), (4, iv p4)]) dX10_verdictOn_4 (by decide) rfl ?_
  have L3253 : ∀ (nL3253 : Nat) (z3252 z3251 : Int), True → (0 ≤ z3252 ∧ z3252 ≤ 2) → (0 ≤ z3251 ∧ z3251 ≤ 30) → (z3251 ≤ f_r) → (z3252 = 0 ∨ z3252 = 2) → z3252 = vdF (apC μ p1 p3 p4) (okC μ p1 p2) (z3251).toNat → (31 - z3251) < (nL3253 : Int) → sV (gG l D c H0 sa) mX10_verdictOn (sRm 1 0 0) (sZ (gG l D c H0 sa) 0 0 (qP w μ (fun z => (0 ≤ z ∧ z ≤ 2) ∧ (z = vC μ p1 p2 p3 p4) ∧ True))) 6 [(0, .ref 6), (1, iv p1), (2, iv p2), (3, iv p3), (4, iv p4), (5, iv z3252), (6, iv z3251)] [] (mk w μ) 0 0 := by
    intro nL3253
    induction nL3253 with
    | zero => intro z3252 z3251 _ h3254 h3255 h3259 h3260 R3261 h3262; exact ((vc_X12_judgedAnew_v_1 h3262 h3259 ht_f_r h3255)).elim
    | succ nL3253 ih3263 =>
      intro z3252 z3251 _ h3254 h3255 h3259 h3260 R3261 h3262
      refine mr_iload (pc := 6) (z := z3251) dX10_verdictOn_6 rfl ?_
      refine sv_aload_n (pc := 8) dX10_verdictOn_8 rfl rfl ?_
      refine gk_X10_17 (pc := 9) dX10_verdictOn_9 wF_X10_118 (A_6 hw) q_f_r ?_
      refine mr_icmp_ge (pc := 12) (tgt := 198) dX10_verdictOn_12 (by decide) (r32 h3255 rfl) (r32 ht_f_r rfl) (fun h3264 => ?_) (fun h3264 => ?_)
      · refine mr_iload (pc := 198) (z := z3252) dX10_verdictOn_198 rfl ?_
        exact mr_iretP dX10_verdictOn_200 rfl (le_t rfl) (le_t rfl) ⟨h3254, (by show z3252 = vdF _ _ (μ 6 17).toNat; rw [q_f_r, show f_r = z3251 from (vc_X12_judgedAnew_v_2 h3259 h3264 ht_f_r h3255)]; exact R3261), trivial⟩
      have h3265 : 0 ≤ z3251 ∧ z3251 ≤ 29 := (vc_X12_judgedAnew_v_3 h3264 h3259 ht_f_r h3255)
      have h3266 : 1 ≤ f_r ∧ f_r ≤ 30 := (vc_X12_judgedAnew_v_4 h3264 h3259 ht_f_r h3265)
      obtain ⟨z3267, q3268⟩ : ∃ z, μ 14 (z3251.toNat) = z := ⟨_, rfl⟩
      have h3269 : (0 ≤ z3267 ∧ z3267 ≤ 9) := by rw [← q3268]; exact hT 14 14 (A_14 hw) (z3251.toNat)
      obtain ⟨z3270, q3271⟩ : ∃ z, μ 17 (z3251.toNat) = z := ⟨_, rfl⟩
      have h3272 : ((-2147483648) ≤ z3270 ∧ z3270 ≤ 2147483647) := by rw [← q3271]; exact hT 17 17 (A_17 hw) (z3251.toNat)
      obtain ⟨z3273, q3274⟩ : ∃ z, μ 18 (z3251.toNat) = z := ⟨_, rfl⟩
      have h3275 : ((-2147483648) ≤ z3273 ∧ z3273 ≤ 2147483647) := by rw [← q3274]; exact hT 18 18 (A_18 hw) (z3251.toNat)
      obtain ⟨z3276, q3277⟩ : ∃ z, μ 19 (z3251.toNat) = z := ⟨_, rfl⟩
      have h3278 : ((-2147483648) ≤ z3276 ∧ z3276 ≤ 2147483647) := by rw [← q3277]; exact hT 19 19 (A_19 hw) (z3251.toNat)
      obtain ⟨z3279, q3280⟩ : ∃ z, μ 20 (z3251.toNat) = z := ⟨_, rfl⟩
      have h3281 : ((-2147483648) ≤ z3279 ∧ z3279 ≤ 2147483647) := by rw [← q3280]; exact hT 20 20 (A_20 hw) (z3251.toNat)
      obtain ⟨z3282, q3283⟩ : ∃ z, μ 8 (z3267.toNat) = z := ⟨_, rfl⟩
      have h3284 : (0 ≤ z3282 ∧ z3282 ≤ 32) := by rw [← q3283]; exact hT 8 8 (A_8 hw) (z3267.toNat)
      obtain ⟨z3285, q3286⟩ : ∃ z, μ 8 (p1.toNat) = z := ⟨_, rfl⟩
      have h3287 : (0 ≤ z3285 ∧ z3285 ≤ 32) := by rw [← q3286]; exact hT 8 8 (A_8 hw) (p1.toNat)
      obtain ⟨z3288, q3289⟩ : ∃ z, μ 7 (z3267.toNat) = z := ⟨_, rfl⟩
      have h3290 : ((-2147483648) ≤ z3288 ∧ z3288 ≤ 2147483647) := by rw [← q3289]; exact hT 7 7 (A_7 hw) (z3267.toNat)
      obtain ⟨z3291, q3292⟩ : ∃ z, μ 7 (p1.toNat) = z := ⟨_, rfl⟩
      have h3293 : ((-2147483648) ≤ z3291 ∧ z3291 ≤ 2147483647) := by rw [← q3292]; exact hT 7 7 (A_7 hw) (p1.toNat)
      obtain ⟨z3294, q3295⟩ : ∃ z, μ 9 (z3267.toNat) = z := ⟨_, rfl⟩
      have h3296 : ((-2147483648) ≤ z3294 ∧ z3294 ≤ 2147483647) := by rw [← q3295]; exact hT 9 9 (A_9 hw) (z3267.toNat)
      obtain ⟨z3297, q3298⟩ : ∃ z, μ 16 (z3251.toNat) = z := ⟨_, rfl⟩
      have h3299 : ((-2147483648) ≤ z3297 ∧ z3297 ≤ 2147483647) := by rw [← q3298]; exact hT 16 16 (A_16 hw) (z3251.toNat)
      obtain ⟨z3300, q3301⟩ : ∃ z, μ 15 (z3251.toNat) = z := ⟨_, rfl⟩
      have h3302 : ((-2147483648) ≤ z3300 ∧ z3300 ≤ 2147483647) := by rw [← q3301]; exact hT 15 15 (A_15 hw) (z3251.toNat)
      refine sv_aload_n (pc := 15) dX10_verdictOn_15 rfl rfl ?_
      refine gf_X10_10 (pc := 16) dX10_verdictOn_16 wF_X10_48 (A_6 hw) hT ?_
      refine mr_iload (pc := 19) (z := z3251) dX10_verdictOn_19 rfl ?_
      refine lk_17 (pc := 21) dX10_verdictOn_21 (A_17 hw) (rIx (n := 30) h3265 rfl) q3271 ?_
      refine mr_iload_n (pc := 22) (z := p3) dX10_verdictOn_22 rfl rfl ?_
      refine mr_icmp_gt (pc := 23) (tgt := 41) dX10_verdictOn_23 (by decide) h3272 hp3 (fun h3303 => ?_) (fun h3303 => ?_)
      · have h3304 : (-2147483647) ≤ z3270 ∧ z3270 ≤ 2147483647 := (vc_X10_verdictOn_15 h3303 hp3 h3272)
        have h3305 : (-2147483648) ≤ p3 ∧ p3 ≤ 2147483646 := (vc_X10_verdictOn_16 h3303 hp3 h3304)
        refine mr_iconst (pc := 41) (z := 0) dX10_verdictOn_41 ?_
        refine mr_istore (pc := 42) (lv' := [(7, iv 0), (0, .ref 6), (1, iv p1), (2, iv p2), (3, iv p3), (4, iv p4), (5, iv z3252), (6, iv z3251)]) dX10_verdictOn_42 (by decide) rfl ?_
        refine sv_aload_n (pc := 44) dX10_verdictOn_44 rfl rfl ?_
        refine gf_X10_12 (pc := 45) dX10_verdictOn_45 wF_X10_54 (A_6 hw) hT ?_
        refine mr_iload (pc := 48) (z := z3251) dX10_verdictOn_48 rfl ?_
        refine lk_19 (pc := 50) dX10_verdictOn_50 (A_19 hw) (rIx (n := 30) h3265 rfl) q3277 ?_
        refine mr_iload (pc := 51) (z := p4) dX10_verdictOn_51 rfl ?_
        refine mr_icmp_gt (pc := 53) (tgt := 83) dX10_verdictOn_53 (by decide) h3278 hp4 (fun h3306 => ?_) (fun h3306 => ?_)
        · have h3307 : (-2147483647) ≤ z3276 ∧ z3276 ≤ 2147483647 := (vc_X10_verdictOn_15 h3306 hp4 h3278)
          have h3308 : (-2147483648) ≤ p4 ∧ p4 ≤ 2147483646 := (vc_X10_verdictOn_16 h3306 hp4 h3307)
          refine mr_iconst (pc := 83) (z := 0) dX10_verdictOn_83 ?_
          refine mr_istore (pc := 84) (lv' := [(8, iv 0), (7, iv 0), (0, .ref 6), (1, iv p1), (2, iv p2), (3, iv p3), (4, iv p4), (5, iv z3252), (6, iv z3251)]) dX10_verdictOn_84 (by decide) rfl ?_
          refine sv_aload_n (pc := 86) dX10_verdictOn_86 rfl rfl ?_
          refine gf_X10_7 (pc := 87) dX10_verdictOn_87 wF_X10_39 (A_6 hw) hT ?_
          refine mr_iload (pc := 90) (z := z3251) dX10_verdictOn_90 rfl ?_
          refine lk_14 (pc := 92) dX10_verdictOn_92 (A_14 hw) (rIx (n := 30) h3265 rfl) q3268 ?_
          refine mr_istore (pc := 93) (lv' := [(9, iv z3267), (8, iv 0), (7, iv 0), (0, .ref 6), (1, iv p1), (2, iv p2), (3, iv p3), (4, iv p4), (5, iv z3252), (6, iv z3251)]) dX10_verdictOn_93 (by decide) rfl ?_
          refine sv_aload_n (pc := 95) dX10_verdictOn_95 rfl rfl ?_
          refine gf_X10_1 (pc := 96) dX10_verdictOn_96 wF_X10_15 (A_6 hw) hT ?_
          refine mr_iload (pc := 99) (z := z3267) dX10_verdictOn_99 rfl ?_
          refine lk_8 (pc := 101) dX10_verdictOn_101 (A_8 hw) (rIx (n := 10) h3269 rfl) q3283 ?_
          refine sv_aload_n (pc := 102) dX10_verdictOn_102 rfl rfl ?_
          refine gf_X10_1 (pc := 103) dX10_verdictOn_103 wF_X10_15 (A_6 hw) hT ?_
          refine mr_iload_n (pc := 106) (z := p1) dX10_verdictOn_106 rfl rfl ?_
          refine lk_8 (pc := 107) dX10_verdictOn_107 (A_8 hw) (rIx (n := 10) hp1 rfl) q3286 ?_
          refine mr_icmp_gt (pc := 108) (tgt := 139) dX10_verdictOn_108 (by decide) (r32 h3284 rfl) (r32 h3287 rfl) (fun h3309 => ?_) (fun h3309 => ?_)
          · have h3310 : 1 ≤ z3282 ∧ z3282 ≤ 32 := (vc_X12_sends_17 h3309 h3284 h3287)
            have h3311 : 0 ≤ z3285 ∧ z3285 ≤ 31 := (vc_X12_sends_18 h3309 h3310 h3287)
            refine mr_iconst (pc := 139) (z := 0) dX10_verdictOn_139 ?_
            refine mr_istore (pc := 140) (lv' := [(10, iv 0), (9, iv z3267), (8, iv 0), (7, iv 0), (0, .ref 6), (1, iv p1), (2, iv p2), (3, iv p3), (4, iv p4), (5, iv z3252), (6, iv z3251)]) dX10_verdictOn_140 (by decide) rfl ?_
            refine mr_iload (pc := 142) (z := 0) dX10_verdictOn_142 rfl ?_
            refine mr_if_eq (pc := 144) (tgt := 192) dX10_verdictOn_144 (by decide) (r32 (rR (x := 0)) rfl) (fun _ => ?_) (fun h => ((vc_X12_next_469 h)).elim)
            refine mr_iinc (pc := 192) (lv' := [(6, iv (z3251 + 1)), (10, iv 0), (9, iv z3267), (8, iv 0), (7, iv 0), (0, .ref 6), (1, iv p1), (2, iv p2), (3, iv p3), (4, iv p4), (5, iv z3252)]) dX10_verdictOn_192 rfl (by decide) rfl ?_
            refine sv_goto (pc := 195) (tgt := 6) dX10_verdictOn_195 (by decide) ?_
            refine mr_lvS (lv' := [(0, .ref 6), (1, iv p1), (2, iv p2), (3, iv p3), (4, iv p4), (5, iv z3252), (6, iv (z3251 + 1))]) (List.forall_mem_cons.mpr ⟨rfl, List.forall_mem_cons.mpr ⟨rfl, List.forall_mem_cons.mpr ⟨rfl, List.forall_mem_cons.mpr ⟨rfl, List.forall_mem_cons.mpr ⟨rfl, List.forall_mem_cons.mpr ⟨rfl, List.forall_mem_cons.mpr ⟨rfl, fun _ h => absurd h List.not_mem_nil⟩⟩⟩⟩⟩⟩⟩) ?_
            exact ih3263 z3252 (z3251 + 1) trivial h3254 (rW (c := 0) (d := 30) (rAdd (e := 1) (f := 30) h3265 (rR (x := 1)) rfl) rfl) (vc_X12_judgedAnew_v_8 h3259 h3264 h3266 h3265) (vc_X10_verdictOn_v_13 h3260 h3254) (vd.skip R3261 (vc_X12_judgedAnew_v_10 h3259 h3264 h3266 h3265) (apC.no1 q3271 q3274 q3277 q3280 q3268 q3283 q3286 (vc_X10_verdictOn_v_16 h3303 h3306 h3309 h3305 h3308 h3304 h3275 h3307 h3281 h3310 h3311))) (vc_X12_judgedAnew_v_9 (nS h3262) h3259 h3264 h3266 h3265)
          refine sv_aload_n (pc := 111) dX10_verdictOn_111 rfl rfl ?_
          refine gf_X10_0 (pc := 112) dX10_verdictOn_112 wF_X10_9 (A_6 hw) hT ?_
          refine mr_iload_n (pc := 115) (z := p1) dX10_verdictOn_115 rfl rfl ?_
          refine lk_7 (pc := 116) dX10_verdictOn_116 (A_7 hw) (rIx (n := 10) hp1 rfl) q3292 ?_
          refine sv_aload_n (pc := 117) dX10_verdictOn_117 rfl rfl ?_
          refine gf_X10_2 (pc := 118) dX10_verdictOn_118 wF_X10_18 (A_6 hw) hT ?_
          refine mr_iload (pc := 121) (z := z3267) dX10_verdictOn_121 rfl ?_
          refine lk_9 (pc := 123) dX10_verdictOn_123 (A_9 hw) (rIx (n := 10) h3269 rfl) q3295 ?_
          refine mr_iand (pc := 124) (x := z3291) (y := z3294) dX10_verdictOn_124 ?_
          refine mr_gen (P := fun z => (-2147483648) ≤ z ∧ z ≤ 2147483647) (r32i _) fun z3312 q3313 h3314 => ?_
          refine sv_aload_n (pc := 125) dX10_verdictOn_125 rfl rfl ?_
          refine gf_X10_0 (pc := 126) dX10_verdictOn_126 wF_X10_9 (A_6 hw) hT ?_
          refine mr_iload (pc := 129) (z := z3267) dX10_verdictOn_129 rfl ?_
          refine lk_7 (pc := 131) dX10_verdictOn_131 (A_7 hw) (rIx (n := 10) h3269 rfl) q3289 ?_
          refine mr_icmp_ne (pc := 132) (tgt := 139) dX10_verdictOn_132 (by decide) h3314 h3290 (fun h3315 => ?_) (fun h3315 => ?_)
          · refine mr_iconst (pc := 139) (z := 0) dX10_verdictOn_139 ?_
            refine mr_istore (pc := 140) (lv' := [(10, iv 0), (9, iv z3267), (8, iv 0), (7, iv 0), (0, .ref 6), (1, iv p1), (2, iv p2), (3, iv p3), (4, iv p4), (5, iv z3252), (6, iv z3251)]) dX10_verdictOn_140 (by decide) rfl ?_
            refine mr_iload (pc := 142) (z := 0) dX10_verdictOn_142 rfl ?_
            refine mr_if_eq (pc := 144) (tgt := 192) dX10_verdictOn_144 (by decide) (r32 (rR (x := 0)) rfl) (fun _ => ?_) (fun h => ((vc_X12_next_469 h)).elim)
            refine mr_iinc (pc := 192) (lv' := [(6, iv (z3251 + 1)), (10, iv 0), (9, iv z3267), (8, iv 0), (7, iv 0), (0, .ref 6), (1, iv p1), (2, iv p2), (3, iv p3), (4, iv p4), (5, iv z3252)]) dX10_verdictOn_192 rfl (by decide) rfl ?_
            refine sv_goto (pc := 195) (tgt := 6) dX10_verdictOn_195 (by decide) ?_
            refine mr_lvS (lv' := [(0, .ref 6), (1, iv p1), (2, iv p2), (3, iv p3), (4, iv p4), (5, iv z3252), (6, iv (z3251 + 1))]) (List.forall_mem_cons.mpr ⟨rfl, List.forall_mem_cons.mpr ⟨rfl, List.forall_mem_cons.mpr ⟨rfl, List.forall_mem_cons.mpr ⟨rfl, List.forall_mem_cons.mpr ⟨rfl, List.forall_mem_cons.mpr ⟨rfl, List.forall_mem_cons.mpr ⟨rfl, fun _ h => absurd h List.not_mem_nil⟩⟩⟩⟩⟩⟩⟩) ?_
            exact ih3263 z3252 (z3251 + 1) trivial h3254 (rW (c := 0) (d := 30) (rAdd (e := 1) (f := 30) h3265 (rR (x := 1)) rfl) rfl) (vc_X12_judgedAnew_v_8 h3259 h3264 h3266 h3265) (vc_X10_verdictOn_v_13 h3260 h3254) (vd.skip R3261 (vc_X12_judgedAnew_v_10 h3259 h3264 h3266 h3265) (apC.no1 q3271 q3274 q3277 q3280 q3268 q3283 q3286 (vc_X10_verdictOn_v_17 h3303 h3306 h3309 h3305 h3308 h3304 h3275 h3307 h3281 h3284 h3287))) (vc_X12_judgedAnew_v_9 (nS h3262) h3259 h3264 h3266 h3265)
          refine mr_iconst (pc := 135) (z := 1) dX10_verdictOn_135 ?_
          refine sv_goto (pc := 136) (tgt := 140) dX10_verdictOn_136 (by decide) ?_
          refine mr_istore (pc := 140) (lv' := [(10, iv 1), (9, iv z3267), (8, iv 0), (7, iv 0), (0, .ref 6), (1, iv p1), (2, iv p2), (3, iv p3), (4, iv p4), (5, iv z3252), (6, iv z3251)]) dX10_verdictOn_140 (by decide) rfl ?_
          refine mr_iload (pc := 142) (z := 0) dX10_verdictOn_142 rfl ?_
          refine mr_if_eq (pc := 144) (tgt := 192) dX10_verdictOn_144 (by decide) (r32 (rR (x := 0)) rfl) (fun _ => ?_) (fun h => ((vc_X12_next_469 h)).elim)
          refine mr_iinc (pc := 192) (lv' := [(6, iv (z3251 + 1)), (10, iv 1), (9, iv z3267), (8, iv 0), (7, iv 0), (0, .ref 6), (1, iv p1), (2, iv p2), (3, iv p3), (4, iv p4), (5, iv z3252)]) dX10_verdictOn_192 rfl (by decide) rfl ?_
          refine sv_goto (pc := 195) (tgt := 6) dX10_verdictOn_195 (by decide) ?_
          refine mr_lvS (lv' := [(0, .ref 6), (1, iv p1), (2, iv p2), (3, iv p3), (4, iv p4), (5, iv z3252), (6, iv (z3251 + 1))]) (List.forall_mem_cons.mpr ⟨rfl, List.forall_mem_cons.mpr ⟨rfl, List.forall_mem_cons.mpr ⟨rfl, List.forall_mem_cons.mpr ⟨rfl, List.forall_mem_cons.mpr ⟨rfl, List.forall_mem_cons.mpr ⟨rfl, List.forall_mem_cons.mpr ⟨rfl, fun _ h => absurd h List.not_mem_nil⟩⟩⟩⟩⟩⟩⟩) ?_
          exact ih3263 z3252 (z3251 + 1) trivial h3254 (rW (c := 0) (d := 30) (rAdd (e := 1) (f := 30) h3265 (rR (x := 1)) rfl) rfl) (vc_X12_judgedAnew_v_8 h3259 h3264 h3266 h3265) (vc_X10_verdictOn_v_13 h3260 h3254) (vd.skip R3261 (vc_X12_judgedAnew_v_10 h3259 h3264 h3266 h3265) (apC.no1 q3271 q3274 q3277 q3280 q3268 q3283 q3286 (vc_X10_verdictOn_v_17 h3303 h3306 h3309 h3305 h3308 h3304 h3275 h3307 h3281 h3284 h3287))) (vc_X12_judgedAnew_v_9 (nS h3262) h3259 h3264 h3266 h3265)
        refine sv_aload_n (pc := 56) dX10_verdictOn_56 rfl rfl ?_
        refine gf_X10_13 (pc := 57) dX10_verdictOn_57 wF_X10_57 (A_6 hw) hT ?_
        refine mr_iload (pc := 60) (z := z3251) dX10_verdictOn_60 rfl ?_
        refine lk_20 (pc := 62) dX10_verdictOn_62 (A_20 hw) (rIx (n := 30) h3265 rfl) q3280 ?_
        refine mr_iconst (pc := 63) (z := (-1)) dX10_verdictOn_63 ?_
        refine mr_icmp_eq (pc := 64) (tgt := 79) dX10_verdictOn_64 (by decide) h3281 (r32 (rR (x := (-1))) rfl) (fun h3316 => ?_) (fun h3316 => ?_)
        · have h3317 : (-1) ≤ z3279 ∧ z3279 ≤ (-1) := (vc_X10_verdictOn_17 h3316 h3281)
          refine mr_iconst (pc := 79) (z := 1) dX10_verdictOn_79 ?_
          refine sv_goto (pc := 80) (tgt := 84) dX10_verdictOn_80 (by decide) ?_
          refine mr_istore (pc := 84) (lv' := [(8, iv 1), (7, iv 0), (0, .ref 6), (1, iv p1), (2, iv p2), (3, iv p3), (4, iv p4), (5, iv z3252), (6, iv z3251)]) dX10_verdictOn_84 (by decide) rfl ?_
          refine sv_aload_n (pc := 86) dX10_verdictOn_86 rfl rfl ?_
          refine gf_X10_7 (pc := 87) dX10_verdictOn_87 wF_X10_39 (A_6 hw) hT ?_
          refine mr_iload (pc := 90) (z := z3251) dX10_verdictOn_90 rfl ?_
          refine lk_14 (pc := 92) dX10_verdictOn_92 (A_14 hw) (rIx (n := 30) h3265 rfl) q3268 ?_
          refine mr_istore (pc := 93) (lv' := [(9, iv z3267), (8, iv 1), (7, iv 0), (0, .ref 6), (1, iv p1), (2, iv p2), (3, iv p3), (4, iv p4), (5, iv z3252), (6, iv z3251)]) dX10_verdictOn_93 (by decide) rfl ?_
          refine sv_aload_n (pc := 95) dX10_verdictOn_95 rfl rfl ?_
          refine gf_X10_1 (pc := 96) dX10_verdictOn_96 wF_X10_15 (A_6 hw) hT ?_
          refine mr_iload (pc := 99) (z := z3267) dX10_verdictOn_99 rfl ?_
          refine lk_8 (pc := 101) dX10_verdictOn_101 (A_8 hw) (rIx (n := 10) h3269 rfl) q3283 ?_
          refine sv_aload_n (pc := 102) dX10_verdictOn_102 rfl rfl ?_
          refine gf_X10_1 (pc := 103) dX10_verdictOn_103 wF_X10_15 (A_6 hw) hT ?_
          refine mr_iload_n (pc := 106) (z := p1) dX10_verdictOn_106 rfl rfl ?_
          refine lk_8 (pc := 107) dX10_verdictOn_107 (A_8 hw) (rIx (n := 10) hp1 rfl) q3286 ?_
          refine mr_icmp_gt (pc := 108) (tgt := 139) dX10_verdictOn_108 (by decide) (r32 h3284 rfl) (r32 h3287 rfl) (fun h3318 => ?_) (fun h3318 => ?_)
          · have h3319 : 1 ≤ z3282 ∧ z3282 ≤ 32 := (vc_X12_sends_17 h3318 h3284 h3287)
            have h3320 : 0 ≤ z3285 ∧ z3285 ≤ 31 := (vc_X12_sends_18 h3318 h3319 h3287)
            refine mr_iconst (pc := 139) (z := 0) dX10_verdictOn_139 ?_
            refine mr_istore (pc := 140) (lv' := [(10, iv 0), (9, iv z3267), (8, iv 1), (7, iv 0), (0, .ref 6), (1, iv p1), (2, iv p2), (3, iv p3), (4, iv p4), (5, iv z3252), (6, iv z3251)]) dX10_verdictOn_140 (by decide) rfl ?_
            refine mr_iload (pc := 142) (z := 0) dX10_verdictOn_142 rfl ?_
            refine mr_if_eq (pc := 144) (tgt := 192) dX10_verdictOn_144 (by decide) (r32 (rR (x := 0)) rfl) (fun _ => ?_) (fun h => ((vc_X12_next_469 h)).elim)
            refine mr_iinc (pc := 192) (lv' := [(6, iv (z3251 + 1)), (10, iv 0), (9, iv z3267), (8, iv 1), (7, iv 0), (0, .ref 6), (1, iv p1), (2, iv p2), (3, iv p3), (4, iv p4), (5, iv z3252)]) dX10_verdictOn_192 rfl (by decide) rfl ?_
            refine sv_goto (pc := 195) (tgt := 6) dX10_verdictOn_195 (by decide) ?_
            refine mr_lvS (lv' := [(0, .ref 6), (1, iv p1), (2, iv p2), (3, iv p3), (4, iv p4), (5, iv z3252), (6, iv (z3251 + 1))]) (List.forall_mem_cons.mpr ⟨rfl, List.forall_mem_cons.mpr ⟨rfl, List.forall_mem_cons.mpr ⟨rfl, List.forall_mem_cons.mpr ⟨rfl, List.forall_mem_cons.mpr ⟨rfl, List.forall_mem_cons.mpr ⟨rfl, List.forall_mem_cons.mpr ⟨rfl, fun _ h => absurd h List.not_mem_nil⟩⟩⟩⟩⟩⟩⟩) ?_
            exact ih3263 z3252 (z3251 + 1) trivial h3254 (rW (c := 0) (d := 30) (rAdd (e := 1) (f := 30) h3265 (rR (x := 1)) rfl) rfl) (vc_X12_judgedAnew_v_8 h3259 h3264 h3266 h3265) (vc_X10_verdictOn_v_13 h3260 h3254) (vd.skip R3261 (vc_X12_judgedAnew_v_10 h3259 h3264 h3266 h3265) (apC.no1 q3271 q3274 q3277 q3280 q3268 q3283 q3286 (vc_X10_verdictOn_v_19 h3303 h3306 h3316 h3318 h3305 hp4 h3304 h3275 h3278 h3317 h3319 h3320))) (vc_X12_judgedAnew_v_9 (nS h3262) h3259 h3264 h3266 h3265)
          refine sv_aload_n (pc := 111) dX10_verdictOn_111 rfl rfl ?_
          refine gf_X10_0 (pc := 112) dX10_verdictOn_112 wF_X10_9 (A_6 hw) hT ?_
          refine mr_iload_n (pc := 115) (z := p1) dX10_verdictOn_115 rfl rfl ?_
          refine lk_7 (pc := 116) dX10_verdictOn_116 (A_7 hw) (rIx (n := 10) hp1 rfl) q3292 ?_
          refine sv_aload_n (pc := 117) dX10_verdictOn_117 rfl rfl ?_
          refine gf_X10_2 (pc := 118) dX10_verdictOn_118 wF_X10_18 (A_6 hw) hT ?_
          refine mr_iload (pc := 121) (z := z3267) dX10_verdictOn_121 rfl ?_
          refine lk_9 (pc := 123) dX10_verdictOn_123 (A_9 hw) (rIx (n := 10) h3269 rfl) q3295 ?_
          refine mr_iand (pc := 124) (x := z3291) (y := z3294) dX10_verdictOn_124 ?_
          refine mr_gen (P := fun z => (-2147483648) ≤ z ∧ z ≤ 2147483647) (r32i _) fun z3321 q3322 h3323 => ?_
          refine sv_aload_n (pc := 125) dX10_verdictOn_125 rfl rfl ?_
          refine gf_X10_0 (pc := 126) dX10_verdictOn_126 wF_X10_9 (A_6 hw) hT ?_
          refine mr_iload (pc := 129) (z := z3267) dX10_verdictOn_129 rfl ?_
          refine lk_7 (pc := 131) dX10_verdictOn_131 (A_7 hw) (rIx (n := 10) h3269 rfl) q3289 ?_
          refine mr_icmp_ne (pc := 132) (tgt := 139) dX10_verdictOn_132 (by decide) h3323 h3290 (fun h3324 => ?_) (fun h3324 => ?_)
          · refine mr_iconst (pc := 139) (z := 0) dX10_verdictOn_139 ?_
            refine mr_istore (pc := 140) (lv' := [(10, iv 0), (9, iv z3267), (8, iv 1), (7, iv 0), (0, .ref 6), (1, iv p1), (2, iv p2), (3, iv p3), (4, iv p4), (5, iv z3252), (6, iv z3251)]) dX10_verdictOn_140 (by decide) rfl ?_
            refine mr_iload (pc := 142) (z := 0) dX10_verdictOn_142 rfl ?_
            refine mr_if_eq (pc := 144) (tgt := 192) dX10_verdictOn_144 (by decide) (r32 (rR (x := 0)) rfl) (fun _ => ?_) (fun h => ((vc_X12_next_469 h)).elim)
            refine mr_iinc (pc := 192) (lv' := [(6, iv (z3251 + 1)), (10, iv 0), (9, iv z3267), (8, iv 1), (7, iv 0), (0, .ref 6), (1, iv p1), (2, iv p2), (3, iv p3), (4, iv p4), (5, iv z3252)]) dX10_verdictOn_192 rfl (by decide) rfl ?_
            refine sv_goto (pc := 195) (tgt := 6) dX10_verdictOn_195 (by decide) ?_
            refine mr_lvS (lv' := [(0, .ref 6), (1, iv p1), (2, iv p2), (3, iv p3), (4, iv p4), (5, iv z3252), (6, iv (z3251 + 1))]) (List.forall_mem_cons.mpr ⟨rfl, List.forall_mem_cons.mpr ⟨rfl, List.forall_mem_cons.mpr ⟨rfl, List.forall_mem_cons.mpr ⟨rfl, List.forall_mem_cons.mpr ⟨rfl, List.forall_mem_cons.mpr ⟨rfl, List.forall_mem_cons.mpr ⟨rfl, fun _ h => absurd h List.not_mem_nil⟩⟩⟩⟩⟩⟩⟩) ?_
            exact ih3263 z3252 (z3251 + 1) trivial h3254 (rW (c := 0) (d := 30) (rAdd (e := 1) (f := 30) h3265 (rR (x := 1)) rfl) rfl) (vc_X12_judgedAnew_v_8 h3259 h3264 h3266 h3265) (vc_X10_verdictOn_v_13 h3260 h3254) (vd.skip R3261 (vc_X12_judgedAnew_v_10 h3259 h3264 h3266 h3265) (apC.no1 q3271 q3274 q3277 q3280 q3268 q3283 q3286 (vc_X10_verdictOn_v_20 h3303 h3306 h3316 h3318 h3305 hp4 h3304 h3275 h3278 h3317 h3284 h3287))) (vc_X12_judgedAnew_v_9 (nS h3262) h3259 h3264 h3266 h3265)
          refine mr_iconst (pc := 135) (z := 1) dX10_verdictOn_135 ?_
          refine sv_goto (pc := 136) (tgt := 140) dX10_verdictOn_136 (by decide) ?_
          refine mr_istore (pc := 140) (lv' := [(10, iv 1), (9, iv z3267), (8, iv 1), (7, iv 0), (0, .ref 6), (1, iv p1), (2, iv p2), (3, iv p3), (4, iv p4), (5, iv z3252), (6, iv z3251)]) dX10_verdictOn_140 (by decide) rfl ?_
          refine mr_iload (pc := 142) (z := 0) dX10_verdictOn_142 rfl ?_
          refine mr_if_eq (pc := 144) (tgt := 192) dX10_verdictOn_144 (by decide) (r32 (rR (x := 0)) rfl) (fun _ => ?_) (fun h => ((vc_X12_next_469 h)).elim)
          refine mr_iinc (pc := 192) (lv' := [(6, iv (z3251 + 1)), (10, iv 1), (9, iv z3267), (8, iv 1), (7, iv 0), (0, .ref 6), (1, iv p1), (2, iv p2), (3, iv p3), (4, iv p4), (5, iv z3252)]) dX10_verdictOn_192 rfl (by decide) rfl ?_
          refine sv_goto (pc := 195) (tgt := 6) dX10_verdictOn_195 (by decide) ?_
          refine mr_lvS (lv' := [(0, .ref 6), (1, iv p1), (2, iv p2), (3, iv p3), (4, iv p4), (5, iv z3252), (6, iv (z3251 + 1))]) (List.forall_mem_cons.mpr ⟨rfl, List.forall_mem_cons.mpr ⟨rfl, List.forall_mem_cons.mpr ⟨rfl, List.forall_mem_cons.mpr ⟨rfl, List.forall_mem_cons.mpr ⟨rfl, List.forall_mem_cons.mpr ⟨rfl, List.forall_mem_cons.mpr ⟨rfl, fun _ h => absurd h List.not_mem_nil⟩⟩⟩⟩⟩⟩⟩) ?_
          exact ih3263 z3252 (z3251 + 1) trivial h3254 (rW (c := 0) (d := 30) (rAdd (e := 1) (f := 30) h3265 (rR (x := 1)) rfl) rfl) (vc_X12_judgedAnew_v_8 h3259 h3264 h3266 h3265) (vc_X10_verdictOn_v_13 h3260 h3254) (vd.skip R3261 (vc_X12_judgedAnew_v_10 h3259 h3264 h3266 h3265) (apC.no1 q3271 q3274 q3277 q3280 q3268 q3283 q3286 (vc_X10_verdictOn_v_20 h3303 h3306 h3316 h3318 h3305 hp4 h3304 h3275 h3278 h3317 h3284 h3287))) (vc_X12_judgedAnew_v_9 (nS h3262) h3259 h3264 h3266 h3265)
        refine mr_iload (pc := 67) (z := p4) dX10_verdictOn_67 rfl ?_
        refine sv_aload_n (pc := 69) dX10_verdictOn_69 rfl rfl ?_
        refine gf_X10_13 (pc := 70) dX10_verdictOn_70 wF_X10_57 (A_6 hw) hT ?_
        refine mr_iload (pc := 73) (z := z3251) dX10_verdictOn_73 rfl ?_
        refine lk_20 (pc := 75) dX10_verdictOn_75 (A_20 hw) (rIx (n := 30) h3265 rfl) q3280 ?_
        refine mr_icmp_ge (pc := 76) (tgt := 83) dX10_verdictOn_76 (by decide) hp4 h3281 (fun h3325 => ?_) (fun h3325 => ?_)
        · refine mr_iconst (pc := 83) (z := 0) dX10_verdictOn_83 ?_
          refine mr_istore (pc := 84) (lv' := [(8, iv 0), (7, iv 0), (0, .ref 6), (1, iv p1), (2, iv p2), (3, iv p3), (4, iv p4), (5, iv z3252), (6, iv z3251)]) dX10_verdictOn_84 (by decide) rfl ?_
          refine sv_aload_n (pc := 86) dX10_verdictOn_86 rfl rfl ?_
          refine gf_X10_7 (pc := 87) dX10_verdictOn_87 wF_X10_39 (A_6 hw) hT ?_
          refine mr_iload (pc := 90) (z := z3251) dX10_verdictOn_90 rfl ?_
          refine lk_14 (pc := 92) dX10_verdictOn_92 (A_14 hw) (rIx (n := 30) h3265 rfl) q3268 ?_
          refine mr_istore (pc := 93) (lv' := [(9, iv z3267), (8, iv 0), (7, iv 0), (0, .ref 6), (1, iv p1), (2, iv p2), (3, iv p3), (4, iv p4), (5, iv z3252), (6, iv z3251)]) dX10_verdictOn_93 (by decide) rfl ?_
          refine sv_aload_n (pc := 95) dX10_verdictOn_95 rfl rfl ?_
          refine gf_X10_1 (pc := 96) dX10_verdictOn_96 wF_X10_15 (A_6 hw) hT ?_
          refine mr_iload (pc := 99) (z := z3267) dX10_verdictOn_99 rfl ?_
          refine lk_8 (pc := 101) dX10_verdictOn_101 (A_8 hw) (rIx (n := 10) h3269 rfl) q3283 ?_
          refine sv_aload_n (pc := 102) dX10_verdictOn_102 rfl rfl ?_
          refine gf_X10_1 (pc := 103) dX10_verdictOn_103 wF_X10_15 (A_6 hw) hT ?_
          refine mr_iload_n (pc := 106) (z := p1) dX10_verdictOn_106 rfl rfl ?_
          refine lk_8 (pc := 107) dX10_verdictOn_107 (A_8 hw) (rIx (n := 10) hp1 rfl) q3286 ?_
          refine mr_icmp_gt (pc := 108) (tgt := 139) dX10_verdictOn_108 (by decide) (r32 h3284 rfl) (r32 h3287 rfl) (fun h3326 => ?_) (fun h3326 => ?_)
          · have h3327 : 1 ≤ z3282 ∧ z3282 ≤ 32 := (vc_X12_sends_17 h3326 h3284 h3287)
            have h3328 : 0 ≤ z3285 ∧ z3285 ≤ 31 := (vc_X12_sends_18 h3326 h3327 h3287)
            refine mr_iconst (pc := 139) (z := 0) dX10_verdictOn_139 ?_
            refine mr_istore (pc := 140) (lv' := [(10, iv 0), (9, iv z3267), (8, iv 0), (7, iv 0), (0, .ref 6), (1, iv p1), (2, iv p2), (3, iv p3), (4, iv p4), (5, iv z3252), (6, iv z3251)]) dX10_verdictOn_140 (by decide) rfl ?_
            refine mr_iload (pc := 142) (z := 0) dX10_verdictOn_142 rfl ?_
            refine mr_if_eq (pc := 144) (tgt := 192) dX10_verdictOn_144 (by decide) (r32 (rR (x := 0)) rfl) (fun _ => ?_) (fun h => ((vc_X12_next_469 h)).elim)
            refine mr_iinc (pc := 192) (lv' := [(6, iv (z3251 + 1)), (10, iv 0), (9, iv z3267), (8, iv 0), (7, iv 0), (0, .ref 6), (1, iv p1), (2, iv p2), (3, iv p3), (4, iv p4), (5, iv z3252)]) dX10_verdictOn_192 rfl (by decide) rfl ?_
            refine sv_goto (pc := 195) (tgt := 6) dX10_verdictOn_195 (by decide) ?_
            refine mr_lvS (lv' := [(0, .ref 6), (1, iv p1), (2, iv p2), (3, iv p3), (4, iv p4), (5, iv z3252), (6, iv (z3251 + 1))]) (List.forall_mem_cons.mpr ⟨rfl, List.forall_mem_cons.mpr ⟨rfl, List.forall_mem_cons.mpr ⟨rfl, List.forall_mem_cons.mpr ⟨rfl, List.forall_mem_cons.mpr ⟨rfl, List.forall_mem_cons.mpr ⟨rfl, List.forall_mem_cons.mpr ⟨rfl, fun _ h => absurd h List.not_mem_nil⟩⟩⟩⟩⟩⟩⟩) ?_
            exact ih3263 z3252 (z3251 + 1) trivial h3254 (rW (c := 0) (d := 30) (rAdd (e := 1) (f := 30) h3265 (rR (x := 1)) rfl) rfl) (vc_X12_judgedAnew_v_8 h3259 h3264 h3266 h3265) (vc_X10_verdictOn_v_13 h3260 h3254) (vd.skip R3261 (vc_X12_judgedAnew_v_10 h3259 h3264 h3266 h3265) (apC.no1 q3271 q3274 q3277 q3280 q3268 q3283 q3286 (vc_X10_verdictOn_v_21 h3303 h3306 h3316 h3325 h3326 h3305 hp4 h3304 h3275 h3278 h3281 h3327 h3328))) (vc_X12_judgedAnew_v_9 (nS h3262) h3259 h3264 h3266 h3265)
          refine sv_aload_n (pc := 111) dX10_verdictOn_111 rfl rfl ?_
          refine gf_X10_0 (pc := 112) dX10_verdictOn_112 wF_X10_9 (A_6 hw) hT ?_
          refine mr_iload_n (pc := 115) (z := p1) dX10_verdictOn_115 rfl rfl ?_
          refine lk_7 (pc := 116) dX10_verdictOn_116 (A_7 hw) (rIx (n := 10) hp1 rfl) q3292 ?_
          refine sv_aload_n (pc := 117) dX10_verdictOn_117 rfl rfl ?_
          refine gf_X10_2 (pc := 118) dX10_verdictOn_118 wF_X10_18 (A_6 hw) hT ?_
          refine mr_iload (pc := 121) (z := z3267) dX10_verdictOn_121 rfl ?_
          refine lk_9 (pc := 123) dX10_verdictOn_123 (A_9 hw) (rIx (n := 10) h3269 rfl) q3295 ?_
          refine mr_iand (pc := 124) (x := z3291) (y := z3294) dX10_verdictOn_124 ?_
          refine mr_gen (P := fun z => (-2147483648) ≤ z ∧ z ≤ 2147483647) (r32i _) fun z3329 q3330 h3331 => ?_
          refine sv_aload_n (pc := 125) dX10_verdictOn_125 rfl rfl ?_
          refine gf_X10_0 (pc := 126) dX10_verdictOn_126 wF_X10_9 (A_6 hw) hT ?_
          refine mr_iload (pc := 129) (z := z3267) dX10_verdictOn_129 rfl ?_
          refine lk_7 (pc := 131) dX10_verdictOn_131 (A_7 hw) (rIx (n := 10) h3269 rfl) q3289 ?_
          refine mr_icmp_ne (pc := 132) (tgt := 139) dX10_verdictOn_132 (by decide) h3331 h3290 (fun h3332 => ?_) (fun h3332 => ?_)
          · refine mr_iconst (pc := 139) (z := 0) dX10_verdictOn_139 ?_
            refine mr_istore (pc := 140) (lv' := [(10, iv 0), (9, iv z3267), (8, iv 0), (7, iv 0), (0, .ref 6), (1, iv p1), (2, iv p2), (3, iv p3), (4, iv p4), (5, iv z3252), (6, iv z3251)]) dX10_verdictOn_140 (by decide) rfl ?_
            refine mr_iload (pc := 142) (z := 0) dX10_verdictOn_142 rfl ?_
            refine mr_if_eq (pc := 144) (tgt := 192) dX10_verdictOn_144 (by decide) (r32 (rR (x := 0)) rfl) (fun _ => ?_) (fun h => ((vc_X12_next_469 h)).elim)
            refine mr_iinc (pc := 192) (lv' := [(6, iv (z3251 + 1)), (10, iv 0), (9, iv z3267), (8, iv 0), (7, iv 0), (0, .ref 6), (1, iv p1), (2, iv p2), (3, iv p3), (4, iv p4), (5, iv z3252)]) dX10_verdictOn_192 rfl (by decide) rfl ?_
            refine sv_goto (pc := 195) (tgt := 6) dX10_verdictOn_195 (by decide) ?_
            refine mr_lvS (lv' := [(0, .ref 6), (1, iv p1), (2, iv p2), (3, iv p3), (4, iv p4), (5, iv z3252), (6, iv (z3251 + 1))]) (List.forall_mem_cons.mpr ⟨rfl, List.forall_mem_cons.mpr ⟨rfl, List.forall_mem_cons.mpr ⟨rfl, List.forall_mem_cons.mpr ⟨rfl, List.forall_mem_cons.mpr ⟨rfl, List.forall_mem_cons.mpr ⟨rfl, List.forall_mem_cons.mpr ⟨rfl, fun _ h => absurd h List.not_mem_nil⟩⟩⟩⟩⟩⟩⟩) ?_
            exact ih3263 z3252 (z3251 + 1) trivial h3254 (rW (c := 0) (d := 30) (rAdd (e := 1) (f := 30) h3265 (rR (x := 1)) rfl) rfl) (vc_X12_judgedAnew_v_8 h3259 h3264 h3266 h3265) (vc_X10_verdictOn_v_13 h3260 h3254) (vd.skip R3261 (vc_X12_judgedAnew_v_10 h3259 h3264 h3266 h3265) (apC.no1 q3271 q3274 q3277 q3280 q3268 q3283 q3286 (vc_X10_verdictOn_v_22 h3303 h3306 h3316 h3325 h3326 h3305 hp4 h3304 h3275 h3278 h3281 h3284 h3287))) (vc_X12_judgedAnew_v_9 (nS h3262) h3259 h3264 h3266 h3265)
          refine mr_iconst (pc := 135) (z := 1) dX10_verdictOn_135 ?_
          refine sv_goto (pc := 136) (tgt := 140) dX10_verdictOn_136 (by decide) ?_
          refine mr_istore (pc := 140) (lv' := [(10, iv 1), (9, iv z3267), (8, iv 0), (7, iv 0), (0, .ref 6), (1, iv p1), (2, iv p2), (3, iv p3), (4, iv p4), (5, iv z3252), (6, iv z3251)]) dX10_verdictOn_140 (by decide) rfl ?_
          refine mr_iload (pc := 142) (z := 0) dX10_verdictOn_142 rfl ?_
          refine mr_if_eq (pc := 144) (tgt := 192) dX10_verdictOn_144 (by decide) (r32 (rR (x := 0)) rfl) (fun _ => ?_) (fun h => ((vc_X12_next_469 h)).elim)
          refine mr_iinc (pc := 192) (lv' := [(6, iv (z3251 + 1)), (10, iv 1), (9, iv z3267), (8, iv 0), (7, iv 0), (0, .ref 6), (1, iv p1), (2, iv p2), (3, iv p3), (4, iv p4), (5, iv z3252)]) dX10_verdictOn_192 rfl (by decide) rfl ?_
          refine sv_goto (pc := 195) (tgt := 6) dX10_verdictOn_195 (by decide) ?_
          refine mr_lvS (lv' := [(0, .ref 6), (1, iv p1), (2, iv p2), (3, iv p3), (4, iv p4), (5, iv z3252), (6, iv (z3251 + 1))]) (List.forall_mem_cons.mpr ⟨rfl, List.forall_mem_cons.mpr ⟨rfl, List.forall_mem_cons.mpr ⟨rfl, List.forall_mem_cons.mpr ⟨rfl, List.forall_mem_cons.mpr ⟨rfl, List.forall_mem_cons.mpr ⟨rfl, List.forall_mem_cons.mpr ⟨rfl, fun _ h => absurd h List.not_mem_nil⟩⟩⟩⟩⟩⟩⟩) ?_
          exact ih3263 z3252 (z3251 + 1) trivial h3254 (rW (c := 0) (d := 30) (rAdd (e := 1) (f := 30) h3265 (rR (x := 1)) rfl) rfl) (vc_X12_judgedAnew_v_8 h3259 h3264 h3266 h3265) (vc_X10_verdictOn_v_13 h3260 h3254) (vd.skip R3261 (vc_X12_judgedAnew_v_10 h3259 h3264 h3266 h3265) (apC.no1 q3271 q3274 q3277 q3280 q3268 q3283 q3286 (vc_X10_verdictOn_v_22 h3303 h3306 h3316 h3325 h3326 h3305 hp4 h3304 h3275 h3278 h3281 h3284 h3287))) (vc_X12_judgedAnew_v_9 (nS h3262) h3259 h3264 h3266 h3265)
        have h3333 : (-2147483648) ≤ p4 ∧ p4 ≤ 2147483646 := (vc_X10_verdictOn_18 h3325 h3306 h3316 hp4 h3278 h3281)
        have h3334 : (-2147483647) ≤ z3279 ∧ z3279 ≤ 2147483647 := (vc_X10_verdictOn_19 h3325 h3306 h3316 h3333 h3278 h3281)
        refine mr_iconst (pc := 79) (z := 1) dX10_verdictOn_79 ?_
        refine sv_goto (pc := 80) (tgt := 84) dX10_verdictOn_80 (by decide) ?_
        refine mr_istore (pc := 84) (lv' := [(8, iv 1), (7, iv 0), (0, .ref 6), (1, iv p1), (2, iv p2), (3, iv p3), (4, iv p4), (5, iv z3252), (6, iv z3251)]) dX10_verdictOn_84 (by decide) rfl ?_
        refine sv_aload_n (pc := 86) dX10_verdictOn_86 rfl rfl ?_
        refine gf_X10_7 (pc := 87) dX10_verdictOn_87 wF_X10_39 (A_6 hw) hT ?_
        refine mr_iload (pc := 90) (z := z3251) dX10_verdictOn_90 rfl ?_
        refine lk_14 (pc := 92) dX10_verdictOn_92 (A_14 hw) (rIx (n := 30) h3265 rfl) q3268 ?_
        refine mr_istore (pc := 93) (lv' := [(9, iv z3267), (8, iv 1), (7, iv 0), (0, .ref 6), (1, iv p1), (2, iv p2), (3, iv p3), (4, iv p4), (5, iv z3252), (6, iv z3251)]) dX10_verdictOn_93 (by decide) rfl ?_
        refine sv_aload_n (pc := 95) dX10_verdictOn_95 rfl rfl ?_
        refine gf_X10_1 (pc := 96) dX10_verdictOn_96 wF_X10_15 (A_6 hw) hT ?_
        refine mr_iload (pc := 99) (z := z3267) dX10_verdictOn_99 rfl ?_
        refine lk_8 (pc := 101) dX10_verdictOn_101 (A_8 hw) (rIx (n := 10) h3269 rfl) q3283 ?_
        refine sv_aload_n (pc := 102) dX10_verdictOn_102 rfl rfl ?_
        refine gf_X10_1 (pc := 103) dX10_verdictOn_103 wF_X10_15 (A_6 hw) hT ?_
        refine mr_iload_n (pc := 106) (z := p1) dX10_verdictOn_106 rfl rfl ?_
        refine lk_8 (pc := 107) dX10_verdictOn_107 (A_8 hw) (rIx (n := 10) hp1 rfl) q3286 ?_
        refine mr_icmp_gt (pc := 108) (tgt := 139) dX10_verdictOn_108 (by decide) (r32 h3284 rfl) (r32 h3287 rfl) (fun h3335 => ?_) (fun h3335 => ?_)
        · have h3336 : 1 ≤ z3282 ∧ z3282 ≤ 32 := (vc_X12_sends_17 h3335 h3284 h3287)
          have h3337 : 0 ≤ z3285 ∧ z3285 ≤ 31 := (vc_X12_sends_18 h3335 h3336 h3287)
          refine mr_iconst (pc := 139) (z := 0) dX10_verdictOn_139 ?_
          refine mr_istore (pc := 140) (lv' := [(10, iv 0), (9, iv z3267), (8, iv 1), (7, iv 0), (0, .ref 6), (1, iv p1), (2, iv p2), (3, iv p3), (4, iv p4), (5, iv z3252), (6, iv z3251)]) dX10_verdictOn_140 (by decide) rfl ?_
          refine mr_iload (pc := 142) (z := 0) dX10_verdictOn_142 rfl ?_
          refine mr_if_eq (pc := 144) (tgt := 192) dX10_verdictOn_144 (by decide) (r32 (rR (x := 0)) rfl) (fun _ => ?_) (fun h => ((vc_X12_next_469 h)).elim)
          refine mr_iinc (pc := 192) (lv' := [(6, iv (z3251 + 1)), (10, iv 0), (9, iv z3267), (8, iv 1), (7, iv 0), (0, .ref 6), (1, iv p1), (2, iv p2), (3, iv p3), (4, iv p4), (5, iv z3252)]) dX10_verdictOn_192 rfl (by decide) rfl ?_
          refine sv_goto (pc := 195) (tgt := 6) dX10_verdictOn_195 (by decide) ?_
          refine mr_lvS (lv' := [(0, .ref 6), (1, iv p1), (2, iv p2), (3, iv p3), (4, iv p4), (5, iv z3252), (6, iv (z3251 + 1))]) (List.forall_mem_cons.mpr ⟨rfl, List.forall_mem_cons.mpr ⟨rfl, List.forall_mem_cons.mpr ⟨rfl, List.forall_mem_cons.mpr ⟨rfl, List.forall_mem_cons.mpr ⟨rfl, List.forall_mem_cons.mpr ⟨rfl, List.forall_mem_cons.mpr ⟨rfl, fun _ h => absurd h List.not_mem_nil⟩⟩⟩⟩⟩⟩⟩) ?_
          exact ih3263 z3252 (z3251 + 1) trivial h3254 (rW (c := 0) (d := 30) (rAdd (e := 1) (f := 30) h3265 (rR (x := 1)) rfl) rfl) (vc_X12_judgedAnew_v_8 h3259 h3264 h3266 h3265) (vc_X10_verdictOn_v_13 h3260 h3254) (vd.skip R3261 (vc_X12_judgedAnew_v_10 h3259 h3264 h3266 h3265) (apC.no1 q3271 q3274 q3277 q3280 q3268 q3283 q3286 (vc_X10_verdictOn_v_25 h3303 h3306 h3316 h3325 h3335 h3305 h3333 h3304 h3275 h3278 h3334 h3336 h3337))) (vc_X12_judgedAnew_v_9 (nS h3262) h3259 h3264 h3266 h3265)
        refine sv_aload_n (pc := 111) dX10_verdictOn_111 rfl rfl ?_
        refine gf_X10_0 (pc := 112) dX10_verdictOn_112 wF_X10_9 (A_6 hw) hT ?_
        refine mr_iload_n (pc := 115) (z := p1) dX10_verdictOn_115 rfl rfl ?_
        refine lk_7 (pc := 116) dX10_verdictOn_116 (A_7 hw) (rIx (n := 10) hp1 rfl) q3292 ?_
        refine sv_aload_n (pc := 117) dX10_verdictOn_117 rfl rfl ?_
        refine gf_X10_2 (pc := 118) dX10_verdictOn_118 wF_X10_18 (A_6 hw) hT ?_
        refine mr_iload (pc := 121) (z := z3267) dX10_verdictOn_121 rfl ?_
        refine lk_9 (pc := 123) dX10_verdictOn_123 (A_9 hw) (rIx (n := 10) h3269 rfl) q3295 ?_
        refine mr_iand (pc := 124) (x := z3291) (y := z3294) dX10_verdictOn_124 ?_
        refine mr_gen (P := fun z => (-2147483648) ≤ z ∧ z ≤ 2147483647) (r32i _) fun z3338 q3339 h3340 => ?_
        refine sv_aload_n (pc := 125) dX10_verdictOn_125 rfl rfl ?_
        refine gf_X10_0 (pc := 126) dX10_verdictOn_126 wF_X10_9 (A_6 hw) hT ?_
        refine mr_iload (pc := 129) (z := z3267) dX10_verdictOn_129 rfl ?_
        refine lk_7 (pc := 131) dX10_verdictOn_131 (A_7 hw) (rIx (n := 10) h3269 rfl) q3289 ?_
        refine mr_icmp_ne (pc := 132) (tgt := 139) dX10_verdictOn_132 (by decide) h3340 h3290 (fun h3341 => ?_) (fun h3341 => ?_)
        · refine mr_iconst (pc := 139) (z := 0) dX10_verdictOn_139 ?_
          refine mr_istore (pc := 140) (lv' := [(10, iv 0), (9, iv z3267), (8, iv 1), (7, iv 0), (0, .ref 6), (1, iv p1), (2, iv p2), (3, iv p3), (4, iv p4), (5, iv z3252), (6, iv z3251)]) dX10_verdictOn_140 (by decide) rfl ?_
          refine mr_iload (pc := 142) (z := 0) dX10_verdictOn_142 rfl ?_
          refine mr_if_eq (pc := 144) (tgt := 192) dX10_verdictOn_144 (by decide) (r32 (rR (x := 0)) rfl) (fun _ => ?_) (fun h => ((vc_X12_next_469 h)).elim)
          refine mr_iinc (pc := 192) (lv' := [(6, iv (z3251 + 1)), (10, iv 0), (9, iv z3267), (8, iv 1), (7, iv 0), (0, .ref 6), (1, iv p1), (2, iv p2), (3, iv p3), (4, iv p4), (5, iv z3252)]) dX10_verdictOn_192 rfl (by decide) rfl ?_
          refine sv_goto (pc := 195) (tgt := 6) dX10_verdictOn_195 (by decide) ?_
          refine mr_lvS (lv' := [(0, .ref 6), (1, iv p1), (2, iv p2), (3, iv p3), (4, iv p4), (5, iv z3252), (6, iv (z3251 + 1))]) (List.forall_mem_cons.mpr ⟨rfl, List.forall_mem_cons.mpr ⟨rfl, List.forall_mem_cons.mpr ⟨rfl, List.forall_mem_cons.mpr ⟨rfl, List.forall_mem_cons.mpr ⟨rfl, List.forall_mem_cons.mpr ⟨rfl, List.forall_mem_cons.mpr ⟨rfl, fun _ h => absurd h List.not_mem_nil⟩⟩⟩⟩⟩⟩⟩) ?_
          exact ih3263 z3252 (z3251 + 1) trivial h3254 (rW (c := 0) (d := 30) (rAdd (e := 1) (f := 30) h3265 (rR (x := 1)) rfl) rfl) (vc_X12_judgedAnew_v_8 h3259 h3264 h3266 h3265) (vc_X10_verdictOn_v_13 h3260 h3254) (vd.skip R3261 (vc_X12_judgedAnew_v_10 h3259 h3264 h3266 h3265) (apC.no1 q3271 q3274 q3277 q3280 q3268 q3283 q3286 (vc_X10_verdictOn_v_26 h3303 h3306 h3316 h3325 h3335 h3305 h3333 h3304 h3275 h3278 h3334 h3284 h3287))) (vc_X12_judgedAnew_v_9 (nS h3262) h3259 h3264 h3266 h3265)
        refine mr_iconst (pc := 135) (z := 1) dX10_verdictOn_135 ?_
        refine sv_goto (pc := 136) (tgt := 140) dX10_verdictOn_136 (by decide) ?_
        refine mr_istore (pc := 140) (lv' := [(10, iv 1), (9, iv z3267), (8, iv 1), (7, iv 0), (0, .ref 6), (1, iv p1), (2, iv p2), (3, iv p3), (4, iv p4), (5, iv z3252), (6, iv z3251)]) dX10_verdictOn_140 (by decide) rfl ?_
        refine mr_iload (pc := 142) (z := 0) dX10_verdictOn_142 rfl ?_
        refine mr_if_eq (pc := 144) (tgt := 192) dX10_verdictOn_144 (by decide) (r32 (rR (x := 0)) rfl) (fun _ => ?_) (fun h => ((vc_X12_next_469 h)).elim)
        refine mr_iinc (pc := 192) (lv' := [(6, iv (z3251 + 1)), (10, iv 1), (9, iv z3267), (8, iv 1), (7, iv 0), (0, .ref 6), (1, iv p1), (2, iv p2), (3, iv p3), (4, iv p4), (5, iv z3252)]) dX10_verdictOn_192 rfl (by decide) rfl ?_
        refine sv_goto (pc := 195) (tgt := 6) dX10_verdictOn_195 (by decide) ?_
        refine mr_lvS (lv' := [(0, .ref 6), (1, iv p1), (2, iv p2), (3, iv p3), (4, iv p4), (5, iv z3252), (6, iv (z3251 + 1))]) (List.forall_mem_cons.mpr ⟨rfl, List.forall_mem_cons.mpr ⟨rfl, List.forall_mem_cons.mpr ⟨rfl, List.forall_mem_cons.mpr ⟨rfl, List.forall_mem_cons.mpr ⟨rfl, List.forall_mem_cons.mpr ⟨rfl, List.forall_mem_cons.mpr ⟨rfl, fun _ h => absurd h List.not_mem_nil⟩⟩⟩⟩⟩⟩⟩) ?_
        exact ih3263 z3252 (z3251 + 1) trivial h3254 (rW (c := 0) (d := 30) (rAdd (e := 1) (f := 30) h3265 (rR (x := 1)) rfl) rfl) (vc_X12_judgedAnew_v_8 h3259 h3264 h3266 h3265) (vc_X10_verdictOn_v_13 h3260 h3254) (vd.skip R3261 (vc_X12_judgedAnew_v_10 h3259 h3264 h3266 h3265) (apC.no1 q3271 q3274 q3277 q3280 q3268 q3283 q3286 (vc_X10_verdictOn_v_26 h3303 h3306 h3316 h3325 h3335 h3305 h3333 h3304 h3275 h3278 h3334 h3284 h3287))) (vc_X12_judgedAnew_v_9 (nS h3262) h3259 h3264 h3266 h3265)
      refine mr_iload_n (pc := 26) (z := p3) dX10_verdictOn_26 rfl rfl ?_
      refine sv_aload_n (pc := 27) dX10_verdictOn_27 rfl rfl ?_
      refine gf_X10_11 (pc := 28) dX10_verdictOn_28 wF_X10_51 (A_6 hw) hT ?_
      refine mr_iload (pc := 31) (z := z3251) dX10_verdictOn_31 rfl ?_
      refine lk_18 (pc := 33) dX10_verdictOn_33 (A_18 hw) (rIx (n := 30) h3265 rfl) q3274 ?_
      refine mr_icmp_ge (pc := 34) (tgt := 41) dX10_verdictOn_34 (by decide) hp3 h3275 (fun h3342 => ?_) (fun h3342 => ?_)
      · refine mr_iconst (pc := 41) (z := 0) dX10_verdictOn_41 ?_
        refine mr_istore (pc := 42) (lv' := [(7, iv 0), (0, .ref 6), (1, iv p1), (2, iv p2), (3, iv p3), (4, iv p4), (5, iv z3252), (6, iv z3251)]) dX10_verdictOn_42 (by decide) rfl ?_
        refine sv_aload_n (pc := 44) dX10_verdictOn_44 rfl rfl ?_
        refine gf_X10_12 (pc := 45) dX10_verdictOn_45 wF_X10_54 (A_6 hw) hT ?_
        refine mr_iload (pc := 48) (z := z3251) dX10_verdictOn_48 rfl ?_
        refine lk_19 (pc := 50) dX10_verdictOn_50 (A_19 hw) (rIx (n := 30) h3265 rfl) q3277 ?_
        refine mr_iload (pc := 51) (z := p4) dX10_verdictOn_51 rfl ?_
        refine mr_icmp_gt (pc := 53) (tgt := 83) dX10_verdictOn_53 (by decide) h3278 hp4 (fun h3343 => ?_) (fun h3343 => ?_)
        · have h3344 : (-2147483647) ≤ z3276 ∧ z3276 ≤ 2147483647 := (vc_X10_verdictOn_15 h3343 hp4 h3278)
          have h3345 : (-2147483648) ≤ p4 ∧ p4 ≤ 2147483646 := (vc_X10_verdictOn_16 h3343 hp4 h3344)
          refine mr_iconst (pc := 83) (z := 0) dX10_verdictOn_83 ?_
          refine mr_istore (pc := 84) (lv' := [(8, iv 0), (7, iv 0), (0, .ref 6), (1, iv p1), (2, iv p2), (3, iv p3), (4, iv p4), (5, iv z3252), (6, iv z3251)]) dX10_verdictOn_84 (by decide) rfl ?_
          refine sv_aload_n (pc := 86) dX10_verdictOn_86 rfl rfl ?_
          refine gf_X10_7 (pc := 87) dX10_verdictOn_87 wF_X10_39 (A_6 hw) hT ?_
          refine mr_iload (pc := 90) (z := z3251) dX10_verdictOn_90 rfl ?_
          refine lk_14 (pc := 92) dX10_verdictOn_92 (A_14 hw) (rIx (n := 30) h3265 rfl) q3268 ?_
          refine mr_istore (pc := 93) (lv' := [(9, iv z3267), (8, iv 0), (7, iv 0), (0, .ref 6), (1, iv p1), (2, iv p2), (3, iv p3), (4, iv p4), (5, iv z3252), (6, iv z3251)]) dX10_verdictOn_93 (by decide) rfl ?_
          refine sv_aload_n (pc := 95) dX10_verdictOn_95 rfl rfl ?_
          refine gf_X10_1 (pc := 96) dX10_verdictOn_96 wF_X10_15 (A_6 hw) hT ?_
          refine mr_iload (pc := 99) (z := z3267) dX10_verdictOn_99 rfl ?_
          refine lk_8 (pc := 101) dX10_verdictOn_101 (A_8 hw) (rIx (n := 10) h3269 rfl) q3283 ?_
          refine sv_aload_n (pc := 102) dX10_verdictOn_102 rfl rfl ?_
          refine gf_X10_1 (pc := 103) dX10_verdictOn_103 wF_X10_15 (A_6 hw) hT ?_
          refine mr_iload_n (pc := 106) (z := p1) dX10_verdictOn_106 rfl rfl ?_
          refine lk_8 (pc := 107) dX10_verdictOn_107 (A_8 hw) (rIx (n := 10) hp1 rfl) q3286 ?_
          refine mr_icmp_gt (pc := 108) (tgt := 139) dX10_verdictOn_108 (by decide) (r32 h3284 rfl) (r32 h3287 rfl) (fun h3346 => ?_) (fun h3346 => ?_)
          · have h3347 : 1 ≤ z3282 ∧ z3282 ≤ 32 := (vc_X12_sends_17 h3346 h3284 h3287)
            have h3348 : 0 ≤ z3285 ∧ z3285 ≤ 31 := (vc_X12_sends_18 h3346 h3347 h3287)
            refine mr_iconst (pc := 139) (z := 0) dX10_verdictOn_139 ?_
            refine mr_istore (pc := 140) (lv' := [(10, iv 0), (9, iv z3267), (8, iv 0), (7, iv 0), (0, .ref 6), (1, iv p1), (2, iv p2), (3, iv p3), (4, iv p4), (5, iv z3252), (6, iv z3251)]) dX10_verdictOn_140 (by decide) rfl ?_
            refine mr_iload (pc := 142) (z := 0) dX10_verdictOn_142 rfl ?_
            refine mr_if_eq (pc := 144) (tgt := 192) dX10_verdictOn_144 (by decide) (r32 (rR (x := 0)) rfl) (fun _ => ?_) (fun h => ((vc_X12_next_469 h)).elim)
            refine mr_iinc (pc := 192) (lv' := [(6, iv (z3251 + 1)), (10, iv 0), (9, iv z3267), (8, iv 0), (7, iv 0), (0, .ref 6), (1, iv p1), (2, iv p2), (3, iv p3), (4, iv p4), (5, iv z3252)]) dX10_verdictOn_192 rfl (by decide) rfl ?_
            refine sv_goto (pc := 195) (tgt := 6) dX10_verdictOn_195 (by decide) ?_
            refine mr_lvS (lv' := [(0, .ref 6), (1, iv p1), (2, iv p2), (3, iv p3), (4, iv p4), (5, iv z3252), (6, iv (z3251 + 1))]) (List.forall_mem_cons.mpr ⟨rfl, List.forall_mem_cons.mpr ⟨rfl, List.forall_mem_cons.mpr ⟨rfl, List.forall_mem_cons.mpr ⟨rfl, List.forall_mem_cons.mpr ⟨rfl, List.forall_mem_cons.mpr ⟨rfl, List.forall_mem_cons.mpr ⟨rfl, fun _ h => absurd h List.not_mem_nil⟩⟩⟩⟩⟩⟩⟩) ?_
            exact ih3263 z3252 (z3251 + 1) trivial h3254 (rW (c := 0) (d := 30) (rAdd (e := 1) (f := 30) h3265 (rR (x := 1)) rfl) rfl) (vc_X12_judgedAnew_v_8 h3259 h3264 h3266 h3265) (vc_X10_verdictOn_v_13 h3260 h3254) (vd.skip R3261 (vc_X12_judgedAnew_v_10 h3259 h3264 h3266 h3265) (apC.no1 q3271 q3274 q3277 q3280 q3268 q3283 q3286 (vc_X10_verdictOn_v_27 h3303 h3342 h3343 h3346 hp3 h3345 h3272 h3275 h3344 h3281 h3347 h3348))) (vc_X12_judgedAnew_v_9 (nS h3262) h3259 h3264 h3266 h3265)
          refine sv_aload_n (pc := 111) dX10_verdictOn_111 rfl rfl ?_
          refine gf_X10_0 (pc := 112) dX10_verdictOn_112 wF_X10_9 (A_6 hw) hT ?_
          refine mr_iload_n (pc := 115) (z := p1) dX10_verdictOn_115 rfl rfl ?_
          refine lk_7 (pc := 116) dX10_verdictOn_116 (A_7 hw) (rIx (n := 10) hp1 rfl) q3292 ?_
          refine sv_aload_n (pc := 117) dX10_verdictOn_117 rfl rfl ?_
          refine gf_X10_2 (pc := 118) dX10_verdictOn_118 wF_X10_18 (A_6 hw) hT ?_
          refine mr_iload (pc := 121) (z := z3267) dX10_verdictOn_121 rfl ?_
          refine lk_9 (pc := 123) dX10_verdictOn_123 (A_9 hw) (rIx (n := 10) h3269 rfl) q3295 ?_
          refine mr_iand (pc := 124) (x := z3291) (y := z3294) dX10_verdictOn_124 ?_
          refine mr_gen (P := fun z => (-2147483648) ≤ z ∧ z ≤ 2147483647) (r32i _) fun z3349 q3350 h3351 => ?_
          refine sv_aload_n (pc := 125) dX10_verdictOn_125 rfl rfl ?_
          refine gf_X10_0 (pc := 126) dX10_verdictOn_126 wF_X10_9 (A_6 hw) hT ?_
          refine mr_iload (pc := 129) (z := z3267) dX10_verdictOn_129 rfl ?_
          refine lk_7 (pc := 131) dX10_verdictOn_131 (A_7 hw) (rIx (n := 10) h3269 rfl) q3289 ?_
          refine mr_icmp_ne (pc := 132) (tgt := 139) dX10_verdictOn_132 (by decide) h3351 h3290 (fun h3352 => ?_) (fun h3352 => ?_)
          · refine mr_iconst (pc := 139) (z := 0) dX10_verdictOn_139 ?_
            refine mr_istore (pc := 140) (lv' := [(10, iv 0), (9, iv z3267), (8, iv 0), (7, iv 0), (0, .ref 6), (1, iv p1), (2, iv p2), (3, iv p3), (4, iv p4), (5, iv z3252), (6, iv z3251)]) dX10_verdictOn_140 (by decide) rfl ?_
            refine mr_iload (pc := 142) (z := 0) dX10_verdictOn_142 rfl ?_
            refine mr_if_eq (pc := 144) (tgt := 192) dX10_verdictOn_144 (by decide) (r32 (rR (x := 0)) rfl) (fun _ => ?_) (fun h => ((vc_X12_next_469 h)).elim)
            refine mr_iinc (pc := 192) (lv' := [(6, iv (z3251 + 1)), (10, iv 0), (9, iv z3267), (8, iv 0), (7, iv 0), (0, .ref 6), (1, iv p1), (2, iv p2), (3, iv p3), (4, iv p4), (5, iv z3252)]) dX10_verdictOn_192 rfl (by decide) rfl ?_
            refine sv_goto (pc := 195) (tgt := 6) dX10_verdictOn_195 (by decide) ?_
            refine mr_lvS (lv' := [(0, .ref 6), (1, iv p1), (2, iv p2), (3, iv p3), (4, iv p4), (5, iv z3252), (6, iv (z3251 + 1))]) (List.forall_mem_cons.mpr ⟨rfl, List.forall_mem_cons.mpr ⟨rfl, List.forall_mem_cons.mpr ⟨rfl, List.forall_mem_cons.mpr ⟨rfl, List.forall_mem_cons.mpr ⟨rfl, List.forall_mem_cons.mpr ⟨rfl, List.forall_mem_cons.mpr ⟨rfl, fun _ h => absurd h List.not_mem_nil⟩⟩⟩⟩⟩⟩⟩) ?_
            exact ih3263 z3252 (z3251 + 1) trivial h3254 (rW (c := 0) (d := 30) (rAdd (e := 1) (f := 30) h3265 (rR (x := 1)) rfl) rfl) (vc_X12_judgedAnew_v_8 h3259 h3264 h3266 h3265) (vc_X10_verdictOn_v_13 h3260 h3254) (vd.skip R3261 (vc_X12_judgedAnew_v_10 h3259 h3264 h3266 h3265) (apC.no1 q3271 q3274 q3277 q3280 q3268 q3283 q3286 (vc_X10_verdictOn_v_28 h3303 h3342 h3343 h3346 hp3 h3345 h3272 h3275 h3344 h3281 h3284 h3287))) (vc_X12_judgedAnew_v_9 (nS h3262) h3259 h3264 h3266 h3265)
          refine mr_iconst (pc := 135) (z := 1) dX10_verdictOn_135 ?_
          refine sv_goto (pc := 136) (tgt := 140) dX10_verdictOn_136 (by decide) ?_
          refine mr_istore (pc := 140) (lv' := [(10, iv 1), (9, iv z3267), (8, iv 0), (7, iv 0), (0, .ref 6), (1, iv p1), (2, iv p2), (3, iv p3), (4, iv p4), (5, iv z3252), (6, iv z3251)]) dX10_verdictOn_140 (by decide) rfl ?_
          refine mr_iload (pc := 142) (z := 0) dX10_verdictOn_142 rfl ?_
          refine mr_if_eq (pc := 144) (tgt := 192) dX10_verdictOn_144 (by decide) (r32 (rR (x := 0)) rfl) (fun _ => ?_) (fun h => ((vc_X12_next_469 h)).elim)
          refine mr_iinc (pc := 192) (lv' := [(6, iv (z3251 + 1)), (10, iv 1), (9, iv z3267), (8, iv 0), (7, iv 0), (0, .ref 6), (1, iv p1), (2, iv p2), (3, iv p3), (4, iv p4), (5, iv z3252)]) dX10_verdictOn_192 rfl (by decide) rfl ?_
          refine sv_goto (pc := 195) (tgt := 6) dX10_verdictOn_195 (by decide) ?_
          refine mr_lvS (lv' := [(0, .ref 6), (1, iv p1), (2, iv p2), (3, iv p3), (4, iv p4), (5, iv z3252), (6, iv (z3251 + 1))]) (List.forall_mem_cons.mpr ⟨rfl, List.forall_mem_cons.mpr ⟨rfl, List.forall_mem_cons.mpr ⟨rfl, List.forall_mem_cons.mpr ⟨rfl, List.forall_mem_cons.mpr ⟨rfl, List.forall_mem_cons.mpr ⟨rfl, List.forall_mem_cons.mpr ⟨rfl, fun _ h => absurd h List.not_mem_nil⟩⟩⟩⟩⟩⟩⟩) ?_
          exact ih3263 z3252 (z3251 + 1) trivial h3254 (rW (c := 0) (d := 30) (rAdd (e := 1) (f := 30) h3265 (rR (x := 1)) rfl) rfl) (vc_X12_judgedAnew_v_8 h3259 h3264 h3266 h3265) (vc_X10_verdictOn_v_13 h3260 h3254) (vd.skip R3261 (vc_X12_judgedAnew_v_10 h3259 h3264 h3266 h3265) (apC.no1 q3271 q3274 q3277 q3280 q3268 q3283 q3286 (vc_X10_verdictOn_v_28 h3303 h3342 h3343 h3346 hp3 h3345 h3272 h3275 h3344 h3281 h3284 h3287))) (vc_X12_judgedAnew_v_9 (nS h3262) h3259 h3264 h3266 h3265)
        refine sv_aload_n (pc := 56) dX10_verdictOn_56 rfl rfl ?_
        refine gf_X10_13 (pc := 57) dX10_verdictOn_57 wF_X10_57 (A_6 hw) hT ?_
        refine mr_iload (pc := 60) (z := z3251) dX10_verdictOn_60 rfl ?_
        refine lk_20 (pc := 62) dX10_verdictOn_62 (A_20 hw) (rIx (n := 30) h3265 rfl) q3280 ?_
        refine mr_iconst (pc := 63) (z := (-1)) dX10_verdictOn_63 ?_
        refine mr_icmp_eq (pc := 64) (tgt := 79) dX10_verdictOn_64 (by decide) h3281 (r32 (rR (x := (-1))) rfl) (fun h3353 => ?_) (fun h3353 => ?_)
        · have h3354 : (-1) ≤ z3279 ∧ z3279 ≤ (-1) := (vc_X10_verdictOn_17 h3353 h3281)
          refine mr_iconst (pc := 79) (z := 1) dX10_verdictOn_79 ?_
          refine sv_goto (pc := 80) (tgt := 84) dX10_verdictOn_80 (by decide) ?_
          refine mr_istore (pc := 84) (lv' := [(8, iv 1), (7, iv 0), (0, .ref 6), (1, iv p1), (2, iv p2), (3, iv p3), (4, iv p4), (5, iv z3252), (6, iv z3251)]) dX10_verdictOn_84 (by decide) rfl ?_
          refine sv_aload_n (pc := 86) dX10_verdictOn_86 rfl rfl ?_
          refine gf_X10_7 (pc := 87) dX10_verdictOn_87 wF_X10_39 (A_6 hw) hT ?_
          refine mr_iload (pc := 90) (z := z3251) dX10_verdictOn_90 rfl ?_
          refine lk_14 (pc := 92) dX10_verdictOn_92 (A_14 hw) (rIx (n := 30) h3265 rfl) q3268 ?_
          refine mr_istore (pc := 93) (lv' := [(9, iv z3267), (8, iv 1), (7, iv 0), (0, .ref 6), (1, iv p1), (2, iv p2), (3, iv p3), (4, iv p4), (5, iv z3252), (6, iv z3251)]) dX10_verdictOn_93 (by decide) rfl ?_
          refine sv_aload_n (pc := 95) dX10_verdictOn_95 rfl rfl ?_
          refine gf_X10_1 (pc := 96) dX10_verdictOn_96 wF_X10_15 (A_6 hw) hT ?_
          refine mr_iload (pc := 99) (z := z3267) dX10_verdictOn_99 rfl ?_
          refine lk_8 (pc := 101) dX10_verdictOn_101 (A_8 hw) (rIx (n := 10) h3269 rfl) q3283 ?_
          refine sv_aload_n (pc := 102) dX10_verdictOn_102 rfl rfl ?_
          refine gf_X10_1 (pc := 103) dX10_verdictOn_103 wF_X10_15 (A_6 hw) hT ?_
          refine mr_iload_n (pc := 106) (z := p1) dX10_verdictOn_106 rfl rfl ?_
          refine lk_8 (pc := 107) dX10_verdictOn_107 (A_8 hw) (rIx (n := 10) hp1 rfl) q3286 ?_
          refine mr_icmp_gt (pc := 108) (tgt := 139) dX10_verdictOn_108 (by decide) (r32 h3284 rfl) (r32 h3287 rfl) (fun h3355 => ?_) (fun h3355 => ?_)
          · have h3356 : 1 ≤ z3282 ∧ z3282 ≤ 32 := (vc_X12_sends_17 h3355 h3284 h3287)
            have h3357 : 0 ≤ z3285 ∧ z3285 ≤ 31 := (vc_X12_sends_18 h3355 h3356 h3287)
            refine mr_iconst (pc := 139) (z := 0) dX10_verdictOn_139 ?_
            refine mr_istore (pc := 140) (lv' := [(10, iv 0), (9, iv z3267), (8, iv 1), (7, iv 0), (0, .ref 6), (1, iv p1), (2, iv p2), (3, iv p3), (4, iv p4), (5, iv z3252), (6, iv z3251)]) dX10_verdictOn_140 (by decide) rfl ?_
            refine mr_iload (pc := 142) (z := 0) dX10_verdictOn_142 rfl ?_
            refine mr_if_eq (pc := 144) (tgt := 192) dX10_verdictOn_144 (by decide) (r32 (rR (x := 0)) rfl) (fun _ => ?_) (fun h => ((vc_X12_next_469 h)).elim)
            refine mr_iinc (pc := 192) (lv' := [(6, iv (z3251 + 1)), (10, iv 0), (9, iv z3267), (8, iv 1), (7, iv 0), (0, .ref 6), (1, iv p1), (2, iv p2), (3, iv p3), (4, iv p4), (5, iv z3252)]) dX10_verdictOn_192 rfl (by decide) rfl ?_
            refine sv_goto (pc := 195) (tgt := 6) dX10_verdictOn_195 (by decide) ?_
            refine mr_lvS (lv' := [(0, .ref 6), (1, iv p1), (2, iv p2), (3, iv p3), (4, iv p4), (5, iv z3252), (6, iv (z3251 + 1))]) (List.forall_mem_cons.mpr ⟨rfl, List.forall_mem_cons.mpr ⟨rfl, List.forall_mem_cons.mpr ⟨rfl, List.forall_mem_cons.mpr ⟨rfl, List.forall_mem_cons.mpr ⟨rfl, List.forall_mem_cons.mpr ⟨rfl, List.forall_mem_cons.mpr ⟨rfl, fun _ h => absurd h List.not_mem_nil⟩⟩⟩⟩⟩⟩⟩) ?_
            exact ih3263 z3252 (z3251 + 1) trivial h3254 (rW (c := 0) (d := 30) (rAdd (e := 1) (f := 30) h3265 (rR (x := 1)) rfl) rfl) (vc_X12_judgedAnew_v_8 h3259 h3264 h3266 h3265) (vc_X10_verdictOn_v_13 h3260 h3254) (vd.skip R3261 (vc_X12_judgedAnew_v_10 h3259 h3264 h3266 h3265) (apC.no1 q3271 q3274 q3277 q3280 q3268 q3283 q3286 (vc_X10_verdictOn_v_29 h3303 h3342 h3343 h3353 h3355 hp3 hp4 h3272 h3275 h3278 h3354 h3356 h3357))) (vc_X12_judgedAnew_v_9 (nS h3262) h3259 h3264 h3266 h3265)
          refine sv_aload_n (pc := 111) dX10_verdictOn_111 rfl rfl ?_
          refine gf_X10_0 (pc := 112) dX10_verdictOn_112 wF_X10_9 (A_6 hw) hT ?_
          refine mr_iload_n (pc := 115) (z := p1) dX10_verdictOn_115 rfl rfl ?_
          refine lk_7 (pc := 116) dX10_verdictOn_116 (A_7 hw) (rIx (n := 10) hp1 rfl) q3292 ?_
          refine sv_aload_n (pc := 117) dX10_verdictOn_117 rfl rfl ?_
          refine gf_X10_2 (pc := 118) dX10_verdictOn_118 wF_X10_18 (A_6 hw) hT ?_
          refine mr_iload (pc := 121) (z := z3267) dX10_verdictOn_121 rfl ?_
          refine lk_9 (pc := 123) dX10_verdictOn_123 (A_9 hw) (rIx (n := 10) h3269 rfl) q3295 ?_
          refine mr_iand (pc := 124) (x := z3291) (y := z3294) dX10_verdictOn_124 ?_
          refine mr_gen (P := fun z => (-2147483648) ≤ z ∧ z ≤ 2147483647) (r32i _) fun z3358 q3359 h3360 => ?_
          refine sv_aload_n (pc := 125) dX10_verdictOn_125 rfl rfl ?_
          refine gf_X10_0 (pc := 126) dX10_verdictOn_126 wF_X10_9 (A_6 hw) hT ?_
          refine mr_iload (pc := 129) (z := z3267) dX10_verdictOn_129 rfl ?_
          refine lk_7 (pc := 131) dX10_verdictOn_131 (A_7 hw) (rIx (n := 10) h3269 rfl) q3289 ?_
          refine mr_icmp_ne (pc := 132) (tgt := 139) dX10_verdictOn_132 (by decide) h3360 h3290 (fun h3361 => ?_) (fun h3361 => ?_)
          · refine mr_iconst (pc := 139) (z := 0) dX10_verdictOn_139 ?_
            refine mr_istore (pc := 140) (lv' := [(10, iv 0), (9, iv z3267), (8, iv 1), (7, iv 0), (0, .ref 6), (1, iv p1), (2, iv p2), (3, iv p3), (4, iv p4), (5, iv z3252), (6, iv z3251)]) dX10_verdictOn_140 (by decide) rfl ?_
            refine mr_iload (pc := 142) (z := 0) dX10_verdictOn_142 rfl ?_
            refine mr_if_eq (pc := 144) (tgt := 192) dX10_verdictOn_144 (by decide) (r32 (rR (x := 0)) rfl) (fun _ => ?_) (fun h => ((vc_X12_next_469 h)).elim)
            refine mr_iinc (pc := 192) (lv' := [(6, iv (z3251 + 1)), (10, iv 0), (9, iv z3267), (8, iv 1), (7, iv 0), (0, .ref 6), (1, iv p1), (2, iv p2), (3, iv p3), (4, iv p4), (5, iv z3252)]) dX10_verdictOn_192 rfl (by decide) rfl ?_
            refine sv_goto (pc := 195) (tgt := 6) dX10_verdictOn_195 (by decide) ?_
            refine mr_lvS (lv' := [(0, .ref 6), (1, iv p1), (2, iv p2), (3, iv p3), (4, iv p4), (5, iv z3252), (6, iv (z3251 + 1))]) (List.forall_mem_cons.mpr ⟨rfl, List.forall_mem_cons.mpr ⟨rfl, List.forall_mem_cons.mpr ⟨rfl, List.forall_mem_cons.mpr ⟨rfl, List.forall_mem_cons.mpr ⟨rfl, List.forall_mem_cons.mpr ⟨rfl, List.forall_mem_cons.mpr ⟨rfl, fun _ h => absurd h List.not_mem_nil⟩⟩⟩⟩⟩⟩⟩) ?_
            exact ih3263 z3252 (z3251 + 1) trivial h3254 (rW (c := 0) (d := 30) (rAdd (e := 1) (f := 30) h3265 (rR (x := 1)) rfl) rfl) (vc_X12_judgedAnew_v_8 h3259 h3264 h3266 h3265) (vc_X10_verdictOn_v_13 h3260 h3254) (vd.skip R3261 (vc_X12_judgedAnew_v_10 h3259 h3264 h3266 h3265) (apC.no1 q3271 q3274 q3277 q3280 q3268 q3283 q3286 (vc_X10_verdictOn_v_30 h3303 h3342 h3343 h3353 h3355 hp3 hp4 h3272 h3275 h3278 h3354 h3284 h3287))) (vc_X12_judgedAnew_v_9 (nS h3262) h3259 h3264 h3266 h3265)
          refine mr_iconst (pc := 135) (z := 1) dX10_verdictOn_135 ?_
          refine sv_goto (pc := 136) (tgt := 140) dX10_verdictOn_136 (by decide) ?_
          refine mr_istore (pc := 140) (lv' := [(10, iv 1), (9, iv z3267), (8, iv 1), (7, iv 0), (0, .ref 6), (1, iv p1), (2, iv p2), (3, iv p3), (4, iv p4), (5, iv z3252), (6, iv z3251)]) dX10_verdictOn_140 (by decide) rfl ?_
          refine mr_iload (pc := 142) (z := 0) dX10_verdictOn_142 rfl ?_
          refine mr_if_eq (pc := 144) (tgt := 192) dX10_verdictOn_144 (by decide) (r32 (rR (x := 0)) rfl) (fun _ => ?_) (fun h => ((vc_X12_next_469 h)).elim)
          refine mr_iinc (pc := 192) (lv' := [(6, iv (z3251 + 1)), (10, iv 1), (9, iv z3267), (8, iv 1), (7, iv 0), (0, .ref 6), (1, iv p1), (2, iv p2), (3, iv p3), (4, iv p4), (5, iv z3252)]) dX10_verdictOn_192 rfl (by decide) rfl ?_
          refine sv_goto (pc := 195) (tgt := 6) dX10_verdictOn_195 (by decide) ?_
          refine mr_lvS (lv' := [(0, .ref 6), (1, iv p1), (2, iv p2), (3, iv p3), (4, iv p4), (5, iv z3252), (6, iv (z3251 + 1))]) (List.forall_mem_cons.mpr ⟨rfl, List.forall_mem_cons.mpr ⟨rfl, List.forall_mem_cons.mpr ⟨rfl, List.forall_mem_cons.mpr ⟨rfl, List.forall_mem_cons.mpr ⟨rfl, List.forall_mem_cons.mpr ⟨rfl, List.forall_mem_cons.mpr ⟨rfl, fun _ h => absurd h List.not_mem_nil⟩⟩⟩⟩⟩⟩⟩) ?_
          exact ih3263 z3252 (z3251 + 1) trivial h3254 (rW (c := 0) (d := 30) (rAdd (e := 1) (f := 30) h3265 (rR (x := 1)) rfl) rfl) (vc_X12_judgedAnew_v_8 h3259 h3264 h3266 h3265) (vc_X10_verdictOn_v_13 h3260 h3254) (vd.skip R3261 (vc_X12_judgedAnew_v_10 h3259 h3264 h3266 h3265) (apC.no1 q3271 q3274 q3277 q3280 q3268 q3283 q3286 (vc_X10_verdictOn_v_30 h3303 h3342 h3343 h3353 h3355 hp3 hp4 h3272 h3275 h3278 h3354 h3284 h3287))) (vc_X12_judgedAnew_v_9 (nS h3262) h3259 h3264 h3266 h3265)
        refine mr_iload (pc := 67) (z := p4) dX10_verdictOn_67 rfl ?_
        refine sv_aload_n (pc := 69) dX10_verdictOn_69 rfl rfl ?_
        refine gf_X10_13 (pc := 70) dX10_verdictOn_70 wF_X10_57 (A_6 hw) hT ?_
        refine mr_iload (pc := 73) (z := z3251) dX10_verdictOn_73 rfl ?_
        refine lk_20 (pc := 75) dX10_verdictOn_75 (A_20 hw) (rIx (n := 30) h3265 rfl) q3280 ?_
        refine mr_icmp_ge (pc := 76) (tgt := 83) dX10_verdictOn_76 (by decide) hp4 h3281 (fun h3362 => ?_) (fun h3362 => ?_)
        · refine mr_iconst (pc := 83) (z := 0) dX10_verdictOn_83 ?_
          refine mr_istore (pc := 84) (lv' := [(8, iv 0), (7, iv 0), (0, .ref 6), (1, iv p1), (2, iv p2), (3, iv p3), (4, iv p4), (5, iv z3252), (6, iv z3251)]) dX10_verdictOn_84 (by decide) rfl ?_
          refine sv_aload_n (pc := 86) dX10_verdictOn_86 rfl rfl ?_
          refine gf_X10_7 (pc := 87) dX10_verdictOn_87 wF_X10_39 (A_6 hw) hT ?_
          refine mr_iload (pc := 90) (z := z3251) dX10_verdictOn_90 rfl ?_
          refine lk_14 (pc := 92) dX10_verdictOn_92 (A_14 hw) (rIx (n := 30) h3265 rfl) q3268 ?_
          refine mr_istore (pc := 93) (lv' := [(9, iv z3267), (8, iv 0), (7, iv 0), (0, .ref 6), (1, iv p1), (2, iv p2), (3, iv p3), (4, iv p4), (5, iv z3252), (6, iv z3251)]) dX10_verdictOn_93 (by decide) rfl ?_
          refine sv_aload_n (pc := 95) dX10_verdictOn_95 rfl rfl ?_
          refine gf_X10_1 (pc := 96) dX10_verdictOn_96 wF_X10_15 (A_6 hw) hT ?_
          refine mr_iload (pc := 99) (z := z3267) dX10_verdictOn_99 rfl ?_
          refine lk_8 (pc := 101) dX10_verdictOn_101 (A_8 hw) (rIx (n := 10) h3269 rfl) q3283 ?_
          refine sv_aload_n (pc := 102) dX10_verdictOn_102 rfl rfl ?_
          refine gf_X10_1 (pc := 103) dX10_verdictOn_103 wF_X10_15 (A_6 hw) hT ?_
          refine mr_iload_n (pc := 106) (z := p1) dX10_verdictOn_106 rfl rfl ?_
          refine lk_8 (pc := 107) dX10_verdictOn_107 (A_8 hw) (rIx (n := 10) hp1 rfl) q3286 ?_
          refine mr_icmp_gt (pc := 108) (tgt := 139) dX10_verdictOn_108 (by decide) (r32 h3284 rfl) (r32 h3287 rfl) (fun h3363 => ?_) (fun h3363 => ?_)
          · have h3364 : 1 ≤ z3282 ∧ z3282 ≤ 32 := (vc_X12_sends_17 h3363 h3284 h3287)
            have h3365 : 0 ≤ z3285 ∧ z3285 ≤ 31 := (vc_X12_sends_18 h3363 h3364 h3287)
            refine mr_iconst (pc := 139) (z := 0) dX10_verdictOn_139 ?_
            refine mr_istore (pc := 140) (lv' := [(10, iv 0), (9, iv z3267), (8, iv 0), (7, iv 0), (0, .ref 6), (1, iv p1), (2, iv p2), (3, iv p3), (4, iv p4), (5, iv z3252), (6, iv z3251)]) dX10_verdictOn_140 (by decide) rfl ?_
            refine mr_iload (pc := 142) (z := 0) dX10_verdictOn_142 rfl ?_
            refine mr_if_eq (pc := 144) (tgt := 192) dX10_verdictOn_144 (by decide) (r32 (rR (x := 0)) rfl) (fun _ => ?_) (fun h => ((vc_X12_next_469 h)).elim)
            refine mr_iinc (pc := 192) (lv' := [(6, iv (z3251 + 1)), (10, iv 0), (9, iv z3267), (8, iv 0), (7, iv 0), (0, .ref 6), (1, iv p1), (2, iv p2), (3, iv p3), (4, iv p4), (5, iv z3252)]) dX10_verdictOn_192 rfl (by decide) rfl ?_
            refine sv_goto (pc := 195) (tgt := 6) dX10_verdictOn_195 (by decide) ?_
            refine mr_lvS (lv' := [(0, .ref 6), (1, iv p1), (2, iv p2), (3, iv p3), (4, iv p4), (5, iv z3252), (6, iv (z3251 + 1))]) (List.forall_mem_cons.mpr ⟨rfl, List.forall_mem_cons.mpr ⟨rfl, List.forall_mem_cons.mpr ⟨rfl, List.forall_mem_cons.mpr ⟨rfl, List.forall_mem_cons.mpr ⟨rfl, List.forall_mem_cons.mpr ⟨rfl, List.forall_mem_cons.mpr ⟨rfl, fun _ h => absurd h List.not_mem_nil⟩⟩⟩⟩⟩⟩⟩) ?_
            exact ih3263 z3252 (z3251 + 1) trivial h3254 (rW (c := 0) (d := 30) (rAdd (e := 1) (f := 30) h3265 (rR (x := 1)) rfl) rfl) (vc_X12_judgedAnew_v_8 h3259 h3264 h3266 h3265) (vc_X10_verdictOn_v_13 h3260 h3254) (vd.skip R3261 (vc_X12_judgedAnew_v_10 h3259 h3264 h3266 h3265) (apC.no1 q3271 q3274 q3277 q3280 q3268 q3283 q3286 (vc_X10_verdictOn_v_31 h3303 h3342 h3343 h3353 h3362 h3363 hp3 hp4 h3272 h3275 h3278 h3281 h3364 h3365))) (vc_X12_judgedAnew_v_9 (nS h3262) h3259 h3264 h3266 h3265)
          refine sv_aload_n (pc := 111) dX10_verdictOn_111 rfl rfl ?_
          refine gf_X10_0 (pc := 112) dX10_verdictOn_112 wF_X10_9 (A_6 hw) hT ?_
          refine mr_iload_n (pc := 115) (z := p1) dX10_verdictOn_115 rfl rfl ?_
          refine lk_7 (pc := 116) dX10_verdictOn_116 (A_7 hw) (rIx (n := 10) hp1 rfl) q3292 ?_
          refine sv_aload_n (pc := 117) dX10_verdictOn_117 rfl rfl ?_
          refine gf_X10_2 (pc := 118) dX10_verdictOn_118 wF_X10_18 (A_6 hw) hT ?_
          refine mr_iload (pc := 121) (z := z3267) dX10_verdictOn_121 rfl ?_
          refine lk_9 (pc := 123) dX10_verdictOn_123 (A_9 hw) (rIx (n := 10) h3269 rfl) q3295 ?_
          refine mr_iand (pc := 124) (x := z3291) (y := z3294) dX10_verdictOn_124 ?_
          refine mr_gen (P := fun z => (-2147483648) ≤ z ∧ z ≤ 2147483647) (r32i _) fun z3366 q3367 h3368 => ?_
          refine sv_aload_n (pc := 125) dX10_verdictOn_125 rfl rfl ?_
          refine gf_X10_0 (pc := 126) dX10_verdictOn_126 wF_X10_9 (A_6 hw) hT ?_
          refine mr_iload (pc := 129) (z := z3267) dX10_verdictOn_129 rfl ?_
          refine lk_7 (pc := 131) dX10_verdictOn_131 (A_7 hw) (rIx (n := 10) h3269 rfl) q3289 ?_
          refine mr_icmp_ne (pc := 132) (tgt := 139) dX10_verdictOn_132 (by decide) h3368 h3290 (fun h3369 => ?_) (fun h3369 => ?_)
          · refine mr_iconst (pc := 139) (z := 0) dX10_verdictOn_139 ?_
            refine mr_istore (pc := 140) (lv' := [(10, iv 0), (9, iv z3267), (8, iv 0), (7, iv 0), (0, .ref 6), (1, iv p1), (2, iv p2), (3, iv p3), (4, iv p4), (5, iv z3252), (6, iv z3251)]) dX10_verdictOn_140 (by decide) rfl ?_
            refine mr_iload (pc := 142) (z := 0) dX10_verdictOn_142 rfl ?_
            refine mr_if_eq (pc := 144) (tgt := 192) dX10_verdictOn_144 (by decide) (r32 (rR (x := 0)) rfl) (fun _ => ?_) (fun h => ((vc_X12_next_469 h)).elim)
            refine mr_iinc (pc := 192) (lv' := [(6, iv (z3251 + 1)), (10, iv 0), (9, iv z3267), (8, iv 0), (7, iv 0), (0, .ref 6), (1, iv p1), (2, iv p2), (3, iv p3), (4, iv p4), (5, iv z3252)]) dX10_verdictOn_192 rfl (by decide) rfl ?_
            refine sv_goto (pc := 195) (tgt := 6) dX10_verdictOn_195 (by decide) ?_
            refine mr_lvS (lv' := [(0, .ref 6), (1, iv p1), (2, iv p2), (3, iv p3), (4, iv p4), (5, iv z3252), (6, iv (z3251 + 1))]) (List.forall_mem_cons.mpr ⟨rfl, List.forall_mem_cons.mpr ⟨rfl, List.forall_mem_cons.mpr ⟨rfl, List.forall_mem_cons.mpr ⟨rfl, List.forall_mem_cons.mpr ⟨rfl, List.forall_mem_cons.mpr ⟨rfl, List.forall_mem_cons.mpr ⟨rfl, fun _ h => absurd h List.not_mem_nil⟩⟩⟩⟩⟩⟩⟩) ?_
            exact ih3263 z3252 (z3251 + 1) trivial h3254 (rW (c := 0) (d := 30) (rAdd (e := 1) (f := 30) h3265 (rR (x := 1)) rfl) rfl) (vc_X12_judgedAnew_v_8 h3259 h3264 h3266 h3265) (vc_X10_verdictOn_v_13 h3260 h3254) (vd.skip R3261 (vc_X12_judgedAnew_v_10 h3259 h3264 h3266 h3265) (apC.no1 q3271 q3274 q3277 q3280 q3268 q3283 q3286 (vc_X10_verdictOn_v_32 h3303 h3342 h3343 h3353 h3362 h3363 hp3 hp4 h3272 h3275 h3278 h3281 h3284 h3287))) (vc_X12_judgedAnew_v_9 (nS h3262) h3259 h3264 h3266 h3265)
          refine mr_iconst (pc := 135) (z := 1) dX10_verdictOn_135 ?_
          refine sv_goto (pc := 136) (tgt := 140) dX10_verdictOn_136 (by decide) ?_
          refine mr_istore (pc := 140) (lv' := [(10, iv 1), (9, iv z3267), (8, iv 0), (7, iv 0), (0, .ref 6), (1, iv p1), (2, iv p2), (3, iv p3), (4, iv p4), (5, iv z3252), (6, iv z3251)]) dX10_verdictOn_140 (by decide) rfl ?_
          refine mr_iload (pc := 142) (z := 0) dX10_verdictOn_142 rfl ?_
          refine mr_if_eq (pc := 144) (tgt := 192) dX10_verdictOn_144 (by decide) (r32 (rR (x := 0)) rfl) (fun _ => ?_) (fun h => ((vc_X12_next_469 h)).elim)
          refine mr_iinc (pc := 192) (lv' := [(6, iv (z3251 + 1)), (10, iv 1), (9, iv z3267), (8, iv 0), (7, iv 0), (0, .ref 6), (1, iv p1), (2, iv p2), (3, iv p3), (4, iv p4), (5, iv z3252)]) dX10_verdictOn_192 rfl (by decide) rfl ?_
          refine sv_goto (pc := 195) (tgt := 6) dX10_verdictOn_195 (by decide) ?_
          refine mr_lvS (lv' := [(0, .ref 6), (1, iv p1), (2, iv p2), (3, iv p3), (4, iv p4), (5, iv z3252), (6, iv (z3251 + 1))]) (List.forall_mem_cons.mpr ⟨rfl, List.forall_mem_cons.mpr ⟨rfl, List.forall_mem_cons.mpr ⟨rfl, List.forall_mem_cons.mpr ⟨rfl, List.forall_mem_cons.mpr ⟨rfl, List.forall_mem_cons.mpr ⟨rfl, List.forall_mem_cons.mpr ⟨rfl, fun _ h => absurd h List.not_mem_nil⟩⟩⟩⟩⟩⟩⟩) ?_
          exact ih3263 z3252 (z3251 + 1) trivial h3254 (rW (c := 0) (d := 30) (rAdd (e := 1) (f := 30) h3265 (rR (x := 1)) rfl) rfl) (vc_X12_judgedAnew_v_8 h3259 h3264 h3266 h3265) (vc_X10_verdictOn_v_13 h3260 h3254) (vd.skip R3261 (vc_X12_judgedAnew_v_10 h3259 h3264 h3266 h3265) (apC.no1 q3271 q3274 q3277 q3280 q3268 q3283 q3286 (vc_X10_verdictOn_v_32 h3303 h3342 h3343 h3353 h3362 h3363 hp3 hp4 h3272 h3275 h3278 h3281 h3284 h3287))) (vc_X12_judgedAnew_v_9 (nS h3262) h3259 h3264 h3266 h3265)
        have h3370 : (-2147483648) ≤ p4 ∧ p4 ≤ 2147483646 := (vc_X10_verdictOn_18 h3362 h3343 h3353 hp4 h3278 h3281)
        have h3371 : (-2147483647) ≤ z3279 ∧ z3279 ≤ 2147483647 := (vc_X10_verdictOn_19 h3362 h3343 h3353 h3370 h3278 h3281)
        refine mr_iconst (pc := 79) (z := 1) dX10_verdictOn_79 ?_
        refine sv_goto (pc := 80) (tgt := 84) dX10_verdictOn_80 (by decide) ?_
        refine mr_istore (pc := 84) (lv' := [(8, iv 1), (7, iv 0), (0, .ref 6), (1, iv p1), (2, iv p2), (3, iv p3), (4, iv p4), (5, iv z3252), (6, iv z3251)]) dX10_verdictOn_84 (by decide) rfl ?_
        refine sv_aload_n (pc := 86) dX10_verdictOn_86 rfl rfl ?_
        refine gf_X10_7 (pc := 87) dX10_verdictOn_87 wF_X10_39 (A_6 hw) hT ?_
        refine mr_iload (pc := 90) (z := z3251) dX10_verdictOn_90 rfl ?_
        refine lk_14 (pc := 92) dX10_verdictOn_92 (A_14 hw) (rIx (n := 30) h3265 rfl) q3268 ?_
        refine mr_istore (pc := 93) (lv' := [(9, iv z3267), (8, iv 1), (7, iv 0), (0, .ref 6), (1, iv p1), (2, iv p2), (3, iv p3), (4, iv p4), (5, iv z3252), (6, iv z3251)]) dX10_verdictOn_93 (by decide) rfl ?_
        refine sv_aload_n (pc := 95) dX10_verdictOn_95 rfl rfl ?_
        refine gf_X10_1 (pc := 96) dX10_verdictOn_96 wF_X10_15 (A_6 hw) hT ?_
        refine mr_iload (pc := 99) (z := z3267) dX10_verdictOn_99 rfl ?_
        refine lk_8 (pc := 101) dX10_verdictOn_101 (A_8 hw) (rIx (n := 10) h3269 rfl) q3283 ?_
        refine sv_aload_n (pc := 102) dX10_verdictOn_102 rfl rfl ?_
        refine gf_X10_1 (pc := 103) dX10_verdictOn_103 wF_X10_15 (A_6 hw) hT ?_
        refine mr_iload_n (pc := 106) (z := p1) dX10_verdictOn_106 rfl rfl ?_
        refine lk_8 (pc := 107) dX10_verdictOn_107 (A_8 hw) (rIx (n := 10) hp1 rfl) q3286 ?_
        refine mr_icmp_gt (pc := 108) (tgt := 139) dX10_verdictOn_108 (by decide) (r32 h3284 rfl) (r32 h3287 rfl) (fun h3372 => ?_) (fun h3372 => ?_)
        · have h3373 : 1 ≤ z3282 ∧ z3282 ≤ 32 := (vc_X12_sends_17 h3372 h3284 h3287)
          have h3374 : 0 ≤ z3285 ∧ z3285 ≤ 31 := (vc_X12_sends_18 h3372 h3373 h3287)
          refine mr_iconst (pc := 139) (z := 0) dX10_verdictOn_139 ?_
          refine mr_istore (pc := 140) (lv' := [(10, iv 0), (9, iv z3267), (8, iv 1), (7, iv 0), (0, .ref 6), (1, iv p1), (2, iv p2), (3, iv p3), (4, iv p4), (5, iv z3252), (6, iv z3251)]) dX10_verdictOn_140 (by decide) rfl ?_
          refine mr_iload (pc := 142) (z := 0) dX10_verdictOn_142 rfl ?_
          refine mr_if_eq (pc := 144) (tgt := 192) dX10_verdictOn_144 (by decide) (r32 (rR (x := 0)) rfl) (fun _ => ?_) (fun h => ((vc_X12_next_469 h)).elim)
          refine mr_iinc (pc := 192) (lv' := [(6, iv (z3251 + 1)), (10, iv 0), (9, iv z3267), (8, iv 1), (7, iv 0), (0, .ref 6), (1, iv p1), (2, iv p2), (3, iv p3), (4, iv p4), (5, iv z3252)]) dX10_verdictOn_192 rfl (by decide) rfl ?_
          refine sv_goto (pc := 195) (tgt := 6) dX10_verdictOn_195 (by decide) ?_
          refine mr_lvS (lv' := [(0, .ref 6), (1, iv p1), (2, iv p2), (3, iv p3), (4, iv p4), (5, iv z3252), (6, iv (z3251 + 1))]) (List.forall_mem_cons.mpr ⟨rfl, List.forall_mem_cons.mpr ⟨rfl, List.forall_mem_cons.mpr ⟨rfl, List.forall_mem_cons.mpr ⟨rfl, List.forall_mem_cons.mpr ⟨rfl, List.forall_mem_cons.mpr ⟨rfl, List.forall_mem_cons.mpr ⟨rfl, fun _ h => absurd h List.not_mem_nil⟩⟩⟩⟩⟩⟩⟩) ?_
          exact ih3263 z3252 (z3251 + 1) trivial h3254 (rW (c := 0) (d := 30) (rAdd (e := 1) (f := 30) h3265 (rR (x := 1)) rfl) rfl) (vc_X12_judgedAnew_v_8 h3259 h3264 h3266 h3265) (vc_X10_verdictOn_v_13 h3260 h3254) (vd.skip R3261 (vc_X12_judgedAnew_v_10 h3259 h3264 h3266 h3265) (apC.no1 q3271 q3274 q3277 q3280 q3268 q3283 q3286 (vc_X10_verdictOn_v_33 h3303 h3342 h3343 h3353 h3362 h3372 hp3 h3370 h3272 h3275 h3278 h3371 h3373 h3374))) (vc_X12_judgedAnew_v_9 (nS h3262) h3259 h3264 h3266 h3265)
        refine sv_aload_n (pc := 111) dX10_verdictOn_111 rfl rfl ?_
        refine gf_X10_0 (pc := 112) dX10_verdictOn_112 wF_X10_9 (A_6 hw) hT ?_
        refine mr_iload_n (pc := 115) (z := p1) dX10_verdictOn_115 rfl rfl ?_
        refine lk_7 (pc := 116) dX10_verdictOn_116 (A_7 hw) (rIx (n := 10) hp1 rfl) q3292 ?_
        refine sv_aload_n (pc := 117) dX10_verdictOn_117 rfl rfl ?_
        refine gf_X10_2 (pc := 118) dX10_verdictOn_118 wF_X10_18 (A_6 hw) hT ?_
        refine mr_iload (pc := 121) (z := z3267) dX10_verdictOn_121 rfl ?_
        refine lk_9 (pc := 123) dX10_verdictOn_123 (A_9 hw) (rIx (n := 10) h3269 rfl) q3295 ?_
        refine mr_iand (pc := 124) (x := z3291) (y := z3294) dX10_verdictOn_124 ?_
        refine mr_gen (P := fun z => (-2147483648) ≤ z ∧ z ≤ 2147483647) (r32i _) fun z3375 q3376 h3377 => ?_
        refine sv_aload_n (pc := 125) dX10_verdictOn_125 rfl rfl ?_
        refine gf_X10_0 (pc := 126) dX10_verdictOn_126 wF_X10_9 (A_6 hw) hT ?_
        refine mr_iload (pc := 129) (z := z3267) dX10_verdictOn_129 rfl ?_
        refine lk_7 (pc := 131) dX10_verdictOn_131 (A_7 hw) (rIx (n := 10) h3269 rfl) q3289 ?_
        refine mr_icmp_ne (pc := 132) (tgt := 139) dX10_verdictOn_132 (by decide) h3377 h3290 (fun h3378 => ?_) (fun h3378 => ?_)
        · refine mr_iconst (pc := 139) (z := 0) dX10_verdictOn_139 ?_
          refine mr_istore (pc := 140) (lv' := [(10, iv 0), (9, iv z3267), (8, iv 1), (7, iv 0), (0, .ref 6), (1, iv p1), (2, iv p2), (3, iv p3), (4, iv p4), (5, iv z3252), (6, iv z3251)]) dX10_verdictOn_140 (by decide) rfl ?_
          refine mr_iload (pc := 142) (z := 0) dX10_verdictOn_142 rfl ?_
          refine mr_if_eq (pc := 144) (tgt := 192) dX10_verdictOn_144 (by decide) (r32 (rR (x := 0)) rfl) (fun _ => ?_) (fun h => ((vc_X12_next_469 h)).elim)
          refine mr_iinc (pc := 192) (lv' := [(6, iv (z3251 + 1)), (10, iv 0), (9, iv z3267), (8, iv 1), (7, iv 0), (0, .ref 6), (1, iv p1), (2, iv p2), (3, iv p3), (4, iv p4), (5, iv z3252)]) dX10_verdictOn_192 rfl (by decide) rfl ?_
          refine sv_goto (pc := 195) (tgt := 6) dX10_verdictOn_195 (by decide) ?_
          refine mr_lvS (lv' := [(0, .ref 6), (1, iv p1), (2, iv p2), (3, iv p3), (4, iv p4), (5, iv z3252), (6, iv (z3251 + 1))]) (List.forall_mem_cons.mpr ⟨rfl, List.forall_mem_cons.mpr ⟨rfl, List.forall_mem_cons.mpr ⟨rfl, List.forall_mem_cons.mpr ⟨rfl, List.forall_mem_cons.mpr ⟨rfl, List.forall_mem_cons.mpr ⟨rfl, List.forall_mem_cons.mpr ⟨rfl, fun _ h => absurd h List.not_mem_nil⟩⟩⟩⟩⟩⟩⟩) ?_
          exact ih3263 z3252 (z3251 + 1) trivial h3254 (rW (c := 0) (d := 30) (rAdd (e := 1) (f := 30) h3265 (rR (x := 1)) rfl) rfl) (vc_X12_judgedAnew_v_8 h3259 h3264 h3266 h3265) (vc_X10_verdictOn_v_13 h3260 h3254) (vd.skip R3261 (vc_X12_judgedAnew_v_10 h3259 h3264 h3266 h3265) (apC.no1 q3271 q3274 q3277 q3280 q3268 q3283 q3286 (vc_X10_verdictOn_v_34 h3303 h3342 h3343 h3353 h3362 h3372 hp3 h3370 h3272 h3275 h3278 h3371 h3284 h3287))) (vc_X12_judgedAnew_v_9 (nS h3262) h3259 h3264 h3266 h3265)
        refine mr_iconst (pc := 135) (z := 1) dX10_verdictOn_135 ?_
        refine sv_goto (pc := 136) (tgt := 140) dX10_verdictOn_136 (by decide) ?_
        refine mr_istore (pc := 140) (lv' := [(10, iv 1), (9, iv z3267), (8, iv 1), (7, iv 0), (0, .ref 6), (1, iv p1), (2, iv p2), (3, iv p3), (4, iv p4), (5, iv z3252), (6, iv z3251)]) dX10_verdictOn_140 (by decide) rfl ?_
        refine mr_iload (pc := 142) (z := 0) dX10_verdictOn_142 rfl ?_
        refine mr_if_eq (pc := 144) (tgt := 192) dX10_verdictOn_144 (by decide) (r32 (rR (x := 0)) rfl) (fun _ => ?_) (fun h => ((vc_X12_next_469 h)).elim)
        refine mr_iinc (pc := 192) (lv' := [(6, iv (z3251 + 1)), (10, iv 1), (9, iv z3267), (8, iv 1), (7, iv 0), (0, .ref 6), (1, iv p1), (2, iv p2), (3, iv p3), (4, iv p4), (5, iv z3252)]) dX10_verdictOn_192 rfl (by decide) rfl ?_
        refine sv_goto (pc := 195) (tgt := 6) dX10_verdictOn_195 (by decide) ?_
        refine mr_lvS (lv' := [(0, .ref 6), (1, iv p1), (2, iv p2), (3, iv p3), (4, iv p4), (5, iv z3252), (6, iv (z3251 + 1))]) (List.forall_mem_cons.mpr ⟨rfl, List.forall_mem_cons.mpr ⟨rfl, List.forall_mem_cons.mpr ⟨rfl, List.forall_mem_cons.mpr ⟨rfl, List.forall_mem_cons.mpr ⟨rfl, List.forall_mem_cons.mpr ⟨rfl, List.forall_mem_cons.mpr ⟨rfl, fun _ h => absurd h List.not_mem_nil⟩⟩⟩⟩⟩⟩⟩) ?_
        exact ih3263 z3252 (z3251 + 1) trivial h3254 (rW (c := 0) (d := 30) (rAdd (e := 1) (f := 30) h3265 (rR (x := 1)) rfl) rfl) (vc_X12_judgedAnew_v_8 h3259 h3264 h3266 h3265) (vc_X10_verdictOn_v_13 h3260 h3254) (vd.skip R3261 (vc_X12_judgedAnew_v_10 h3259 h3264 h3266 h3265) (apC.no1 q3271 q3274 q3277 q3280 q3268 q3283 q3286 (vc_X10_verdictOn_v_34 h3303 h3342 h3343 h3353 h3362 h3372 hp3 h3370 h3272 h3275 h3278 h3371 h3284 h3287))) (vc_X12_judgedAnew_v_9 (nS h3262) h3259 h3264 h3266 h3265)
      have h3379 : (-2147483648) ≤ p3 ∧ p3 ≤ 2147483646 := (vc_X10_verdictOn_22 h3342 h3303 hp3 h3272 h3275)
      have h3380 : (-2147483647) ≤ z3273 ∧ z3273 ≤ 2147483647 := (vc_X10_verdictOn_23 h3342 h3303 h3379 h3272 h3275)
      refine mr_iconst (pc := 37) (z := 1) dX10_verdictOn_37 ?_
      refine sv_goto (pc := 38) (tgt := 42) dX10_verdictOn_38 (by decide) ?_
      refine mr_istore (pc := 42) (lv' := [(7, iv 1), (0, .ref 6), (1, iv p1), (2, iv p2), (3, iv p3), (4, iv p4), (5, iv z3252), (6, iv z3251)]) dX10_verdictOn_42 (by decide) rfl ?_
      refine sv_aload_n (pc := 44) dX10_verdictOn_44 rfl rfl ?_
      refine gf_X10_12 (pc := 45) dX10_verdictOn_45 wF_X10_54 (A_6 hw) hT ?_
      refine mr_iload (pc := 48) (z := z3251) dX10_verdictOn_48 rfl ?_
      refine lk_19 (pc := 50) dX10_verdictOn_50 (A_19 hw) (rIx (n := 30) h3265 rfl) q3277 ?_
      refine mr_iload (pc := 51) (z := p4) dX10_verdictOn_51 rfl ?_
      refine mr_icmp_gt (pc := 53) (tgt := 83) dX10_verdictOn_53 (by decide) h3278 hp4 (fun h3381 => ?_) (fun h3381 => ?_)
      · have h3382 : (-2147483647) ≤ z3276 ∧ z3276 ≤ 2147483647 := (vc_X10_verdictOn_15 h3381 hp4 h3278)
        have h3383 : (-2147483648) ≤ p4 ∧ p4 ≤ 2147483646 := (vc_X10_verdictOn_16 h3381 hp4 h3382)
        refine mr_iconst (pc := 83) (z := 0) dX10_verdictOn_83 ?_
        refine mr_istore (pc := 84) (lv' := [(8, iv 0), (7, iv 1), (0, .ref 6), (1, iv p1), (2, iv p2), (3, iv p3), (4, iv p4), (5, iv z3252), (6, iv z3251)]) dX10_verdictOn_84 (by decide) rfl ?_
        refine sv_aload_n (pc := 86) dX10_verdictOn_86 rfl rfl ?_
        refine gf_X10_7 (pc := 87) dX10_verdictOn_87 wF_X10_39 (A_6 hw) hT ?_
        refine mr_iload (pc := 90) (z := z3251) dX10_verdictOn_90 rfl ?_
        refine lk_14 (pc := 92) dX10_verdictOn_92 (A_14 hw) (rIx (n := 30) h3265 rfl) q3268 ?_
        refine mr_istore (pc := 93) (lv' := [(9, iv z3267), (8, iv 0), (7, iv 1), (0, .ref 6), (1, iv p1), (2, iv p2), (3, iv p3), (4, iv p4), (5, iv z3252), (6, iv z3251)]) dX10_verdictOn_93 (by decide) rfl ?_
        refine sv_aload_n (pc := 95) dX10_verdictOn_95 rfl rfl ?_
        refine gf_X10_1 (pc := 96) dX10_verdictOn_96 wF_X10_15 (A_6 hw) hT ?_
        refine mr_iload (pc := 99) (z := z3267) dX10_verdictOn_99 rfl ?_
        refine lk_8 (pc := 101) dX10_verdictOn_101 (A_8 hw) (rIx (n := 10) h3269 rfl) q3283 ?_
        refine sv_aload_n (pc := 102) dX10_verdictOn_102 rfl rfl ?_
        refine gf_X10_1 (pc := 103) dX10_verdictOn_103 wF_X10_15 (A_6 hw) hT ?_
        refine mr_iload_n (pc := 106) (z := p1) dX10_verdictOn_106 rfl rfl ?_
        refine lk_8 (pc := 107) dX10_verdictOn_107 (A_8 hw) (rIx (n := 10) hp1 rfl) q3286 ?_
        refine mr_icmp_gt (pc := 108) (tgt := 139) dX10_verdictOn_108 (by decide) (r32 h3284 rfl) (r32 h3287 rfl) (fun h3384 => ?_) (fun h3384 => ?_)
        · have h3385 : 1 ≤ z3282 ∧ z3282 ≤ 32 := (vc_X12_sends_17 h3384 h3284 h3287)
          have h3386 : 0 ≤ z3285 ∧ z3285 ≤ 31 := (vc_X12_sends_18 h3384 h3385 h3287)
          refine mr_iconst (pc := 139) (z := 0) dX10_verdictOn_139 ?_
          refine mr_istore (pc := 140) (lv' := [(10, iv 0), (9, iv z3267), (8, iv 0), (7, iv 1), (0, .ref 6), (1, iv p1), (2, iv p2), (3, iv p3), (4, iv p4), (5, iv z3252), (6, iv z3251)]) dX10_verdictOn_140 (by decide) rfl ?_
          refine mr_iload (pc := 142) (z := 1) dX10_verdictOn_142 rfl ?_
          refine mr_if_eq (pc := 144) (tgt := 192) dX10_verdictOn_144 (by decide) (r32 (rR (x := 1)) rfl) (fun h => ((vc_X12_next_203 h)).elim) (fun _ => ?_)
          refine mr_iload (pc := 147) (z := 0) dX10_verdictOn_147 rfl ?_
          refine mr_if_eq (pc := 149) (tgt := 192) dX10_verdictOn_149 (by decide) (r32 (rR (x := 0)) rfl) (fun _ => ?_) (fun h => ((vc_X12_next_469 h)).elim)
          refine mr_iinc (pc := 192) (lv' := [(6, iv (z3251 + 1)), (10, iv 0), (9, iv z3267), (8, iv 0), (7, iv 1), (0, .ref 6), (1, iv p1), (2, iv p2), (3, iv p3), (4, iv p4), (5, iv z3252)]) dX10_verdictOn_192 rfl (by decide) rfl ?_
          refine sv_goto (pc := 195) (tgt := 6) dX10_verdictOn_195 (by decide) ?_
          refine mr_lvS (lv' := [(0, .ref 6), (1, iv p1), (2, iv p2), (3, iv p3), (4, iv p4), (5, iv z3252), (6, iv (z3251 + 1))]) (List.forall_mem_cons.mpr ⟨rfl, List.forall_mem_cons.mpr ⟨rfl, List.forall_mem_cons.mpr ⟨rfl, List.forall_mem_cons.mpr ⟨rfl, List.forall_mem_cons.mpr ⟨rfl, List.forall_mem_cons.mpr ⟨rfl, List.forall_mem_cons.mpr ⟨rfl, fun _ h => absurd h List.not_mem_nil⟩⟩⟩⟩⟩⟩⟩) ?_
          exact ih3263 z3252 (z3251 + 1) trivial h3254 (rW (c := 0) (d := 30) (rAdd (e := 1) (f := 30) h3265 (rR (x := 1)) rfl) rfl) (vc_X12_judgedAnew_v_8 h3259 h3264 h3266 h3265) (vc_X10_verdictOn_v_13 h3260 h3254) (vd.skip R3261 (vc_X12_judgedAnew_v_10 h3259 h3264 h3266 h3265) (apC.no1 q3271 q3274 q3277 q3280 q3268 q3283 q3286 (vc_X10_verdictOn_v_38 h3303 h3342 h3381 h3384 h3379 h3383 h3272 h3380 h3382 h3281 h3385 h3386))) (vc_X12_judgedAnew_v_9 (nS h3262) h3259 h3264 h3266 h3265)
        refine sv_aload_n (pc := 111) dX10_verdictOn_111 rfl rfl ?_
        refine gf_X10_0 (pc := 112) dX10_verdictOn_112 wF_X10_9 (A_6 hw) hT ?_
        refine mr_iload_n (pc := 115) (z := p1) dX10_verdictOn_115 rfl rfl ?_
        refine lk_7 (pc := 116) dX10_verdictOn_116 (A_7 hw) (rIx (n := 10) hp1 rfl) q3292 ?_
        refine sv_aload_n (pc := 117) dX10_verdictOn_117 rfl rfl ?_
        refine gf_X10_2 (pc := 118) dX10_verdictOn_118 wF_X10_18 (A_6 hw) hT ?_
        refine mr_iload (pc := 121) (z := z3267) dX10_verdictOn_121 rfl ?_
        refine lk_9 (pc := 123) dX10_verdictOn_123 (A_9 hw) (rIx (n := 10) h3269 rfl) q3295 ?_
        refine mr_iand (pc := 124) (x := z3291) (y := z3294) dX10_verdictOn_124 ?_
        refine mr_gen (P := fun z => (-2147483648) ≤ z ∧ z ≤ 2147483647) (r32i _) fun z3387 q3388 h3389 => ?_
        refine sv_aload_n (pc := 125) dX10_verdictOn_125 rfl rfl ?_
        refine gf_X10_0 (pc := 126) dX10_verdictOn_126 wF_X10_9 (A_6 hw) hT ?_
        refine mr_iload (pc := 129) (z := z3267) dX10_verdictOn_129 rfl ?_
        refine lk_7 (pc := 131) dX10_verdictOn_131 (A_7 hw) (rIx (n := 10) h3269 rfl) q3289 ?_
        refine mr_icmp_ne (pc := 132) (tgt := 139) dX10_verdictOn_132 (by decide) h3389 h3290 (fun h3390 => ?_) (fun h3390 => ?_)
        · refine mr_iconst (pc := 139) (z := 0) dX10_verdictOn_139 ?_
          refine mr_istore (pc := 140) (lv' := [(10, iv 0), (9, iv z3267), (8, iv 0), (7, iv 1), (0, .ref 6), (1, iv p1), (2, iv p2), (3, iv p3), (4, iv p4), (5, iv z3252), (6, iv z3251)]) dX10_verdictOn_140 (by decide) rfl ?_
          refine mr_iload (pc := 142) (z := 1) dX10_verdictOn_142 rfl ?_
          refine mr_if_eq (pc := 144) (tgt := 192) dX10_verdictOn_144 (by decide) (r32 (rR (x := 1)) rfl) (fun h => ((vc_X12_next_203 h)).elim) (fun _ => ?_)
          refine mr_iload (pc := 147) (z := 0) dX10_verdictOn_147 rfl ?_
          refine mr_if_eq (pc := 149) (tgt := 192) dX10_verdictOn_149 (by decide) (r32 (rR (x := 0)) rfl) (fun _ => ?_) (fun h => ((vc_X12_next_469 h)).elim)
          refine mr_iinc (pc := 192) (lv' := [(6, iv (z3251 + 1)), (10, iv 0), (9, iv z3267), (8, iv 0), (7, iv 1), (0, .ref 6), (1, iv p1), (2, iv p2), (3, iv p3), (4, iv p4), (5, iv z3252)]) dX10_verdictOn_192 rfl (by decide) rfl ?_
          refine sv_goto (pc := 195) (tgt := 6) dX10_verdictOn_195 (by decide) ?_
          refine mr_lvS (lv' := [(0, .ref 6), (1, iv p1), (2, iv p2), (3, iv p3), (4, iv p4), (5, iv z3252), (6, iv (z3251 + 1))]) (List.forall_mem_cons.mpr ⟨rfl, List.forall_mem_cons.mpr ⟨rfl, List.forall_mem_cons.mpr ⟨rfl, List.forall_mem_cons.mpr ⟨rfl, List.forall_mem_cons.mpr ⟨rfl, List.forall_mem_cons.mpr ⟨rfl, List.forall_mem_cons.mpr ⟨rfl, fun _ h => absurd h List.not_mem_nil⟩⟩⟩⟩⟩⟩⟩) ?_
          exact ih3263 z3252 (z3251 + 1) trivial h3254 (rW (c := 0) (d := 30) (rAdd (e := 1) (f := 30) h3265 (rR (x := 1)) rfl) rfl) (vc_X12_judgedAnew_v_8 h3259 h3264 h3266 h3265) (vc_X10_verdictOn_v_13 h3260 h3254) (vd.skip R3261 (vc_X12_judgedAnew_v_10 h3259 h3264 h3266 h3265) (apC.no1 q3271 q3274 q3277 q3280 q3268 q3283 q3286 (vc_X10_verdictOn_v_39 h3303 h3342 h3381 h3384 h3379 h3383 h3272 h3380 h3382 h3281 h3284 h3287))) (vc_X12_judgedAnew_v_9 (nS h3262) h3259 h3264 h3266 h3265)
        refine mr_iconst (pc := 135) (z := 1) dX10_verdictOn_135 ?_
        refine sv_goto (pc := 136) (tgt := 140) dX10_verdictOn_136 (by decide) ?_
        refine mr_istore (pc := 140) (lv' := [(10, iv 1), (9, iv z3267), (8, iv 0), (7, iv 1), (0, .ref 6), (1, iv p1), (2, iv p2), (3, iv p3), (4, iv p4), (5, iv z3252), (6, iv z3251)]) dX10_verdictOn_140 (by decide) rfl ?_
        refine mr_iload (pc := 142) (z := 1) dX10_verdictOn_142 rfl ?_
        refine mr_if_eq (pc := 144) (tgt := 192) dX10_verdictOn_144 (by decide) (r32 (rR (x := 1)) rfl) (fun h => ((vc_X12_next_203 h)).elim) (fun _ => ?_)
        refine mr_iload (pc := 147) (z := 0) dX10_verdictOn_147 rfl ?_
        refine mr_if_eq (pc := 149) (tgt := 192) dX10_verdictOn_149 (by decide) (r32 (rR (x := 0)) rfl) (fun _ => ?_) (fun h => ((vc_X12_next_469 h)).elim)
        refine mr_iinc (pc := 192) (lv' := [(6, iv (z3251 + 1)), (10, iv 1), (9, iv z3267), (8, iv 0), (7, iv 1), (0, .ref 6), (1, iv p1), (2, iv p2), (3, iv p3), (4, iv p4), (5, iv z3252)]) dX10_verdictOn_192 rfl (by decide) rfl ?_
        refine sv_goto (pc := 195) (tgt := 6) dX10_verdictOn_195 (by decide) ?_
        refine mr_lvS (lv' := [(0, .ref 6), (1, iv p1), (2, iv p2), (3, iv p3), (4, iv p4), (5, iv z3252), (6, iv (z3251 + 1))]) (List.forall_mem_cons.mpr ⟨rfl, List.forall_mem_cons.mpr ⟨rfl, List.forall_mem_cons.mpr ⟨rfl, List.forall_mem_cons.mpr ⟨rfl, List.forall_mem_cons.mpr ⟨rfl, List.forall_mem_cons.mpr ⟨rfl, List.forall_mem_cons.mpr ⟨rfl, fun _ h => absurd h List.not_mem_nil⟩⟩⟩⟩⟩⟩⟩) ?_
        exact ih3263 z3252 (z3251 + 1) trivial h3254 (rW (c := 0) (d := 30) (rAdd (e := 1) (f := 30) h3265 (rR (x := 1)) rfl) rfl) (vc_X12_judgedAnew_v_8 h3259 h3264 h3266 h3265) (vc_X10_verdictOn_v_13 h3260 h3254) (vd.skip R3261 (vc_X12_judgedAnew_v_10 h3259 h3264 h3266 h3265) (apC.no1 q3271 q3274 q3277 q3280 q3268 q3283 q3286 (vc_X10_verdictOn_v_39 h3303 h3342 h3381 h3384 h3379 h3383 h3272 h3380 h3382 h3281 h3284 h3287))) (vc_X12_judgedAnew_v_9 (nS h3262) h3259 h3264 h3266 h3265)
      refine sv_aload_n (pc := 56) dX10_verdictOn_56 rfl rfl ?_
      refine gf_X10_13 (pc := 57) dX10_verdictOn_57 wF_X10_57 (A_6 hw) hT ?_
      refine mr_iload (pc := 60) (z := z3251) dX10_verdictOn_60 rfl ?_
      refine lk_20 (pc := 62) dX10_verdictOn_62 (A_20 hw) (rIx (n := 30) h3265 rfl) q3280 ?_
      refine mr_iconst (pc := 63) (z := (-1)) dX10_verdictOn_63 ?_
      refine mr_icmp_eq (pc := 64) (tgt := 79) dX10_verdictOn_64 (by decide) h3281 (r32 (rR (x := (-1))) rfl) (fun h3391 => ?_) (fun h3391 => ?_)
      · have h3392 : (-1) ≤ z3279 ∧ z3279 ≤ (-1) := (vc_X10_verdictOn_17 h3391 h3281)
        refine mr_iconst (pc := 79) (z := 1) dX10_verdictOn_79 ?_
        refine sv_goto (pc := 80) (tgt := 84) dX10_verdictOn_80 (by decide) ?_
        refine mr_istore (pc := 84) (lv' := [(8, iv 1), (7, iv 1), (0, .ref 6), (1, iv p1), (2, iv p2), (3, iv p3), (4, iv p4), (5, iv z3252), (6, iv z3251)]) dX10_verdictOn_84 (by decide) rfl ?_
        refine sv_aload_n (pc := 86) dX10_verdictOn_86 rfl rfl ?_
        refine gf_X10_7 (pc := 87) dX10_verdictOn_87 wF_X10_39 (A_6 hw) hT ?_
        refine mr_iload (pc := 90) (z := z3251) dX10_verdictOn_90 rfl ?_
        refine lk_14 (pc := 92) dX10_verdictOn_92 (A_14 hw) (rIx (n := 30) h3265 rfl) q3268 ?_
        refine mr_istore (pc := 93) (lv' := [(9, iv z3267), (8, iv 1), (7, iv 1), (0, .ref 6), (1, iv p1), (2, iv p2), (3, iv p3), (4, iv p4), (5, iv z3252), (6, iv z3251)]) dX10_verdictOn_93 (by decide) rfl ?_
        refine sv_aload_n (pc := 95) dX10_verdictOn_95 rfl rfl ?_
        refine gf_X10_1 (pc := 96) dX10_verdictOn_96 wF_X10_15 (A_6 hw) hT ?_
        refine mr_iload (pc := 99) (z := z3267) dX10_verdictOn_99 rfl ?_
        refine lk_8 (pc := 101) dX10_verdictOn_101 (A_8 hw) (rIx (n := 10) h3269 rfl) q3283 ?_
        refine sv_aload_n (pc := 102) dX10_verdictOn_102 rfl rfl ?_
        refine gf_X10_1 (pc := 103) dX10_verdictOn_103 wF_X10_15 (A_6 hw) hT ?_
        refine mr_iload_n (pc := 106) (z := p1) dX10_verdictOn_106 rfl rfl ?_
        refine lk_8 (pc := 107) dX10_verdictOn_107 (A_8 hw) (rIx (n := 10) hp1 rfl) q3286 ?_
        refine mr_icmp_gt (pc := 108) (tgt := 139) dX10_verdictOn_108 (by decide) (r32 h3284 rfl) (r32 h3287 rfl) (fun h3393 => ?_) (fun h3393 => ?_)
        · have h3394 : 1 ≤ z3282 ∧ z3282 ≤ 32 := (vc_X12_sends_17 h3393 h3284 h3287)
          have h3395 : 0 ≤ z3285 ∧ z3285 ≤ 31 := (vc_X12_sends_18 h3393 h3394 h3287)
          refine mr_iconst (pc := 139) (z := 0) dX10_verdictOn_139 ?_
          refine mr_istore (pc := 140) (lv' := [(10, iv 0), (9, iv z3267), (8, iv 1), (7, iv 1), (0, .ref 6), (1, iv p1), (2, iv p2), (3, iv p3), (4, iv p4), (5, iv z3252), (6, iv z3251)]) dX10_verdictOn_140 (by decide) rfl ?_
          refine mr_iload (pc := 142) (z := 1) dX10_verdictOn_142 rfl ?_
          refine mr_if_eq (pc := 144) (tgt := 192) dX10_verdictOn_144 (by decide) (r32 (rR (x := 1)) rfl) (fun h => ((vc_X12_next_203 h)).elim) (fun _ => ?_)
          refine mr_iload (pc := 147) (z := 1) dX10_verdictOn_147 rfl ?_
          refine mr_if_eq (pc := 149) (tgt := 192) dX10_verdictOn_149 (by decide) (r32 (rR (x := 1)) rfl) (fun h => ((vc_X12_next_203 h)).elim) (fun _ => ?_)
          refine mr_iload (pc := 152) (z := 0) dX10_verdictOn_152 rfl ?_
          refine mr_if_ne (pc := 154) (tgt := 160) dX10_verdictOn_154 (by decide) (r32 (rR (x := 0)) rfl) (fun h => ((vc_X12_next_469 h)).elim) (fun _ => ?_)
          refine sv_goto (pc := 157) (tgt := 192) dX10_verdictOn_157 (by decide) ?_
          refine mr_iinc (pc := 192) (lv' := [(6, iv (z3251 + 1)), (10, iv 0), (9, iv z3267), (8, iv 1), (7, iv 1), (0, .ref 6), (1, iv p1), (2, iv p2), (3, iv p3), (4, iv p4), (5, iv z3252)]) dX10_verdictOn_192 rfl (by decide) rfl ?_
          refine sv_goto (pc := 195) (tgt := 6) dX10_verdictOn_195 (by decide) ?_
          refine mr_lvS (lv' := [(0, .ref 6), (1, iv p1), (2, iv p2), (3, iv p3), (4, iv p4), (5, iv z3252), (6, iv (z3251 + 1))]) (List.forall_mem_cons.mpr ⟨rfl, List.forall_mem_cons.mpr ⟨rfl, List.forall_mem_cons.mpr ⟨rfl, List.forall_mem_cons.mpr ⟨rfl, List.forall_mem_cons.mpr ⟨rfl, List.forall_mem_cons.mpr ⟨rfl, List.forall_mem_cons.mpr ⟨rfl, fun _ h => absurd h List.not_mem_nil⟩⟩⟩⟩⟩⟩⟩) ?_
          exact ih3263 z3252 (z3251 + 1) trivial h3254 (rW (c := 0) (d := 30) (rAdd (e := 1) (f := 30) h3265 (rR (x := 1)) rfl) rfl) (vc_X12_judgedAnew_v_8 h3259 h3264 h3266 h3265) (vc_X10_verdictOn_v_13 h3260 h3254) (vd.skip R3261 (vc_X12_judgedAnew_v_10 h3259 h3264 h3266 h3265) (apC.no1 q3271 q3274 q3277 q3280 q3268 q3283 q3286 (vc_X10_verdictOn_v_40 h3303 h3342 h3381 h3391 h3393 h3379 hp4 h3272 h3380 h3278 h3392 h3394 h3395))) (vc_X12_judgedAnew_v_9 (nS h3262) h3259 h3264 h3266 h3265)
        refine sv_aload_n (pc := 111) dX10_verdictOn_111 rfl rfl ?_
        refine gf_X10_0 (pc := 112) dX10_verdictOn_112 wF_X10_9 (A_6 hw) hT ?_
        refine mr_iload_n (pc := 115) (z := p1) dX10_verdictOn_115 rfl rfl ?_
        refine lk_7 (pc := 116) dX10_verdictOn_116 (A_7 hw) (rIx (n := 10) hp1 rfl) q3292 ?_
        refine sv_aload_n (pc := 117) dX10_verdictOn_117 rfl rfl ?_
        refine gf_X10_2 (pc := 118) dX10_verdictOn_118 wF_X10_18 (A_6 hw) hT ?_
        refine mr_iload (pc := 121) (z := z3267) dX10_verdictOn_121 rfl ?_
        refine lk_9 (pc := 123) dX10_verdictOn_123 (A_9 hw) (rIx (n := 10) h3269 rfl) q3295 ?_
        refine mr_iand (pc := 124) (x := z3291) (y := z3294) dX10_verdictOn_124 ?_
        refine mr_gen (P := fun z => (-2147483648) ≤ z ∧ z ≤ 2147483647) (r32i _) fun z3396 q3397 h3398 => ?_
        refine sv_aload_n (pc := 125) dX10_verdictOn_125 rfl rfl ?_
        refine gf_X10_0 (pc := 126) dX10_verdictOn_126 wF_X10_9 (A_6 hw) hT ?_
        refine mr_iload (pc := 129) (z := z3267) dX10_verdictOn_129 rfl ?_
        refine lk_7 (pc := 131) dX10_verdictOn_131 (A_7 hw) (rIx (n := 10) h3269 rfl) q3289 ?_
        refine mr_icmp_ne (pc := 132) (tgt := 139) dX10_verdictOn_132 (by decide) h3398 h3290 (fun h3399 => ?_) (fun h3399 => ?_)
        · refine mr_iconst (pc := 139) (z := 0) dX10_verdictOn_139 ?_
          refine mr_istore (pc := 140) (lv' := [(10, iv 0), (9, iv z3267), (8, iv 1), (7, iv 1), (0, .ref 6), (1, iv p1), (2, iv p2), (3, iv p3), (4, iv p4), (5, iv z3252), (6, iv z3251)]) dX10_verdictOn_140 (by decide) rfl ?_
          refine mr_iload (pc := 142) (z := 1) dX10_verdictOn_142 rfl ?_
          refine mr_if_eq (pc := 144) (tgt := 192) dX10_verdictOn_144 (by decide) (r32 (rR (x := 1)) rfl) (fun h => ((vc_X12_next_203 h)).elim) (fun _ => ?_)
          refine mr_iload (pc := 147) (z := 1) dX10_verdictOn_147 rfl ?_
          refine mr_if_eq (pc := 149) (tgt := 192) dX10_verdictOn_149 (by decide) (r32 (rR (x := 1)) rfl) (fun h => ((vc_X12_next_203 h)).elim) (fun _ => ?_)
          refine mr_iload (pc := 152) (z := 0) dX10_verdictOn_152 rfl ?_
          refine mr_if_ne (pc := 154) (tgt := 160) dX10_verdictOn_154 (by decide) (r32 (rR (x := 0)) rfl) (fun h => ((vc_X12_next_469 h)).elim) (fun _ => ?_)
          refine sv_goto (pc := 157) (tgt := 192) dX10_verdictOn_157 (by decide) ?_
          refine mr_iinc (pc := 192) (lv' := [(6, iv (z3251 + 1)), (10, iv 0), (9, iv z3267), (8, iv 1), (7, iv 1), (0, .ref 6), (1, iv p1), (2, iv p2), (3, iv p3), (4, iv p4), (5, iv z3252)]) dX10_verdictOn_192 rfl (by decide) rfl ?_
          refine sv_goto (pc := 195) (tgt := 6) dX10_verdictOn_195 (by decide) ?_
          refine mr_lvS (lv' := [(0, .ref 6), (1, iv p1), (2, iv p2), (3, iv p3), (4, iv p4), (5, iv z3252), (6, iv (z3251 + 1))]) (List.forall_mem_cons.mpr ⟨rfl, List.forall_mem_cons.mpr ⟨rfl, List.forall_mem_cons.mpr ⟨rfl, List.forall_mem_cons.mpr ⟨rfl, List.forall_mem_cons.mpr ⟨rfl, List.forall_mem_cons.mpr ⟨rfl, List.forall_mem_cons.mpr ⟨rfl, fun _ h => absurd h List.not_mem_nil⟩⟩⟩⟩⟩⟩⟩) ?_
          exact ih3263 z3252 (z3251 + 1) trivial h3254 (rW (c := 0) (d := 30) (rAdd (e := 1) (f := 30) h3265 (rR (x := 1)) rfl) rfl) (vc_X12_judgedAnew_v_8 h3259 h3264 h3266 h3265) (vc_X10_verdictOn_v_13 h3260 h3254) (vd.skip R3261 (vc_X12_judgedAnew_v_10 h3259 h3264 h3266 h3265) (apC.no2 q3268 q3289 q3292 q3295 q3397 (vc_X10_findPrefix_v_8 h3399 h3290 h3398))) (vc_X12_judgedAnew_v_9 (nS h3262) h3259 h3264 h3266 h3265)
        refine mr_iconst (pc := 135) (z := 1) dX10_verdictOn_135 ?_
        refine sv_goto (pc := 136) (tgt := 140) dX10_verdictOn_136 (by decide) ?_
        refine mr_istore (pc := 140) (lv' := [(10, iv 1), (9, iv z3267), (8, iv 1), (7, iv 1), (0, .ref 6), (1, iv p1), (2, iv p2), (3, iv p3), (4, iv p4), (5, iv z3252), (6, iv z3251)]) dX10_verdictOn_140 (by decide) rfl ?_
        refine mr_iload (pc := 142) (z := 1) dX10_verdictOn_142 rfl ?_
        refine mr_if_eq (pc := 144) (tgt := 192) dX10_verdictOn_144 (by decide) (r32 (rR (x := 1)) rfl) (fun h => ((vc_X12_next_203 h)).elim) (fun _ => ?_)
        refine mr_iload (pc := 147) (z := 1) dX10_verdictOn_147 rfl ?_
        refine mr_if_eq (pc := 149) (tgt := 192) dX10_verdictOn_149 (by decide) (r32 (rR (x := 1)) rfl) (fun h => ((vc_X12_next_203 h)).elim) (fun _ => ?_)
        refine mr_iload (pc := 152) (z := 1) dX10_verdictOn_152 rfl ?_
        refine mr_if_ne (pc := 154) (tgt := 160) dX10_verdictOn_154 (by decide) (r32 (rR (x := 1)) rfl) (fun _ => ?_) (fun h => ((vc_X12_next_203 h)).elim)
        refine sv_aload_n (pc := 160) dX10_verdictOn_160 rfl rfl ?_
        refine gf_X10_9 (pc := 161) dX10_verdictOn_161 wF_X10_45 (A_6 hw) hT ?_
        refine mr_iload (pc := 164) (z := z3251) dX10_verdictOn_164 rfl ?_
        refine lk_16 (pc := 166) dX10_verdictOn_166 (A_16 hw) (rIx (n := 30) h3265 rfl) q3298 ?_
        refine mr_iload_n (pc := 167) (z := p2) dX10_verdictOn_167 rfl rfl ?_
        refine mr_icmp_ne (pc := 168) (tgt := 189) dX10_verdictOn_168 (by decide) h3299 hp2 (fun h3400 => ?_) (fun h3400 => ?_)
        · refine mr_iconst (pc := 189) (z := 0) dX10_verdictOn_189 ?_
          refine mr_istore (pc := 190) (lv' := [(5, iv 0), (10, iv 1), (9, iv z3267), (8, iv 1), (7, iv 1), (0, .ref 6), (1, iv p1), (2, iv p2), (3, iv p3), (4, iv p4), (6, iv z3251)]) dX10_verdictOn_190 (by decide) rfl ?_
          refine mr_iinc (pc := 192) (lv' := [(6, iv (z3251 + 1)), (5, iv 0), (10, iv 1), (9, iv z3267), (8, iv 1), (7, iv 1), (0, .ref 6), (1, iv p1), (2, iv p2), (3, iv p3), (4, iv p4)]) dX10_verdictOn_192 rfl (by decide) rfl ?_
          refine sv_goto (pc := 195) (tgt := 6) dX10_verdictOn_195 (by decide) ?_
          refine mr_lvS (lv' := [(0, .ref 6), (1, iv p1), (2, iv p2), (3, iv p3), (4, iv p4), (5, iv 0), (6, iv (z3251 + 1))]) (List.forall_mem_cons.mpr ⟨rfl, List.forall_mem_cons.mpr ⟨rfl, List.forall_mem_cons.mpr ⟨rfl, List.forall_mem_cons.mpr ⟨rfl, List.forall_mem_cons.mpr ⟨rfl, List.forall_mem_cons.mpr ⟨rfl, List.forall_mem_cons.mpr ⟨rfl, fun _ h => absurd h List.not_mem_nil⟩⟩⟩⟩⟩⟩⟩) ?_
          exact ih3263 0 (z3251 + 1) trivial (rW (c := 0) (d := 2) (rR (x := 0)) rfl) (rW (c := 0) (d := 30) (rAdd (e := 1) (f := 30) h3265 (rR (x := 1)) rfl) rfl) (vc_X12_judgedAnew_v_8 h3259 h3264 h3266 h3265) vc_X10_verdictOn_v_42 (vd.go R3261 (vc_X12_judgedAnew_v_10 h3259 h3264 h3266 h3265) (apC.yes q3271 q3274 q3277 q3280 q3268 q3283 q3286 q3289 q3292 q3295 (vc_X10_verdictOn_v_43 h3303 h3342 h3381 h3391 h3393 h3379 hp4 h3272 h3380 h3278 h3392 h3284 h3287) q3397 (vc_X10_findPrefix_v_12 h3399 h3290 h3398)) (okC.no q3298 q3286 q3301 (vc_X10_verdictOn_v_45 h3393 h3400 hp2 h3284 h3287 h3299 h3302) (vc_X10_verdictOn_v_13 h3260 h3254))) (vc_X12_judgedAnew_v_9 (nS h3262) h3259 h3264 h3266 h3265)
        refine sv_aload_n (pc := 171) dX10_verdictOn_171 rfl rfl ?_
        refine gf_X10_8 (pc := 172) dX10_verdictOn_172 wF_X10_42 (A_6 hw) hT ?_
        refine mr_iload (pc := 175) (z := z3251) dX10_verdictOn_175 rfl ?_
        refine lk_15 (pc := 177) dX10_verdictOn_177 (A_15 hw) (rIx (n := 30) h3265 rfl) q3301 ?_
        refine sv_aload_n (pc := 178) dX10_verdictOn_178 rfl rfl ?_
        refine gf_X10_1 (pc := 179) dX10_verdictOn_179 wF_X10_15 (A_6 hw) hT ?_
        refine mr_iload_n (pc := 182) (z := p1) dX10_verdictOn_182 rfl rfl ?_
        refine lk_8 (pc := 183) dX10_verdictOn_183 (A_8 hw) (rIx (n := 10) hp1 rfl) q3286 ?_
        refine mr_icmp_lt (pc := 184) (tgt := 189) dX10_verdictOn_184 (by decide) h3302 (r32 h3287 rfl) (fun h3401 => ?_) (fun h3401 => ?_)
        · have h3402 : (-2147483648) ≤ z3300 ∧ z3300 ≤ 31 := (vc_X12_judgedAnew_v_28 h3401 h3393 h3284 h3287 h3302)
          refine mr_iconst (pc := 189) (z := 0) dX10_verdictOn_189 ?_
          refine mr_istore (pc := 190) (lv' := [(5, iv 0), (10, iv 1), (9, iv z3267), (8, iv 1), (7, iv 1), (0, .ref 6), (1, iv p1), (2, iv p2), (3, iv p3), (4, iv p4), (6, iv z3251)]) dX10_verdictOn_190 (by decide) rfl ?_
          refine mr_iinc (pc := 192) (lv' := [(6, iv (z3251 + 1)), (5, iv 0), (10, iv 1), (9, iv z3267), (8, iv 1), (7, iv 1), (0, .ref 6), (1, iv p1), (2, iv p2), (3, iv p3), (4, iv p4)]) dX10_verdictOn_192 rfl (by decide) rfl ?_
          refine sv_goto (pc := 195) (tgt := 6) dX10_verdictOn_195 (by decide) ?_
          refine mr_lvS (lv' := [(0, .ref 6), (1, iv p1), (2, iv p2), (3, iv p3), (4, iv p4), (5, iv 0), (6, iv (z3251 + 1))]) (List.forall_mem_cons.mpr ⟨rfl, List.forall_mem_cons.mpr ⟨rfl, List.forall_mem_cons.mpr ⟨rfl, List.forall_mem_cons.mpr ⟨rfl, List.forall_mem_cons.mpr ⟨rfl, List.forall_mem_cons.mpr ⟨rfl, List.forall_mem_cons.mpr ⟨rfl, fun _ h => absurd h List.not_mem_nil⟩⟩⟩⟩⟩⟩⟩) ?_
          exact ih3263 0 (z3251 + 1) trivial (rW (c := 0) (d := 2) (rR (x := 0)) rfl) (rW (c := 0) (d := 30) (rAdd (e := 1) (f := 30) h3265 (rR (x := 1)) rfl) rfl) (vc_X12_judgedAnew_v_8 h3259 h3264 h3266 h3265) vc_X10_verdictOn_v_42 (vd.go R3261 (vc_X12_judgedAnew_v_10 h3259 h3264 h3266 h3265) (apC.yes q3271 q3274 q3277 q3280 q3268 q3283 q3286 q3289 q3292 q3295 (vc_X10_verdictOn_v_47 h3303 h3342 h3381 h3391 h3393 h3401 h3379 hp4 h3272 h3380 h3278 h3392 h3284 h3287 h3402) q3397 (vc_X10_findPrefix_v_12 h3399 h3290 h3398)) (okC.no q3298 q3286 q3301 (vc_X10_verdictOn_v_48 h3393 h3400 h3401 hp2 h3284 h3287 h3299 h3402) (vc_X10_verdictOn_v_13 h3260 h3254))) (vc_X12_judgedAnew_v_9 (nS h3262) h3259 h3264 h3266 h3265)
        have h3403 : 0 ≤ z3300 ∧ z3300 ≤ 2147483647 := (vc_X12_judgedAnew_v_31 h3401 h3393 h3284 h3287 h3302)
        refine mr_iconst (pc := 187) (z := 1) dX10_verdictOn_187 ?_
        exact mr_iretP dX10_verdictOn_188 rfl (le_t rfl) (le_t rfl) ⟨(rW (c := 0) (d := 2) (rR (x := 1)) rfl), (by show (1 : Int) = vdF _ _ (μ 6 17).toNat; rw [q_f_r]; exact vd.one (vc_X10_verdictOn_v_50 h3259 h3264 h3266 h3265) (apC.yes q3271 q3274 q3277 q3280 q3268 q3283 q3286 q3289 q3292 q3295 (vc_X10_verdictOn_v_51 h3303 h3342 h3381 h3391 h3393 h3401 h3379 hp4 h3272 h3380 h3278 h3392 h3284 h3287 h3403) q3397 (vc_X10_findPrefix_v_12 h3399 h3290 h3398)) (okC.yes q3298 q3286 q3301 (vc_X10_verdictOn_v_52 h3393 h3400 h3401 hp2 h3284 h3287 h3299 h3403))), trivial⟩
      refine mr_iload (pc := 67) (z := p4) dX10_verdictOn_67 rfl ?_
      refine sv_aload_n (pc := 69) dX10_verdictOn_69 rfl rfl ?_
      refine gf_X10_13 (pc := 70) dX10_verdictOn_70 wF_X10_57 (A_6 hw) hT ?_
      refine mr_iload (pc := 73) (z := z3251) dX10_verdictOn_73 rfl ?_
      refine lk_20 (pc := 75) dX10_verdictOn_75 (A_20 hw) (rIx (n := 30) h3265 rfl) q3280 ?_
      refine mr_icmp_ge (pc := 76) (tgt := 83) dX10_verdictOn_76 (by decide) hp4 h3281 (fun h3404 => ?_) (fun h3404 => ?_)
      · refine mr_iconst (pc := 83) (z := 0) dX10_verdictOn_83 ?_
        refine mr_istore (pc := 84) (lv' := [(8, iv 0), (7, iv 1), (0, .ref 6), (1, iv p1), (2, iv p2), (3, iv p3), (4, iv p4), (5, iv z3252), (6, iv z3251)]) dX10_verdictOn_84 (by decide) rfl ?_
        refine sv_aload_n (pc := 86) dX10_verdictOn_86 rfl rfl ?_
        refine gf_X10_7 (pc := 87) dX10_verdictOn_87 wF_X10_39 (A_6 hw) hT ?_
        refine mr_iload (pc := 90) (z := z3251) dX10_verdictOn_90 rfl ?_
        refine lk_14 (pc := 92) dX10_verdictOn_92 (A_14 hw) (rIx (n := 30) h3265 rfl) q3268 ?_
        refine mr_istore (pc := 93) (lv' := [(9, iv z3267), (8, iv 0), (7, iv 1), (0, .ref 6), (1, iv p1), (2, iv p2), (3, iv p3), (4, iv p4), (5, iv z3252), (6, iv z3251)]) dX10_verdictOn_93 (by decide) rfl ?_
        refine sv_aload_n (pc := 95) dX10_verdictOn_95 rfl rfl ?_
        refine gf_X10_1 (pc := 96) dX10_verdictOn_96 wF_X10_15 (A_6 hw) hT ?_
        refine mr_iload (pc := 99) (z := z3267) dX10_verdictOn_99 rfl ?_
        refine lk_8 (pc := 101) dX10_verdictOn_101 (A_8 hw) (rIx (n := 10) h3269 rfl) q3283 ?_
        refine sv_aload_n (pc := 102) dX10_verdictOn_102 rfl rfl ?_
        refine gf_X10_1 (pc := 103) dX10_verdictOn_103 wF_X10_15 (A_6 hw) hT ?_
        refine mr_iload_n (pc := 106) (z := p1) dX10_verdictOn_106 rfl rfl ?_
        refine lk_8 (pc := 107) dX10_verdictOn_107 (A_8 hw) (rIx (n := 10) hp1 rfl) q3286 ?_
        refine mr_icmp_gt (pc := 108) (tgt := 139) dX10_verdictOn_108 (by decide) (r32 h3284 rfl) (r32 h3287 rfl) (fun h3405 => ?_) (fun h3405 => ?_)
        · have h3406 : 1 ≤ z3282 ∧ z3282 ≤ 32 := (vc_X12_sends_17 h3405 h3284 h3287)
          have h3407 : 0 ≤ z3285 ∧ z3285 ≤ 31 := (vc_X12_sends_18 h3405 h3406 h3287)
          refine mr_iconst (pc := 139) (z := 0) dX10_verdictOn_139 ?_
          refine mr_istore (pc := 140) (lv' := [(10, iv 0), (9, iv z3267), (8, iv 0), (7, iv 1), (0, .ref 6), (1, iv p1), (2, iv p2), (3, iv p3), (4, iv p4), (5, iv z3252), (6, iv z3251)]) dX10_verdictOn_140 (by decide) rfl ?_
          refine mr_iload (pc := 142) (z := 1) dX10_verdictOn_142 rfl ?_
          refine mr_if_eq (pc := 144) (tgt := 192) dX10_verdictOn_144 (by decide) (r32 (rR (x := 1)) rfl) (fun h => ((vc_X12_next_203 h)).elim) (fun _ => ?_)
          refine mr_iload (pc := 147) (z := 0) dX10_verdictOn_147 rfl ?_
          refine mr_if_eq (pc := 149) (tgt := 192) dX10_verdictOn_149 (by decide) (r32 (rR (x := 0)) rfl) (fun _ => ?_) (fun h => ((vc_X12_next_469 h)).elim)
          refine mr_iinc (pc := 192) (lv' := [(6, iv (z3251 + 1)), (10, iv 0), (9, iv z3267), (8, iv 0), (7, iv 1), (0, .ref 6), (1, iv p1), (2, iv p2), (3, iv p3), (4, iv p4), (5, iv z3252)]) dX10_verdictOn_192 rfl (by decide) rfl ?_
          refine sv_goto (pc := 195) (tgt := 6) dX10_verdictOn_195 (by decide) ?_
          refine mr_lvS (lv' := [(0, .ref 6), (1, iv p1), (2, iv p2), (3, iv p3), (4, iv p4), (5, iv z3252), (6, iv (z3251 + 1))]) (List.forall_mem_cons.mpr ⟨rfl, List.forall_mem_cons.mpr ⟨rfl, List.forall_mem_cons.mpr ⟨rfl, List.forall_mem_cons.mpr ⟨rfl, List.forall_mem_cons.mpr ⟨rfl, List.forall_mem_cons.mpr ⟨rfl, List.forall_mem_cons.mpr ⟨rfl, fun _ h => absurd h List.not_mem_nil⟩⟩⟩⟩⟩⟩⟩) ?_
          exact ih3263 z3252 (z3251 + 1) trivial h3254 (rW (c := 0) (d := 30) (rAdd (e := 1) (f := 30) h3265 (rR (x := 1)) rfl) rfl) (vc_X12_judgedAnew_v_8 h3259 h3264 h3266 h3265) (vc_X10_verdictOn_v_13 h3260 h3254) (vd.skip R3261 (vc_X12_judgedAnew_v_10 h3259 h3264 h3266 h3265) (apC.no1 q3271 q3274 q3277 q3280 q3268 q3283 q3286 (vc_X10_verdictOn_v_53 h3303 h3342 h3381 h3391 h3404 h3405 h3379 hp4 h3272 h3380 h3278 h3281 h3406 h3407))) (vc_X12_judgedAnew_v_9 (nS h3262) h3259 h3264 h3266 h3265)
        refine sv_aload_n (pc := 111) dX10_verdictOn_111 rfl rfl ?_
        refine gf_X10_0 (pc := 112) dX10_verdictOn_112 wF_X10_9 (A_6 hw) hT ?_
        refine mr_iload_n (pc := 115) (z := p1) dX10_verdictOn_115 rfl rfl ?_
        refine lk_7 (pc := 116) dX10_verdictOn_116 (A_7 hw) (rIx (n := 10) hp1 rfl) q3292 ?_
        refine sv_aload_n (pc := 117) dX10_verdictOn_117 rfl rfl ?_
        refine gf_X10_2 (pc := 118) dX10_verdictOn_118 wF_X10_18 (A_6 hw) hT ?_
        refine mr_iload (pc := 121) (z := z3267) dX10_verdictOn_121 rfl ?_
        refine lk_9 (pc := 123) dX10_verdictOn_123 (A_9 hw) (rIx (n := 10) h3269 rfl) q3295 ?_
        refine mr_iand (pc := 124) (x := z3291) (y := z3294) dX10_verdictOn_124 ?_
        refine mr_gen (P := fun z => (-2147483648) ≤ z ∧ z ≤ 2147483647) (r32i _) fun z3408 q3409 h3410 => ?_
        refine sv_aload_n (pc := 125) dX10_verdictOn_125 rfl rfl ?_
        refine gf_X10_0 (pc := 126) dX10_verdictOn_126 wF_X10_9 (A_6 hw) hT ?_
        refine mr_iload (pc := 129) (z := z3267) dX10_verdictOn_129 rfl ?_
        refine lk_7 (pc := 131) dX10_verdictOn_131 (A_7 hw) (rIx (n := 10) h3269 rfl) q3289 ?_
        refine mr_icmp_ne (pc := 132) (tgt := 139) dX10_verdictOn_132 (by decide) h3410 h3290 (fun h3411 => ?_) (fun h3411 => ?_)
        · refine mr_iconst (pc := 139) (z := 0) dX10_verdictOn_139 ?_
          refine mr_istore (pc := 140) (lv' := [(10, iv 0), (9, iv z3267), (8, iv 0), (7, iv 1), (0, .ref 6), (1, iv p1), (2, iv p2), (3, iv p3), (4, iv p4), (5, iv z3252), (6, iv z3251)]) dX10_verdictOn_140 (by decide) rfl ?_
          refine mr_iload (pc := 142) (z := 1) dX10_verdictOn_142 rfl ?_
          refine mr_if_eq (pc := 144) (tgt := 192) dX10_verdictOn_144 (by decide) (r32 (rR (x := 1)) rfl) (fun h => ((vc_X12_next_203 h)).elim) (fun _ => ?_)
          refine mr_iload (pc := 147) (z := 0) dX10_verdictOn_147 rfl ?_
          refine mr_if_eq (pc := 149) (tgt := 192) dX10_verdictOn_149 (by decide) (r32 (rR (x := 0)) rfl) (fun _ => ?_) (fun h => ((vc_X12_next_469 h)).elim)
          refine mr_iinc (pc := 192) (lv' := [(6, iv (z3251 + 1)), (10, iv 0), (9, iv z3267), (8, iv 0), (7, iv 1), (0, .ref 6), (1, iv p1), (2, iv p2), (3, iv p3), (4, iv p4), (5, iv z3252)]) dX10_verdictOn_192 rfl (by decide) rfl ?_
          refine sv_goto (pc := 195) (tgt := 6) dX10_verdictOn_195 (by decide) ?_
          refine mr_lvS (lv' := [(0, .ref 6), (1, iv p1), (2, iv p2), (3, iv p3), (4, iv p4), (5, iv z3252), (6, iv (z3251 + 1))]) (List.forall_mem_cons.mpr ⟨rfl, List.forall_mem_cons.mpr ⟨rfl, List.forall_mem_cons.mpr ⟨rfl, List.forall_mem_cons.mpr ⟨rfl, List.forall_mem_cons.mpr ⟨rfl, List.forall_mem_cons.mpr ⟨rfl, List.forall_mem_cons.mpr ⟨rfl, fun _ h => absurd h List.not_mem_nil⟩⟩⟩⟩⟩⟩⟩) ?_
          exact ih3263 z3252 (z3251 + 1) trivial h3254 (rW (c := 0) (d := 30) (rAdd (e := 1) (f := 30) h3265 (rR (x := 1)) rfl) rfl) (vc_X12_judgedAnew_v_8 h3259 h3264 h3266 h3265) (vc_X10_verdictOn_v_13 h3260 h3254) (vd.skip R3261 (vc_X12_judgedAnew_v_10 h3259 h3264 h3266 h3265) (apC.no1 q3271 q3274 q3277 q3280 q3268 q3283 q3286 (vc_X10_verdictOn_v_54 h3303 h3342 h3381 h3391 h3404 h3405 h3379 hp4 h3272 h3380 h3278 h3281 h3284 h3287))) (vc_X12_judgedAnew_v_9 (nS h3262) h3259 h3264 h3266 h3265)
        refine mr_iconst (pc := 135) (z := 1) dX10_verdictOn_135 ?_
        refine sv_goto (pc := 136) (tgt := 140) dX10_verdictOn_136 (by decide) ?_
        refine mr_istore (pc := 140) (lv' := [(10, iv 1), (9, iv z3267), (8, iv 0), (7, iv 1), (0, .ref 6), (1, iv p1), (2, iv p2), (3, iv p3), (4, iv p4), (5, iv z3252), (6, iv z3251)]) dX10_verdictOn_140 (by decide) rfl ?_
        refine mr_iload (pc := 142) (z := 1) dX10_verdictOn_142 rfl ?_
        refine mr_if_eq (pc := 144) (tgt := 192) dX10_verdictOn_144 (by decide) (r32 (rR (x := 1)) rfl) (fun h => ((vc_X12_next_203 h)).elim) (fun _ => ?_)
        refine mr_iload (pc := 147) (z := 0) dX10_verdictOn_147 rfl ?_
        refine mr_if_eq (pc := 149) (tgt := 192) dX10_verdictOn_149 (by decide) (r32 (rR (x := 0)) rfl) (fun _ => ?_) (fun h => ((vc_X12_next_469 h)).elim)
        refine mr_iinc (pc := 192) (lv' := [(6, iv (z3251 + 1)), (10, iv 1), (9, iv z3267), (8, iv 0), (7, iv 1), (0, .ref 6), (1, iv p1), (2, iv p2), (3, iv p3), (4, iv p4), (5, iv z3252)]) dX10_verdictOn_192 rfl (by decide) rfl ?_
        refine sv_goto (pc := 195) (tgt := 6) dX10_verdictOn_195 (by decide) ?_
        refine mr_lvS (lv' := [(0, .ref 6), (1, iv p1), (2, iv p2), (3, iv p3), (4, iv p4), (5, iv z3252), (6, iv (z3251 + 1))]) (List.forall_mem_cons.mpr ⟨rfl, List.forall_mem_cons.mpr ⟨rfl, List.forall_mem_cons.mpr ⟨rfl, List.forall_mem_cons.mpr ⟨rfl, List.forall_mem_cons.mpr ⟨rfl, List.forall_mem_cons.mpr ⟨rfl, List.forall_mem_cons.mpr ⟨rfl, fun _ h => absurd h List.not_mem_nil⟩⟩⟩⟩⟩⟩⟩) ?_
        exact ih3263 z3252 (z3251 + 1) trivial h3254 (rW (c := 0) (d := 30) (rAdd (e := 1) (f := 30) h3265 (rR (x := 1)) rfl) rfl) (vc_X12_judgedAnew_v_8 h3259 h3264 h3266 h3265) (vc_X10_verdictOn_v_13 h3260 h3254) (vd.skip R3261 (vc_X12_judgedAnew_v_10 h3259 h3264 h3266 h3265) (apC.no1 q3271 q3274 q3277 q3280 q3268 q3283 q3286 (vc_X10_verdictOn_v_54 h3303 h3342 h3381 h3391 h3404 h3405 h3379 hp4 h3272 h3380 h3278 h3281 h3284 h3287))) (vc_X12_judgedAnew_v_9 (nS h3262) h3259 h3264 h3266 h3265)
      have h3412 : (-2147483648) ≤ p4 ∧ p4 ≤ 2147483646 := (vc_X10_verdictOn_18 h3404 h3381 h3391 hp4 h3278 h3281)
      have h3413 : (-2147483647) ≤ z3279 ∧ z3279 ≤ 2147483647 := (vc_X10_verdictOn_19 h3404 h3381 h3391 h3412 h3278 h3281)
      refine mr_iconst (pc := 79) (z := 1) dX10_verdictOn_79 ?_
      refine sv_goto (pc := 80) (tgt := 84) dX10_verdictOn_80 (by decide) ?_
      refine mr_istore (pc := 84) (lv' := [(8, iv 1), (7, iv 1), (0, .ref 6), (1, iv p1), (2, iv p2), (3, iv p3), (4, iv p4), (5, iv z3252), (6, iv z3251)]) dX10_verdictOn_84 (by decide) rfl ?_
      refine sv_aload_n (pc := 86) dX10_verdictOn_86 rfl rfl ?_
      refine gf_X10_7 (pc := 87) dX10_verdictOn_87 wF_X10_39 (A_6 hw) hT ?_
      refine mr_iload (pc := 90) (z := z3251) dX10_verdictOn_90 rfl ?_
      refine lk_14 (pc := 92) dX10_verdictOn_92 (A_14 hw) (rIx (n := 30) h3265 rfl) q3268 ?_
      refine mr_istore (pc := 93) (lv' := [(9, iv z3267), (8, iv 1), (7, iv 1), (0, .ref 6), (1, iv p1), (2, iv p2), (3, iv p3), (4, iv p4), (5, iv z3252), (6, iv z3251)]) dX10_verdictOn_93 (by decide) rfl ?_
      refine sv_aload_n (pc := 95) dX10_verdictOn_95 rfl rfl ?_
      refine gf_X10_1 (pc := 96) dX10_verdictOn_96 wF_X10_15 (A_6 hw) hT ?_
      refine mr_iload (pc := 99) (z := z3267) dX10_verdictOn_99 rfl ?_
      refine lk_8 (pc := 101) dX10_verdictOn_101 (A_8 hw) (rIx (n := 10) h3269 rfl) q3283 ?_
      refine sv_aload_n (pc := 102) dX10_verdictOn_102 rfl rfl ?_
      refine gf_X10_1 (pc := 103) dX10_verdictOn_103 wF_X10_15 (A_6 hw) hT ?_
      refine mr_iload_n (pc := 106) (z := p1) dX10_verdictOn_106 rfl rfl ?_
      refine lk_8 (pc := 107) dX10_verdictOn_107 (A_8 hw) (rIx (n := 10) hp1 rfl) q3286 ?_
      refine mr_icmp_gt (pc := 108) (tgt := 139) dX10_verdictOn_108 (by decide) (r32 h3284 rfl) (r32 h3287 rfl) (fun h3414 => ?_) (fun h3414 => ?_)
      · have h3415 : 1 ≤ z3282 ∧ z3282 ≤ 32 := (vc_X12_sends_17 h3414 h3284 h3287)
        have h3416 : 0 ≤ z3285 ∧ z3285 ≤ 31 := (vc_X12_sends_18 h3414 h3415 h3287)
        refine mr_iconst (pc := 139) (z := 0) dX10_verdictOn_139 ?_
        refine mr_istore (pc := 140) (lv' := [(10, iv 0), (9, iv z3267), (8, iv 1), (7, iv 1), (0, .ref 6), (1, iv p1), (2, iv p2), (3, iv p3), (4, iv p4), (5, iv z3252), (6, iv z3251)]) dX10_verdictOn_140 (by decide) rfl ?_
        refine mr_iload (pc := 142) (z := 1) dX10_verdictOn_142 rfl ?_
        refine mr_if_eq (pc := 144) (tgt := 192) dX10_verdictOn_144 (by decide) (r32 (rR (x := 1)) rfl) (fun h => ((vc_X12_next_203 h)).elim) (fun _ => ?_)
        refine mr_iload (pc := 147) (z := 1) dX10_verdictOn_147 rfl ?_
        refine mr_if_eq (pc := 149) (tgt := 192) dX10_verdictOn_149 (by decide) (r32 (rR (x := 1)) rfl) (fun h => ((vc_X12_next_203 h)).elim) (fun _ => ?_)
        refine mr_iload (pc := 152) (z := 0) dX10_verdictOn_152 rfl ?_
        refine mr_if_ne (pc := 154) (tgt := 160) dX10_verdictOn_154 (by decide) (r32 (rR (x := 0)) rfl) (fun h => ((vc_X12_next_469 h)).elim) (fun _ => ?_)
        refine sv_goto (pc := 157) (tgt := 192) dX10_verdictOn_157 (by decide) ?_
        refine mr_iinc (pc := 192) (lv' := [(6, iv (z3251 + 1)), (10, iv 0), (9, iv z3267), (8, iv 1), (7, iv 1), (0, .ref 6), (1, iv p1), (2, iv p2), (3, iv p3), (4, iv p4), (5, iv z3252)]) dX10_verdictOn_192 rfl (by decide) rfl ?_
        refine sv_goto (pc := 195) (tgt := 6) dX10_verdictOn_195 (by decide) ?_
        refine mr_lvS (lv' := [(0, .ref 6), (1, iv p1), (2, iv p2), (3, iv p3), (4, iv p4), (5, iv z3252), (6, iv (z3251 + 1))]) (List.forall_mem_cons.mpr ⟨rfl, List.forall_mem_cons.mpr ⟨rfl, List.forall_mem_cons.mpr ⟨rfl, List.forall_mem_cons.mpr ⟨rfl, List.forall_mem_cons.mpr ⟨rfl, List.forall_mem_cons.mpr ⟨rfl, List.forall_mem_cons.mpr ⟨rfl, fun _ h => absurd h List.not_mem_nil⟩⟩⟩⟩⟩⟩⟩) ?_
        exact ih3263 z3252 (z3251 + 1) trivial h3254 (rW (c := 0) (d := 30) (rAdd (e := 1) (f := 30) h3265 (rR (x := 1)) rfl) rfl) (vc_X12_judgedAnew_v_8 h3259 h3264 h3266 h3265) (vc_X10_verdictOn_v_13 h3260 h3254) (vd.skip R3261 (vc_X12_judgedAnew_v_10 h3259 h3264 h3266 h3265) (apC.no1 q3271 q3274 q3277 q3280 q3268 q3283 q3286 (vc_X10_verdictOn_v_55 h3303 h3342 h3381 h3391 h3404 h3414 h3379 h3412 h3272 h3380 h3278 h3413 h3415 h3416))) (vc_X12_judgedAnew_v_9 (nS h3262) h3259 h3264 h3266 h3265)
      refine sv_aload_n (pc := 111) dX10_verdictOn_111 rfl rfl ?_
      refine gf_X10_0 (pc := 112) dX10_verdictOn_112 wF_X10_9 (A_6 hw) hT ?_
      refine mr_iload_n (pc := 115) (z := p1) dX10_verdictOn_115 rfl rfl ?_
      refine lk_7 (pc := 116) dX10_verdictOn_116 (A_7 hw) (rIx (n := 10) hp1 rfl) q3292 ?_
      refine sv_aload_n (pc := 117) dX10_verdictOn_117 rfl rfl ?_
      refine gf_X10_2 (pc := 118) dX10_verdictOn_118 wF_X10_18 (A_6 hw) hT ?_
      refine mr_iload (pc := 121) (z := z3267) dX10_verdictOn_121 rfl ?_
      refine lk_9 (pc := 123) dX10_verdictOn_123 (A_9 hw) (rIx (n := 10) h3269 rfl) q3295 ?_
      refine mr_iand (pc := 124) (x := z3291) (y := z3294) dX10_verdictOn_124 ?_
      refine mr_gen (P := fun z => (-2147483648) ≤ z ∧ z ≤ 2147483647) (r32i _) fun z3417 q3418 h3419 => ?_
      refine sv_aload_n (pc := 125) dX10_verdictOn_125 rfl rfl ?_
      refine gf_X10_0 (pc := 126) dX10_verdictOn_126 wF_X10_9 (A_6 hw) hT ?_
      refine mr_iload (pc := 129) (z := z3267) dX10_verdictOn_129 rfl ?_
      refine lk_7 (pc := 131) dX10_verdictOn_131 (A_7 hw) (rIx (n := 10) h3269 rfl) q3289 ?_
      refine mr_icmp_ne (pc := 132) (tgt := 139) dX10_verdictOn_132 (by decide) h3419 h3290 (fun h3420 => ?_) (fun h3420 => ?_)
      · refine mr_iconst (pc := 139) (z := 0) dX10_verdictOn_139 ?_
        refine mr_istore (pc := 140) (lv' := [(10, iv 0), (9, iv z3267), (8, iv 1), (7, iv 1), (0, .ref 6), (1, iv p1), (2, iv p2), (3, iv p3), (4, iv p4), (5, iv z3252), (6, iv z3251)]) dX10_verdictOn_140 (by decide) rfl ?_
        refine mr_iload (pc := 142) (z := 1) dX10_verdictOn_142 rfl ?_
        refine mr_if_eq (pc := 144) (tgt := 192) dX10_verdictOn_144 (by decide) (r32 (rR (x := 1)) rfl) (fun h => ((vc_X12_next_203 h)).elim) (fun _ => ?_)
        refine mr_iload (pc := 147) (z := 1) dX10_verdictOn_147 rfl ?_
        refine mr_if_eq (pc := 149) (tgt := 192) dX10_verdictOn_149 (by decide) (r32 (rR (x := 1)) rfl) (fun h => ((vc_X12_next_203 h)).elim) (fun _ => ?_)
        refine mr_iload (pc := 152) (z := 0) dX10_verdictOn_152 rfl ?_
        refine mr_if_ne (pc := 154) (tgt := 160) dX10_verdictOn_154 (by decide) (r32 (rR (x := 0)) rfl) (fun h => ((vc_X12_next_469 h)).elim) (fun _ => ?_)
        refine sv_goto (pc := 157) (tgt := 192) dX10_verdictOn_157 (by decide) ?_
        refine mr_iinc (pc := 192) (lv' := [(6, iv (z3251 + 1)), (10, iv 0), (9, iv z3267), (8, iv 1), (7, iv 1), (0, .ref 6), (1, iv p1), (2, iv p2), (3, iv p3), (4, iv p4), (5, iv z3252)]) dX10_verdictOn_192 rfl (by decide) rfl ?_
        refine sv_goto (pc := 195) (tgt := 6) dX10_verdictOn_195 (by decide) ?_
        refine mr_lvS (lv' := [(0, .ref 6), (1, iv p1), (2, iv p2), (3, iv p3), (4, iv p4), (5, iv z3252), (6, iv (z3251 + 1))]) (List.forall_mem_cons.mpr ⟨rfl, List.forall_mem_cons.mpr ⟨rfl, List.forall_mem_cons.mpr ⟨rfl, List.forall_mem_cons.mpr ⟨rfl, List.forall_mem_cons.mpr ⟨rfl, List.forall_mem_cons.mpr ⟨rfl, List.forall_mem_cons.mpr ⟨rfl, fun _ h => absurd h List.not_mem_nil⟩⟩⟩⟩⟩⟩⟩) ?_
        exact ih3263 z3252 (z3251 + 1) trivial h3254 (rW (c := 0) (d := 30) (rAdd (e := 1) (f := 30) h3265 (rR (x := 1)) rfl) rfl) (vc_X12_judgedAnew_v_8 h3259 h3264 h3266 h3265) (vc_X10_verdictOn_v_13 h3260 h3254) (vd.skip R3261 (vc_X12_judgedAnew_v_10 h3259 h3264 h3266 h3265) (apC.no2 q3268 q3289 q3292 q3295 q3418 (vc_X10_findPrefix_v_8 h3420 h3290 h3419))) (vc_X12_judgedAnew_v_9 (nS h3262) h3259 h3264 h3266 h3265)
      refine mr_iconst (pc := 135) (z := 1) dX10_verdictOn_135 ?_
      refine sv_goto (pc := 136) (tgt := 140) dX10_verdictOn_136 (by decide) ?_
      refine mr_istore (pc := 140) (lv' := [(10, iv 1), (9, iv z3267), (8, iv 1), (7, iv 1), (0, .ref 6), (1, iv p1), (2, iv p2), (3, iv p3), (4, iv p4), (5, iv z3252), (6, iv z3251)]) dX10_verdictOn_140 (by decide) rfl ?_
      refine mr_iload (pc := 142) (z := 1) dX10_verdictOn_142 rfl ?_
      refine mr_if_eq (pc := 144) (tgt := 192) dX10_verdictOn_144 (by decide) (r32 (rR (x := 1)) rfl) (fun h => ((vc_X12_next_203 h)).elim) (fun _ => ?_)
      refine mr_iload (pc := 147) (z := 1) dX10_verdictOn_147 rfl ?_
      refine mr_if_eq (pc := 149) (tgt := 192) dX10_verdictOn_149 (by decide) (r32 (rR (x := 1)) rfl) (fun h => ((vc_X12_next_203 h)).elim) (fun _ => ?_)
      refine mr_iload (pc := 152) (z := 1) dX10_verdictOn_152 rfl ?_
      refine mr_if_ne (pc := 154) (tgt := 160) dX10_verdictOn_154 (by decide) (r32 (rR (x := 1)) rfl) (fun _ => ?_) (fun h => ((vc_X12_next_203 h)).elim)
      refine sv_aload_n (pc := 160) dX10_verdictOn_160 rfl rfl ?_
      refine gf_X10_9 (pc := 161) dX10_verdictOn_161 wF_X10_45 (A_6 hw) hT ?_
      refine mr_iload (pc := 164) (z := z3251) dX10_verdictOn_164 rfl ?_
      refine lk_16 (pc := 166) dX10_verdictOn_166 (A_16 hw) (rIx (n := 30) h3265 rfl) q3298 ?_
      refine mr_iload_n (pc := 167) (z := p2) dX10_verdictOn_167 rfl rfl ?_
      refine mr_icmp_ne (pc := 168) (tgt := 189) dX10_verdictOn_168 (by decide) h3299 hp2 (fun h3421 => ?_) (fun h3421 => ?_)
      · refine mr_iconst (pc := 189) (z := 0) dX10_verdictOn_189 ?_
        refine mr_istore (pc := 190) (lv' := [(5, iv 0), (10, iv 1), (9, iv z3267), (8, iv 1), (7, iv 1), (0, .ref 6), (1, iv p1), (2, iv p2), (3, iv p3), (4, iv p4), (6, iv z3251)]) dX10_verdictOn_190 (by decide) rfl ?_
        refine mr_iinc (pc := 192) (lv' := [(6, iv (z3251 + 1)), (5, iv 0), (10, iv 1), (9, iv z3267), (8, iv 1), (7, iv 1), (0, .ref 6), (1, iv p1), (2, iv p2), (3, iv p3), (4, iv p4)]) dX10_verdictOn_192 rfl (by decide) rfl ?_
        refine sv_goto (pc := 195) (tgt := 6) dX10_verdictOn_195 (by decide) ?_
        refine mr_lvS (lv' := [(0, .ref 6), (1, iv p1), (2, iv p2), (3, iv p3), (4, iv p4), (5, iv 0), (6, iv (z3251 + 1))]) (List.forall_mem_cons.mpr ⟨rfl, List.forall_mem_cons.mpr ⟨rfl, List.forall_mem_cons.mpr ⟨rfl, List.forall_mem_cons.mpr ⟨rfl, List.forall_mem_cons.mpr ⟨rfl, List.forall_mem_cons.mpr ⟨rfl, List.forall_mem_cons.mpr ⟨rfl, fun _ h => absurd h List.not_mem_nil⟩⟩⟩⟩⟩⟩⟩) ?_
        exact ih3263 0 (z3251 + 1) trivial (rW (c := 0) (d := 2) (rR (x := 0)) rfl) (rW (c := 0) (d := 30) (rAdd (e := 1) (f := 30) h3265 (rR (x := 1)) rfl) rfl) (vc_X12_judgedAnew_v_8 h3259 h3264 h3266 h3265) vc_X10_verdictOn_v_42 (vd.go R3261 (vc_X12_judgedAnew_v_10 h3259 h3264 h3266 h3265) (apC.yes q3271 q3274 q3277 q3280 q3268 q3283 q3286 q3289 q3292 q3295 (vc_X10_verdictOn_v_57 h3303 h3342 h3381 h3391 h3404 h3414 h3379 h3412 h3272 h3380 h3278 h3413 h3284 h3287) q3418 (vc_X10_findPrefix_v_12 h3420 h3290 h3419)) (okC.no q3298 q3286 q3301 (vc_X10_verdictOn_v_45 h3414 h3421 hp2 h3284 h3287 h3299 h3302) (vc_X10_verdictOn_v_13 h3260 h3254))) (vc_X12_judgedAnew_v_9 (nS h3262) h3259 h3264 h3266 h3265)
      refine sv_aload_n (pc := 171) dX10_verdictOn_171 rfl rfl ?_
      refine gf_X10_8 (pc := 172) dX10_verdictOn_172 wF_X10_42 (A_6 hw) hT ?_
      refine mr_iload (pc := 175) (z := z3251) dX10_verdictOn_175 rfl ?_
      refine lk_15 (pc := 177) dX10_verdictOn_177 (A_15 hw) (rIx (n := 30) h3265 rfl) q3301 ?_
      refine sv_aload_n (pc := 178) dX10_verdictOn_178 rfl rfl ?_
      refine gf_X10_1 (pc := 179) dX10_verdictOn_179 wF_X10_15 (A_6 hw) hT ?_
      refine mr_iload_n (pc := 182) (z := p1) dX10_verdictOn_182 rfl rfl ?_
      refine lk_8 (pc := 183) dX10_verdictOn_183 (A_8 hw) (rIx (n := 10) hp1 rfl) q3286 ?_
      refine mr_icmp_lt (pc := 184) (tgt := 189) dX10_verdictOn_184 (by decide) h3302 (r32 h3287 rfl) (fun h3422 => ?_) (fun h3422 => ?_)
      · have h3423 : (-2147483648) ≤ z3300 ∧ z3300 ≤ 31 := (vc_X12_judgedAnew_v_28 h3422 h3414 h3284 h3287 h3302)
        refine mr_iconst (pc := 189) (z := 0) dX10_verdictOn_189 ?_
        refine mr_istore (pc := 190) (lv' := [(5, iv 0), (10, iv 1), (9, iv z3267), (8, iv 1), (7, iv 1), (0, .ref 6), (1, iv p1), (2, iv p2), (3, iv p3), (4, iv p4), (6, iv z3251)]) dX10_verdictOn_190 (by decide) rfl ?_
        refine mr_iinc (pc := 192) (lv' := [(6, iv (z3251 + 1)), (5, iv 0), (10, iv 1), (9, iv z3267), (8, iv 1), (7, iv 1), (0, .ref 6), (1, iv p1), (2, iv p2), (3, iv p3), (4, iv p4)]) dX10_verdictOn_192 rfl (by decide) rfl ?_
        refine sv_goto (pc := 195) (tgt := 6) dX10_verdictOn_195 (by decide) ?_
        refine mr_lvS (lv' := [(0, .ref 6), (1, iv p1), (2, iv p2), (3, iv p3), (4, iv p4), (5, iv 0), (6, iv (z3251 + 1))]) (List.forall_mem_cons.mpr ⟨rfl, List.forall_mem_cons.mpr ⟨rfl, List.forall_mem_cons.mpr ⟨rfl, List.forall_mem_cons.mpr ⟨rfl, List.forall_mem_cons.mpr ⟨rfl, List.forall_mem_cons.mpr ⟨rfl, List.forall_mem_cons.mpr ⟨rfl, fun _ h => absurd h List.not_mem_nil⟩⟩⟩⟩⟩⟩⟩) ?_
        exact ih3263 0 (z3251 + 1) trivial (rW (c := 0) (d := 2) (rR (x := 0)) rfl) (rW (c := 0) (d := 30) (rAdd (e := 1) (f := 30) h3265 (rR (x := 1)) rfl) rfl) (vc_X12_judgedAnew_v_8 h3259 h3264 h3266 h3265) vc_X10_verdictOn_v_42 (vd.go R3261 (vc_X12_judgedAnew_v_10 h3259 h3264 h3266 h3265) (apC.yes q3271 q3274 q3277 q3280 q3268 q3283 q3286 q3289 q3292 q3295 (vc_X10_verdictOn_v_59 h3303 h3342 h3381 h3391 h3404 h3414 h3422 h3379 h3412 h3272 h3380 h3278 h3413 h3284 h3287 h3423) q3418 (vc_X10_findPrefix_v_12 h3420 h3290 h3419)) (okC.no q3298 q3286 q3301 (vc_X10_verdictOn_v_48 h3414 h3421 h3422 hp2 h3284 h3287 h3299 h3423) (vc_X10_verdictOn_v_13 h3260 h3254))) (vc_X12_judgedAnew_v_9 (nS h3262) h3259 h3264 h3266 h3265)
      have h3424 : 0 ≤ z3300 ∧ z3300 ≤ 2147483647 := (vc_X12_judgedAnew_v_31 h3422 h3414 h3284 h3287 h3302)
      refine mr_iconst (pc := 187) (z := 1) dX10_verdictOn_187 ?_
      exact mr_iretP dX10_verdictOn_188 rfl (le_t rfl) (le_t rfl) ⟨(rW (c := 0) (d := 2) (rR (x := 1)) rfl), (by show (1 : Int) = vdF _ _ (μ 6 17).toNat; rw [q_f_r]; exact vd.one (vc_X10_verdictOn_v_50 h3259 h3264 h3266 h3265) (apC.yes q3271 q3274 q3277 q3280 q3268 q3283 q3286 q3289 q3292 q3295 (vc_X10_verdictOn_v_60 h3303 h3342 h3381 h3391 h3404 h3414 h3422 h3379 h3412 h3272 h3380 h3278 h3413 h3284 h3287 h3424) q3418 (vc_X10_findPrefix_v_12 h3420 h3290 h3419)) (okC.yes q3298 q3286 q3301 (vc_X10_verdictOn_v_52 h3414 h3421 h3422 hp2 h3284 h3287 h3299 h3424))), trivial⟩
  refine mr_lvS (lv' := [(0, .ref 6), (1, iv p1), (2, iv p2), (3, iv p3), (4, iv p4), (5, iv 2), (6, iv 0)]) (List.forall_mem_cons.mpr ⟨rfl, List.forall_mem_cons.mpr ⟨rfl, List.forall_mem_cons.mpr ⟨rfl, List.forall_mem_cons.mpr ⟨rfl, List.forall_mem_cons.mpr ⟨rfl, List.forall_mem_cons.mpr ⟨rfl, List.forall_mem_cons.mpr ⟨rfl, fun _ h => absurd h List.not_mem_nil⟩⟩⟩⟩⟩⟩⟩) ?_
  exact L3253 32 2 0 trivial (rW (c := 0) (d := 2) (rR (x := 2)) rfl) (rW (c := 0) (d := 30) (rR (x := 0)) rfl) (vc_X12_judgedAnew_v_51 ht_f_r) vc_X10_verdictOn_v_62 rfl vc_X10_verdictOn_24
set_option maxRecDepth 4000 in
set_option maxHeartbeats 4000000 in
theorem c_X11_verdict_v {l : Launch} {D : va_G} {c : Nat → ClassId} {H0 : Heap} {sa : Nat × Nat × (Nat → Int32)} {w : mW} {μ : mM} (hw : mWF w) (hT : mT w μ) {p1 : Int} (hp1 : (-2147483648) ≤ p1 ∧ p1 ≤ 2147483647) {p2 : Int} (hp2 : (-2147483648) ≤ p2 ∧ p2 ≤ 2147483647) {p3 : Int} (hp3 : (-2147483648) ≤ p3 ∧ p3 ≤ 2147483647) {p4 : Int} (hp4 : (-2147483648) ≤ p4 ∧ p4 ≤ 2147483647) {f_n : Int} (q_f_n : μ 6 14 = f_n) {f_r : Int} (q_f_r : μ 6 17 = f_r) : sC (gG l D c H0 sa) mX11_verdict 2 0 0 [.ref 0, iv p1, iv p2, iv p3, iv p4] (mk w μ) (qP w μ (fun z => ((-2147483648) ≤ z ∧ z ≤ 2147483647) ∧ (vrA (p1 < 0 ∨ f_n ≤ p1 ∨ p3 < 0 ∨ p4 < 0) (vC μ p1 p2 p3 p4) z) ∧ True)) := by
  refine sC.of rfl (by decide) (le_t rfl) ?_
  have ht_f_n : (0 ≤ f_n ∧ f_n ≤ 10) := by rw [← q_f_n]; exact hT 6 6 (A_6 hw) 14
  have ht_f_r : (0 ≤ f_r ∧ f_r ≤ 30) := by rw [← q_f_r]; exact hT 6 6 (A_6 hw) 17
  refine mr_lvE (lv' := [(0, .ref 0), (1, iv p1), (2, iv p2), (3, iv p3), (4, iv p4)]) rfl ?_
  refine sv_aload_n (pc := 0) dX11_verdict_0 rfl rfl ?_
  refine mr_iload_n (pc := 1) (z := p1) dX11_verdict_1 rfl rfl ?_
  refine mr_cVP (pc := 2) (c_X11_isPrefix hw hT hp1 q_f_n) (gOk _ _ _ _ _) dX11_verdict_2 (tX11_isPrefix _ _ _ _ _) ⟨wV_X11_isPrefix, wL_X11_isPrefix⟩ wM_X11_182 (gCX11 _ _ _ _ _) rfl (A_0 hw) rfl ⟨le_t rfl, le_t rfl⟩ ⟨le_t rfl, le_t rfl⟩ rfl (le_t rfl) fun z65 h64 => ?_
  refine mr_if_eq (pc := 5) (tgt := 17) dX11_verdict_5 (by decide) (r32 h64.1 rfl) (fun h66 => ?_) (fun h66 => ?_)
  · have h67 : 0 ≤ z65 ∧ z65 ≤ 0 := (vc_X12_verdict_v_1 h66 h64.2.1 h64.2.2.1 ht_f_n hp1 h64.1)
    have h68 : p1 < 0 ∨ f_n ≤ p1 := (h64.2.2.1 (vc_X12_verdict_v_2 h64.2.1 h64.2.2.1 h66 ht_f_n hp1 h67))
    refine mr_iconst (pc := 17) (z := (-1)) dX11_verdict_17 ?_
    exact mr_iretP dX11_verdict_18 rfl (le_t rfl) (le_t rfl) ⟨(rW (c := (-2147483648)) (d := 2147483647) (rR (x := (-1))) rfl), (Or.inl ⟨(vc_X12_verdict_v_3 h64.2.1 h64.2.2.1 h68 h66 ht_f_n hp1 hp3 hp4 h67), rfl⟩), trivial⟩
  have h69 : 1 ≤ z65 ∧ z65 ≤ 1 := (vc_X12_verdict_v_4 h66 h64.2.1 h64.2.2.1 ht_f_n hp1 h64.1)
  have h70 : 0 ≤ p1 ∧ p1 < f_n := (h64.2.1 (vc_X12_verdict_v_5 h64.2.1 h64.2.2.1 h66 ht_f_n hp1 h69))
  have h71 : 0 ≤ p1 ∧ p1 ≤ 9 := (vc_X12_verdict_v_6 h70 h64.2.1 h64.2.2.1 ht_f_n hp1 h69)
  have h72 : 1 ≤ f_n ∧ f_n ≤ 10 := (vc_X12_verdict_v_7 h70 h64.2.1 h64.2.2.1 ht_f_n h71 h69)
  refine mr_iload_n (pc := 8) (z := p3) dX11_verdict_8 rfl rfl ?_
  refine mr_if_lt (pc := 9) (tgt := 17) dX11_verdict_9 (by decide) hp3 (fun h73 => ?_) (fun h73 => ?_)
  · have h74 : (-2147483648) ≤ p3 ∧ p3 ≤ (-1) := (vc_X12_cut_1 h73 hp3)
    refine mr_iconst (pc := 17) (z := (-1)) dX11_verdict_17 ?_
    exact mr_iretP dX11_verdict_18 rfl (le_t rfl) (le_t rfl) ⟨(rW (c := (-2147483648)) (d := 2147483647) (rR (x := (-1))) rfl), (Or.inl ⟨(vc_X12_verdict_v_9 h64.2.1 h64.2.2.1 h70 h73 h66 h72 h71 h74 hp4 h69), rfl⟩), trivial⟩
  have h75 : 0 ≤ p3 ∧ p3 ≤ 2147483647 := (vc_X12_cut_2 h73 hp3)
  refine mr_iload (pc := 12) (z := p4) dX11_verdict_12 rfl ?_
  refine mr_if_ge (pc := 14) (tgt := 19) dX11_verdict_14 (by decide) hp4 (fun h76 => ?_) (fun h76 => ?_)
  · have h77 : 0 ≤ p4 ∧ p4 ≤ 2147483647 := (vc_X12_cut_2 h76 hp4)
    refine sv_aload_n (pc := 19) dX11_verdict_19 rfl rfl ?_
    refine gf_X11_3 (pc := 20) dX11_verdict_20 wF_X11_26 (A_0 hw) hT ?_
    refine mr_iload_n (pc := 23) (z := p1) dX11_verdict_23 rfl rfl ?_
    refine mr_iload_n (pc := 24) (z := p2) dX11_verdict_24 rfl rfl ?_
    refine mr_iload_n (pc := 25) (z := p3) dX11_verdict_25 rfl rfl ?_
    refine mr_iload (pc := 26) (z := p4) dX11_verdict_26 rfl ?_
    refine mr_cVP (pc := 28) (c_X10_verdictOn_v hw hT h71 hp2 (rW (c := (-2147483648)) (d := 2147483647) h75 rfl) (rW (c := (-2147483648)) (d := 2147483647) h77 rfl) q_f_r) (gOk _ _ _ _ _) dX11_verdict_28 (tX10_verdictOn _ _ _ _ _) ⟨wV_X10_verdictOn, wL_X10_verdictOn⟩ wM_X11_201 (gCX10 _ _ _ _ _) rfl (A_6 hw) rfl ⟨le_t rfl, le_t rfl⟩ ⟨le_t rfl, le_t rfl⟩ rfl (le_t rfl) fun z82 h81 => ?_
    exact mr_iretP dX11_verdict_31 rfl (le_t rfl) (le_t rfl) ⟨(rW (c := (-2147483648)) (d := 2147483647) h81.1 rfl), (Or.inr ⟨(vc_X12_verdict_v_13 h64.2.1 h64.2.2.1 h70 h73 h76 h66 h72 h71 h75 h77 h69), h81.2.1⟩), trivial⟩
  have h83 : (-2147483648) ≤ p4 ∧ p4 ≤ (-1) := (vc_X12_cut_1 h76 hp4)
  refine mr_iconst (pc := 17) (z := (-1)) dX11_verdict_17 ?_
  exact mr_iretP dX11_verdict_18 rfl (le_t rfl) (le_t rfl) ⟨(rW (c := (-2147483648)) (d := 2147483647) (rR (x := (-1))) rfl), (Or.inl ⟨(vc_X12_verdict_v_15 h64.2.1 h64.2.2.1 h70 h73 h76 h66 h72 h71 h75 h83 h69), rfl⟩), trivial⟩
