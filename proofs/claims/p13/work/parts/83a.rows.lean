theorem vc_X12_states_r_1 (h0 : (6 : Int) < (1 : Int)) : False := by omega
theorem vc_X12_states_r_2 (h0 : (5 : Int) < (1 : Int)) : False := by omega
theorem vc_X12_states_r_3 (h0 : (4 : Int) < (1 : Int)) : False := by omega
theorem vc_X12_states_r_4 (h0 : (3 : Int) < (1 : Int)) : False := by omega
theorem vc_X12_states_r_5 (h0 : (2 : Int) < (1 : Int)) : False := by omega
theorem vc_X12_states_r_6 (h0 : (1 : Int) < (1 : Int)) : False := by omega
theorem vc_X12_states_r_7 (h0 : (1 : Int) ≤ (0 : Int)) : False := by omega
theorem vc_X12_states_r_8  : (2 : Int).toNat ≠ (1 : Int).toNat := by omega
theorem vc_X12_states_r_9  : (3 : Int).toNat ≠ (2 : Int).toNat := by omega
theorem vc_X12_states_r_10  : (3 : Int).toNat ≠ (1 : Int).toNat := by omega
theorem vc_X12_states_r_11  : (4 : Int).toNat ≠ (3 : Int).toNat := by omega
theorem vc_X12_states_r_12  : (4 : Int).toNat ≠ (2 : Int).toNat := by omega
theorem vc_X12_states_r_13  : (4 : Int).toNat ≠ (1 : Int).toNat := by omega
theorem vc_X12_states_r_14  : (5 : Int).toNat ≠ (4 : Int).toNat := by omega
theorem vc_X12_states_r_15  : (5 : Int).toNat ≠ (3 : Int).toNat := by omega
theorem vc_X12_states_r_16  : (5 : Int).toNat ≠ (2 : Int).toNat := by omega
theorem vc_X12_states_r_17  : (5 : Int).toNat ≠ (1 : Int).toNat := by omega
theorem vc_X12_states_r_18  : (6 : Int).toNat ≠ (5 : Int).toNat := by omega
theorem vc_X12_states_r_19  : (6 : Int).toNat ≠ (4 : Int).toNat := by omega
theorem vc_X12_states_r_20  : (6 : Int).toNat ≠ (3 : Int).toNat := by omega
theorem vc_X12_states_r_21  : (6 : Int).toNat ≠ (2 : Int).toNat := by omega
theorem vc_X12_states_r_22  : (6 : Int).toNat ≠ (1 : Int).toNat := by omega
theorem vc_X12_states_r_23 {z40 : Int} (h0 : 1 ≤ z40 ∧ z40 ≤ 7776) : 1 ≤ z40 := by omega
theorem vc_X12_states_r_24 {z31 : Int} (h0 : 1 ≤ z31 ∧ z31 ≤ 1296) : 1 ≤ z31 := by omega
theorem vc_X12_states_r_25 {z22 : Int} (h0 : 1 ≤ z22 ∧ z22 ≤ 216) : 1 ≤ z22 := by omega
theorem vc_X12_states_r_26 {z13 : Int} (h0 : 1 ≤ z13 ∧ z13 ≤ 36) : 1 ≤ z13 := by omega
theorem vc_X12_states_r_27 {z4 : Int} (h0 : 0 ≤ z4 ∧ z4 ≤ 5) : 1 ≤ (1 * (z4 + 1)) := by omega
theorem vc_X12_states_r_28  : (1 : Int) ≤ ((1 : Int) : Int) := by omega
theorem vc_X12_states_r_29 {z40 : Int} (h0 : 1 ≤ z40 ∧ z40 ≤ 7776) : 0 < z40 := by omega
theorem vc_X12_states_r_30 {z31 : Int} (h0 : 1 ≤ z31 ∧ z31 ≤ 1296) : 0 < z31 := by omega
theorem vc_X12_states_r_31 {z22 : Int} (h0 : 1 ≤ z22 ∧ z22 ≤ 216) : 0 < z22 := by omega
theorem vc_X12_states_r_32 {z13 : Int} (h0 : 1 ≤ z13 ∧ z13 ≤ 36) : 0 < z13 := by omega
theorem vc_X12_states_r_33 {z4 : Int} (h0 : 0 ≤ z4 ∧ z4 ≤ 5) : 0 < (1 * (z4 + 1)) := by omega
theorem vc_X12_states_r_34  : (0 : Int) < ((1 : Int) : Int) := by omega
set_option maxRecDepth 4000 in
set_option maxHeartbeats 4000000 in
theorem c_X12_states_r {l : Launch} {D : va_G} {c : Nat → ClassId} {H0 : Heap} {sa : Nat × Nat × (Nat → Int32)} {w : mW} {μ : mM} (hw : mWF w) (hT : mT w μ) : sC (gG l D c H0 sa) mX12_states 1 0 0 [.ref 106] (mk w μ) (qI w [187999] μ (fun z μ1 => ∃ o_w1 o_w2 o_w3 o_w4 o_w5 o_w6 : Int, μ1 187 ((1 : Int).toNat) = o_w1 ∧ μ1 187 ((2 : Int).toNat) = o_w2 ∧ μ1 187 ((3 : Int).toNat) = o_w3 ∧ μ1 187 ((4 : Int).toNat) = o_w4 ∧ μ1 187 ((5 : Int).toNat) = o_w5 ∧ μ1 187 ((6 : Int).toNat) = o_w6 ∧ (1 ≤ z ∧ z ≤ 46656) ∧ (1 ≤ o_w1) ∧ (1 ≤ o_w2) ∧ (1 ≤ o_w3) ∧ (1 ≤ o_w4) ∧ (1 ≤ o_w5) ∧ (1 ≤ o_w6) ∧ (radix μ1 187 184 z) ∧ True)) := by
  refine sC.of rfl (by decide) (le_t rfl) ?_
  refine mr_lvE (lv' := [(0, .ref 106)]) rfl ?_
  refine mr_iconst (pc := 0) (z := 1) dX12_states_0 ?_
  refine mr_istore_n (pc := 1) (lv' := [(1, iv 1), (0, .ref 106)]) dX12_states_1 rfl (by decide) rfl ?_
  refine mr_bipush (pc := 2) (z := 6) dX12_states_2 (by decide) ?_
  refine mr_istore_n (pc := 4) (lv' := [(2, iv 6), (1, iv 1), (0, .ref 106)]) dX12_states_4 rfl (by decide) rfl ?_
  refine mr_iload_n (pc := 5) (z := 6) dX12_states_5 rfl rfl ?_
  refine mr_iconst (pc := 6) (z := 1) dX12_states_6 ?_
  refine mr_icmp_lt (pc := 7) (tgt := 34) dX12_states_7 (by decide) (r32 (rR (x := 6)) rfl) (r32 (rR (x := 1)) rfl) (fun h => ((vc_X12_states_r_1 h)).elim) (fun _ => ?_)
  refine sv_aload_n (pc := 10) dX12_states_10 rfl rfl ?_
  refine gf_X12_121 (pc := 11) dX12_states_11 wF_X12_523 (A_106 hw) hT ?_
  refine mr_iload_n (pc := 14) (z := 6) dX12_states_14 rfl rfl ?_
  refine mr_iload_n (pc := 15) (z := 1) dX12_states_15 rfl rfl ?_
  refine ss_187 (pc := 16) dX12_states_16 (A_187 hw) hT (rIx (n := 8) (rR (x := 6)) rfl) (rW (c := 0) (d := 46656) (rR (x := 1)) rfl) fun μ1 u2 T3 => ?_
  refine mr_iload_n (pc := 17) (z := 1) dX12_states_17 rfl rfl ?_
  refine sv_aload_n (pc := 18) dX12_states_18 rfl rfl ?_
  refine gf_X12_118 (pc := 19) dX12_states_19 wF_X12_514 (A_106 hw) T3 ?_
  refine mr_iload_n (pc := 22) (z := 6) dX12_states_22 rfl rfl ?_
  refine la_184 (pc := 23) dX12_states_23 (A_184 hw) T3 (rIx (n := 7) (rR (x := 6)) rfl) fun z4 q5 h6 => ?_
  refine mr_iconst (pc := 24) (z := 1) dX12_states_24 ?_
  refine mr_iadd (pc := 25) (x := z4) (y := 1) dX12_states_25 ?_
  refine mr_imul (pc := 26) (x := 1) (y := (z4 + 1)) dX12_states_26 ?_
  refine mr_istore_n (pc := 27) (lv' := [(1, iv (1 * (z4 + 1))), (2, iv 6), (0, .ref 106)]) dX12_states_27 rfl (by decide) rfl ?_
  refine mr_iinc (pc := 28) (lv' := [(2, iv 5), (1, iv (1 * (z4 + 1))), (0, .ref 106)]) dX12_states_28 rfl (by decide) rfl ?_
  refine sv_goto (pc := 31) (tgt := 5) dX12_states_31 (by decide) ?_
  refine mr_iload_n (pc := 5) (z := 5) dX12_states_5 rfl rfl ?_
  refine mr_iconst (pc := 6) (z := 1) dX12_states_6 ?_
  refine mr_icmp_lt (pc := 7) (tgt := 34) dX12_states_7 (by decide) (r32 (rR (x := 5)) rfl) (r32 (rR (x := 1)) rfl) (fun h => ((vc_X12_states_r_2 h)).elim) (fun _ => ?_)
  refine sv_aload_n (pc := 10) dX12_states_10 rfl rfl ?_
  refine gf_X12_121 (pc := 11) dX12_states_11 wF_X12_523 (A_106 hw) T3 ?_
  refine mr_iload_n (pc := 14) (z := 5) dX12_states_14 rfl rfl ?_
  refine mr_iload_n (pc := 15) (z := (1 * (z4 + 1))) dX12_states_15 rfl rfl ?_
  refine ss_187 (pc := 16) dX12_states_16 (A_187 hw) T3 (rIx (n := 8) (rR (x := 5)) rfl) (rW (c := 0) (d := 46656) (rMulL (n := 1) (e := 1) (f := 6) (rAdd (e := 1) (f := 6) h6 (rR (x := 1)) rfl) rfl) rfl) fun μ7 u8 T9 => ?_
  refine mr_iload_n (pc := 17) (z := (1 * (z4 + 1))) dX12_states_17 rfl rfl ?_
  refine sv_aload_n (pc := 18) dX12_states_18 rfl rfl ?_
  refine gf_X12_118 (pc := 19) dX12_states_19 wF_X12_514 (A_106 hw) T9 ?_
  refine mr_iload_n (pc := 22) (z := 5) dX12_states_22 rfl rfl ?_
  refine la_184 (pc := 23) dX12_states_23 (A_184 hw) T9 (rIx (n := 7) (rR (x := 5)) rfl) fun z10 q11 h12 => ?_
  refine mr_iconst (pc := 24) (z := 1) dX12_states_24 ?_
  refine mr_iadd (pc := 25) (x := z10) (y := 1) dX12_states_25 ?_
  refine mr_imul (pc := 26) (x := (1 * (z4 + 1))) (y := (z10 + 1)) dX12_states_26 ?_
  refine mr_gen (P := fun z => 1 ≤ z ∧ z ≤ 36) (rMulP (rMulL (n := 1) (e := 1) (f := 6) (rAdd (e := 1) (f := 6) h6 (rR (x := 1)) rfl) rfl) (rAdd (e := 1) (f := 6) h12 (rR (x := 1)) rfl) rfl) fun z13 q14 h15 => ?_
  refine mr_istore_n (pc := 27) (lv' := [(1, iv z13), (2, iv 5), (0, .ref 106)]) dX12_states_27 rfl (by decide) rfl ?_
  refine mr_iinc (pc := 28) (lv' := [(2, iv 4), (1, iv z13), (0, .ref 106)]) dX12_states_28 rfl (by decide) rfl ?_
  refine sv_goto (pc := 31) (tgt := 5) dX12_states_31 (by decide) ?_
  refine mr_iload_n (pc := 5) (z := 4) dX12_states_5 rfl rfl ?_
  refine mr_iconst (pc := 6) (z := 1) dX12_states_6 ?_
  refine mr_icmp_lt (pc := 7) (tgt := 34) dX12_states_7 (by decide) (r32 (rR (x := 4)) rfl) (r32 (rR (x := 1)) rfl) (fun h => ((vc_X12_states_r_3 h)).elim) (fun _ => ?_)
  refine sv_aload_n (pc := 10) dX12_states_10 rfl rfl ?_
  refine gf_X12_121 (pc := 11) dX12_states_11 wF_X12_523 (A_106 hw) T9 ?_
  refine mr_iload_n (pc := 14) (z := 4) dX12_states_14 rfl rfl ?_
  refine mr_iload_n (pc := 15) (z := z13) dX12_states_15 rfl rfl ?_
  refine ss_187 (pc := 16) dX12_states_16 (A_187 hw) T9 (rIx (n := 8) (rR (x := 4)) rfl) (rW (c := 0) (d := 46656) h15 rfl) fun μ16 u17 T18 => ?_
  refine mr_iload_n (pc := 17) (z := z13) dX12_states_17 rfl rfl ?_
  refine sv_aload_n (pc := 18) dX12_states_18 rfl rfl ?_
  refine gf_X12_118 (pc := 19) dX12_states_19 wF_X12_514 (A_106 hw) T18 ?_
  refine mr_iload_n (pc := 22) (z := 4) dX12_states_22 rfl rfl ?_
  refine la_184 (pc := 23) dX12_states_23 (A_184 hw) T18 (rIx (n := 7) (rR (x := 4)) rfl) fun z19 q20 h21 => ?_
  refine mr_iconst (pc := 24) (z := 1) dX12_states_24 ?_
  refine mr_iadd (pc := 25) (x := z19) (y := 1) dX12_states_25 ?_
  refine mr_imul (pc := 26) (x := z13) (y := (z19 + 1)) dX12_states_26 ?_
  refine mr_gen (P := fun z => 1 ≤ z ∧ z ≤ 216) (rMulP h15 (rAdd (e := 1) (f := 6) h21 (rR (x := 1)) rfl) rfl) fun z22 q23 h24 => ?_
  refine mr_istore_n (pc := 27) (lv' := [(1, iv z22), (2, iv 4), (0, .ref 106)]) dX12_states_27 rfl (by decide) rfl ?_
  refine mr_iinc (pc := 28) (lv' := [(2, iv 3), (1, iv z22), (0, .ref 106)]) dX12_states_28 rfl (by decide) rfl ?_
  refine sv_goto (pc := 31) (tgt := 5) dX12_states_31 (by decide) ?_
  refine mr_iload_n (pc := 5) (z := 3) dX12_states_5 rfl rfl ?_
  refine mr_iconst (pc := 6) (z := 1) dX12_states_6 ?_
  refine mr_icmp_lt (pc := 7) (tgt := 34) dX12_states_7 (by decide) (r32 (rR (x := 3)) rfl) (r32 (rR (x := 1)) rfl) (fun h => ((vc_X12_states_r_4 h)).elim) (fun _ => ?_)
  refine sv_aload_n (pc := 10) dX12_states_10 rfl rfl ?_
  refine gf_X12_121 (pc := 11) dX12_states_11 wF_X12_523 (A_106 hw) T18 ?_
  refine mr_iload_n (pc := 14) (z := 3) dX12_states_14 rfl rfl ?_
  refine mr_iload_n (pc := 15) (z := z22) dX12_states_15 rfl rfl ?_
  refine ss_187 (pc := 16) dX12_states_16 (A_187 hw) T18 (rIx (n := 8) (rR (x := 3)) rfl) (rW (c := 0) (d := 46656) h24 rfl) fun μ25 u26 T27 => ?_
  refine mr_iload_n (pc := 17) (z := z22) dX12_states_17 rfl rfl ?_
  refine sv_aload_n (pc := 18) dX12_states_18 rfl rfl ?_
  refine gf_X12_118 (pc := 19) dX12_states_19 wF_X12_514 (A_106 hw) T27 ?_
  refine mr_iload_n (pc := 22) (z := 3) dX12_states_22 rfl rfl ?_
  refine la_184 (pc := 23) dX12_states_23 (A_184 hw) T27 (rIx (n := 7) (rR (x := 3)) rfl) fun z28 q29 h30 => ?_
  refine mr_iconst (pc := 24) (z := 1) dX12_states_24 ?_
  refine mr_iadd (pc := 25) (x := z28) (y := 1) dX12_states_25 ?_
  refine mr_imul (pc := 26) (x := z22) (y := (z28 + 1)) dX12_states_26 ?_
  refine mr_gen (P := fun z => 1 ≤ z ∧ z ≤ 1296) (rMulP h24 (rAdd (e := 1) (f := 6) h30 (rR (x := 1)) rfl) rfl) fun z31 q32 h33 => ?_
  refine mr_istore_n (pc := 27) (lv' := [(1, iv z31), (2, iv 3), (0, .ref 106)]) dX12_states_27 rfl (by decide) rfl ?_
  refine mr_iinc (pc := 28) (lv' := [(2, iv 2), (1, iv z31), (0, .ref 106)]) dX12_states_28 rfl (by decide) rfl ?_
  refine sv_goto (pc := 31) (tgt := 5) dX12_states_31 (by decide) ?_
  refine mr_iload_n (pc := 5) (z := 2) dX12_states_5 rfl rfl ?_
  refine mr_iconst (pc := 6) (z := 1) dX12_states_6 ?_
  refine mr_icmp_lt (pc := 7) (tgt := 34) dX12_states_7 (by decide) (r32 (rR (x := 2)) rfl) (r32 (rR (x := 1)) rfl) (fun h => ((vc_X12_states_r_5 h)).elim) (fun _ => ?_)
  refine sv_aload_n (pc := 10) dX12_states_10 rfl rfl ?_
  refine gf_X12_121 (pc := 11) dX12_states_11 wF_X12_523 (A_106 hw) T27 ?_
  refine mr_iload_n (pc := 14) (z := 2) dX12_states_14 rfl rfl ?_
  refine mr_iload_n (pc := 15) (z := z31) dX12_states_15 rfl rfl ?_
  refine ss_187 (pc := 16) dX12_states_16 (A_187 hw) T27 (rIx (n := 8) (rR (x := 2)) rfl) (rW (c := 0) (d := 46656) h33 rfl) fun μ34 u35 T36 => ?_
  refine mr_iload_n (pc := 17) (z := z31) dX12_states_17 rfl rfl ?_
  refine sv_aload_n (pc := 18) dX12_states_18 rfl rfl ?_
  refine gf_X12_118 (pc := 19) dX12_states_19 wF_X12_514 (A_106 hw) T36 ?_
  refine mr_iload_n (pc := 22) (z := 2) dX12_states_22 rfl rfl ?_
  refine la_184 (pc := 23) dX12_states_23 (A_184 hw) T36 (rIx (n := 7) (rR (x := 2)) rfl) fun z37 q38 h39 => ?_
  refine mr_iconst (pc := 24) (z := 1) dX12_states_24 ?_
  refine mr_iadd (pc := 25) (x := z37) (y := 1) dX12_states_25 ?_
  refine mr_imul (pc := 26) (x := z31) (y := (z37 + 1)) dX12_states_26 ?_
  refine mr_gen (P := fun z => 1 ≤ z ∧ z ≤ 7776) (rMulP h33 (rAdd (e := 1) (f := 6) h39 (rR (x := 1)) rfl) rfl) fun z40 q41 h42 => ?_
  refine mr_istore_n (pc := 27) (lv' := [(1, iv z40), (2, iv 2), (0, .ref 106)]) dX12_states_27 rfl (by decide) rfl ?_
  refine mr_iinc (pc := 28) (lv' := [(2, iv 1), (1, iv z40), (0, .ref 106)]) dX12_states_28 rfl (by decide) rfl ?_
  refine sv_goto (pc := 31) (tgt := 5) dX12_states_31 (by decide) ?_
  refine mr_iload_n (pc := 5) (z := 1) dX12_states_5 rfl rfl ?_
  refine mr_iconst (pc := 6) (z := 1) dX12_states_6 ?_
  refine mr_icmp_lt (pc := 7) (tgt := 34) dX12_states_7 (by decide) (r32 (rR (x := 1)) rfl) (r32 (rR (x := 1)) rfl) (fun h => ((vc_X12_states_r_6 h)).elim) (fun _ => ?_)
  refine sv_aload_n (pc := 10) dX12_states_10 rfl rfl ?_
  refine gf_X12_121 (pc := 11) dX12_states_11 wF_X12_523 (A_106 hw) T36 ?_
  refine mr_iload_n (pc := 14) (z := 1) dX12_states_14 rfl rfl ?_
  refine mr_iload_n (pc := 15) (z := z40) dX12_states_15 rfl rfl ?_
  refine ss_187 (pc := 16) dX12_states_16 (A_187 hw) T36 (rIx (n := 8) (rR (x := 1)) rfl) (rW (c := 0) (d := 46656) h42 rfl) fun μ43 u44 T45 => ?_
  refine mr_iload_n (pc := 17) (z := z40) dX12_states_17 rfl rfl ?_
  refine sv_aload_n (pc := 18) dX12_states_18 rfl rfl ?_
  refine gf_X12_118 (pc := 19) dX12_states_19 wF_X12_514 (A_106 hw) T45 ?_
  refine mr_iload_n (pc := 22) (z := 1) dX12_states_22 rfl rfl ?_
  refine la_184 (pc := 23) dX12_states_23 (A_184 hw) T45 (rIx (n := 7) (rR (x := 1)) rfl) fun z46 q47 h48 => ?_
  refine mr_iconst (pc := 24) (z := 1) dX12_states_24 ?_
  refine mr_iadd (pc := 25) (x := z46) (y := 1) dX12_states_25 ?_
  refine mr_imul (pc := 26) (x := z40) (y := (z46 + 1)) dX12_states_26 ?_
  refine mr_gen (P := fun z => 1 ≤ z ∧ z ≤ 46656) (rMulP h42 (rAdd (e := 1) (f := 6) h48 (rR (x := 1)) rfl) rfl) fun z49 q50 h51 => ?_
  refine mr_istore_n (pc := 27) (lv' := [(1, iv z49), (2, iv 1), (0, .ref 106)]) dX12_states_27 rfl (by decide) rfl ?_
  refine mr_iinc (pc := 28) (lv' := [(2, iv 0), (1, iv z49), (0, .ref 106)]) dX12_states_28 rfl (by decide) rfl ?_
  refine sv_goto (pc := 31) (tgt := 5) dX12_states_31 (by decide) ?_
  refine mr_iload_n (pc := 5) (z := 0) dX12_states_5 rfl rfl ?_
  refine mr_iconst (pc := 6) (z := 1) dX12_states_6 ?_
  refine mr_icmp_lt (pc := 7) (tgt := 34) dX12_states_7 (by decide) (r32 (rR (x := 0)) rfl) (r32 (rR (x := 1)) rfl) (fun _ => ?_) (fun h => ((vc_X12_states_r_7 h)).elim)
  refine mr_iload_n (pc := 34) (z := z49) dX12_states_34 rfl rfl ?_
  exact mr_iret dX12_states_35 rfl (le_t rfl) (le_t rfl) T45 (mF.up (mF.up (mF.up (mF.up (mF.up (mF.up mF.refl (A_187 hw) u2 rfl) (A_187 hw) u8 rfl) (A_187 hw) u17 rfl) (A_187 hw) u26 rfl) (A_187 hw) u35 rfl) (A_187 hw) u44 rfl) ⟨z40, z31, z22, z13, (1 * (z4 + 1)), 1, u44.1, (u44.f (Or.inr vc_X12_states_r_8) u35.1), (u44.f (Or.inr vc_X12_states_r_10) (u35.f (Or.inr vc_X12_states_r_9) u26.1)), (u44.f (Or.inr vc_X12_states_r_13) (u35.f (Or.inr vc_X12_states_r_12) (u26.f (Or.inr vc_X12_states_r_11) u17.1))), (u44.f (Or.inr vc_X12_states_r_17) (u35.f (Or.inr vc_X12_states_r_16) (u26.f (Or.inr vc_X12_states_r_15) (u17.f (Or.inr vc_X12_states_r_14) u8.1)))), (u44.f (Or.inr vc_X12_states_r_22) (u35.f (Or.inr vc_X12_states_r_21) (u26.f (Or.inr vc_X12_states_r_20) (u17.f (Or.inr vc_X12_states_r_19) (u8.f (Or.inr vc_X12_states_r_18) u2.1))))), h51, (vc_X12_states_r_23 h42), (vc_X12_states_r_24 h33), (vc_X12_states_r_25 h24), (vc_X12_states_r_26 h15), (vc_X12_states_r_27 h6), vc_X12_states_r_28, (radix.mk q47 (u44.f (Or.inl (mAt.ne (A_187 hw) (A_184 hw) rfl)) q38) (u44.f (Or.inl (mAt.ne (A_187 hw) (A_184 hw) rfl)) (u35.f (Or.inl (mAt.ne (A_187 hw) (A_184 hw) rfl)) q29)) (u44.f (Or.inl (mAt.ne (A_187 hw) (A_184 hw) rfl)) (u35.f (Or.inl (mAt.ne (A_187 hw) (A_184 hw) rfl)) (u26.f (Or.inl (mAt.ne (A_187 hw) (A_184 hw) rfl)) q20))) (u44.f (Or.inl (mAt.ne (A_187 hw) (A_184 hw) rfl)) (u35.f (Or.inl (mAt.ne (A_187 hw) (A_184 hw) rfl)) (u26.f (Or.inl (mAt.ne (A_187 hw) (A_184 hw) rfl)) (u17.f (Or.inl (mAt.ne (A_187 hw) (A_184 hw) rfl)) q11)))) (u44.f (Or.inl (mAt.ne (A_187 hw) (A_184 hw) rfl)) (u35.f (Or.inl (mAt.ne (A_187 hw) (A_184 hw) rfl)) (u26.f (Or.inl (mAt.ne (A_187 hw) (A_184 hw) rfl)) (u17.f (Or.inl (mAt.ne (A_187 hw) (A_184 hw) rfl)) (u8.f (Or.inl (mAt.ne (A_187 hw) (A_184 hw) rfl)) q5))))) u44.1 (u44.f (Or.inr vc_X12_states_r_8) u35.1) (u44.f (Or.inr vc_X12_states_r_10) (u35.f (Or.inr vc_X12_states_r_9) u26.1)) (u44.f (Or.inr vc_X12_states_r_13) (u35.f (Or.inr vc_X12_states_r_12) (u26.f (Or.inr vc_X12_states_r_11) u17.1))) (u44.f (Or.inr vc_X12_states_r_17) (u35.f (Or.inr vc_X12_states_r_16) (u26.f (Or.inr vc_X12_states_r_15) (u17.f (Or.inr vc_X12_states_r_14) u8.1)))) (u44.f (Or.inr vc_X12_states_r_22) (u35.f (Or.inr vc_X12_states_r_21) (u26.f (Or.inr vc_X12_states_r_20) (u17.f (Or.inr vc_X12_states_r_19) (u8.f (Or.inr vc_X12_states_r_18) u2.1))))) (vc_X12_states_r_29 h42) (vc_X12_states_r_30 h33) (vc_X12_states_r_31 h24) (vc_X12_states_r_32 h15) (vc_X12_states_r_33 h6) vc_X12_states_r_34 rfl q14.symm q23.symm q32.symm q41.symm q50.symm), trivial⟩
theorem vc_X12_open_r_1 {f_w1 : Int} (h0 : 1 ≤ f_w1) (h1 : 0 ≤ f_w1 ∧ f_w1 ≤ 46656) : 1 ≤ f_w1 ∧ f_w1 ≤ 46656 := by omega
theorem vc_X12_open_r_2 {f_w2 : Int} (h0 : 1 ≤ f_w2) (h1 : 0 ≤ f_w2 ∧ f_w2 ≤ 46656) : 1 ≤ f_w2 ∧ f_w2 ≤ 46656 := by omega
theorem vc_X12_open_r_3 {f_w3 : Int} (h0 : 1 ≤ f_w3) (h1 : 0 ≤ f_w3 ∧ f_w3 ≤ 46656) : 1 ≤ f_w3 ∧ f_w3 ≤ 46656 := by omega
theorem vc_X12_open_r_4 {f_w4 : Int} (h0 : 1 ≤ f_w4) (h1 : 0 ≤ f_w4 ∧ f_w4 ≤ 46656) : 1 ≤ f_w4 ∧ f_w4 ≤ 46656 := by omega
theorem vc_X12_open_r_5 {f_w5 : Int} (h0 : 1 ≤ f_w5) (h1 : 0 ≤ f_w5 ∧ f_w5 ≤ 46656) : 1 ≤ f_w5 ∧ f_w5 ≤ 46656 := by omega
theorem vc_X12_open_r_6 {f_w6 : Int} (h0 : 1 ≤ f_w6) (h1 : 0 ≤ f_w6 ∧ f_w6 ≤ 46656) : 1 ≤ f_w6 ∧ f_w6 ≤ 46656 := by omega
theorem vc_X12_open_r_7 (h0 : (6 : Int) < (1 : Int)) : False := by omega
theorem vc_X12_open_r_8 {f_w1 : Int} (h0 : 1 ≤ f_w1) (h1 : 1 ≤ f_w1 ∧ f_w1 ≤ 46656) : 0 < f_w1 ∧ f_w1 ≤ 2147483647 := by omega
theorem vc_X12_open_r_9 {f_v1 : Int} (h0 : 0 ≤ f_v1 ∧ f_v1 ≤ 5) : 0 < (f_v1 + 1) ∧ (f_v1 + 1) ≤ 2147483647 := by omega
theorem vc_X12_open_r_10 (h0 : (6 : Int) < (2 : Int)) : False := by omega
theorem vc_X12_open_r_11 {f_w2 : Int} (h0 : 1 ≤ f_w2) (h1 : 1 ≤ f_w2 ∧ f_w2 ≤ 46656) : 0 < f_w2 ∧ f_w2 ≤ 2147483647 := by omega
theorem vc_X12_open_r_12 {f_v2 : Int} (h0 : 0 ≤ f_v2 ∧ f_v2 ≤ 5) : 0 < (f_v2 + 1) ∧ (f_v2 + 1) ≤ 2147483647 := by omega
theorem vc_X12_open_r_13 (h0 : (6 : Int) < (3 : Int)) : False := by omega
theorem vc_X12_open_r_14 {f_w3 : Int} (h0 : 1 ≤ f_w3) (h1 : 1 ≤ f_w3 ∧ f_w3 ≤ 46656) : 0 < f_w3 ∧ f_w3 ≤ 2147483647 := by omega
theorem vc_X12_open_r_15 {f_v3 : Int} (h0 : 0 ≤ f_v3 ∧ f_v3 ≤ 5) : 0 < (f_v3 + 1) ∧ (f_v3 + 1) ≤ 2147483647 := by omega
theorem vc_X12_open_r_16 (h0 : (6 : Int) < (4 : Int)) : False := by omega
theorem vc_X12_open_r_17 {f_w4 : Int} (h0 : 1 ≤ f_w4) (h1 : 1 ≤ f_w4 ∧ f_w4 ≤ 46656) : 0 < f_w4 ∧ f_w4 ≤ 2147483647 := by omega
theorem vc_X12_open_r_18 {f_v4 : Int} (h0 : 0 ≤ f_v4 ∧ f_v4 ≤ 5) : 0 < (f_v4 + 1) ∧ (f_v4 + 1) ≤ 2147483647 := by omega
theorem vc_X12_open_r_19 (h0 : (6 : Int) < (5 : Int)) : False := by omega
theorem vc_X12_open_r_20 {f_w5 : Int} (h0 : 1 ≤ f_w5) (h1 : 1 ≤ f_w5 ∧ f_w5 ≤ 46656) : 0 < f_w5 ∧ f_w5 ≤ 2147483647 := by omega
theorem vc_X12_open_r_21 {f_v5 : Int} (h0 : 0 ≤ f_v5 ∧ f_v5 ≤ 5) : 0 < (f_v5 + 1) ∧ (f_v5 + 1) ≤ 2147483647 := by omega
theorem vc_X12_open_r_22 (h0 : (6 : Int) < (6 : Int)) : False := by omega
theorem vc_X12_open_r_23 {f_w6 : Int} (h0 : 1 ≤ f_w6) (h1 : 1 ≤ f_w6 ∧ f_w6 ≤ 46656) : 0 < f_w6 ∧ f_w6 ≤ 2147483647 := by omega
theorem vc_X12_open_r_24 {f_v6 : Int} (h0 : 0 ≤ f_v6 ∧ f_v6 ≤ 5) : 0 < (f_v6 + 1) ∧ (f_v6 + 1) ≤ 2147483647 := by omega
theorem vc_X12_open_r_25 (h0 : (7 : Int) ≤ (6 : Int)) : False := by omega
theorem vc_X12_open_r_26  : (1 : Int).toNat ≠ (2 : Int).toNat := by omega
theorem vc_X12_open_r_27  : (1 : Int).toNat ≠ (3 : Int).toNat := by omega
theorem vc_X12_open_r_28  : (1 : Int).toNat ≠ (4 : Int).toNat := by omega
theorem vc_X12_open_r_29  : (1 : Int).toNat ≠ (5 : Int).toNat := by omega
theorem vc_X12_open_r_30  : (1 : Int).toNat ≠ (6 : Int).toNat := by omega
theorem vc_X12_open_r_31  : (2 : Int).toNat ≠ (3 : Int).toNat := by omega
theorem vc_X12_open_r_32  : (2 : Int).toNat ≠ (4 : Int).toNat := by omega
theorem vc_X12_open_r_33  : (2 : Int).toNat ≠ (5 : Int).toNat := by omega
theorem vc_X12_open_r_34  : (2 : Int).toNat ≠ (6 : Int).toNat := by omega
theorem vc_X12_open_r_35  : (3 : Int).toNat ≠ (4 : Int).toNat := by omega
theorem vc_X12_open_r_36  : (3 : Int).toNat ≠ (5 : Int).toNat := by omega
theorem vc_X12_open_r_37  : (3 : Int).toNat ≠ (6 : Int).toNat := by omega
theorem vc_X12_open_r_38  : (4 : Int).toNat ≠ (5 : Int).toNat := by omega
theorem vc_X12_open_r_39  : (4 : Int).toNat ≠ (6 : Int).toNat := by omega
theorem vc_X12_open_r_40  : (5 : Int).toNat ≠ (6 : Int).toNat := by omega
theorem vc_X12_open_r_41 {f_v1 z172 : Int} (h0 : z172 < (f_v1 + 1)) (h1 : 0 ≤ f_v1 ∧ f_v1 ≤ 5) (h2 : 0 ≤ z172 ∧ z172 ≤ 5) : z172 ≤ f_v1 := by omega
theorem vc_X12_open_r_42 {f_v2 z181 : Int} (h0 : z181 < (f_v2 + 1)) (h1 : 0 ≤ f_v2 ∧ f_v2 ≤ 5) (h2 : 0 ≤ z181 ∧ z181 ≤ 5) : z181 ≤ f_v2 := by omega
theorem vc_X12_open_r_43 {f_v3 z190 : Int} (h0 : z190 < (f_v3 + 1)) (h1 : 0 ≤ f_v3 ∧ f_v3 ≤ 5) (h2 : 0 ≤ z190 ∧ z190 ≤ 5) : z190 ≤ f_v3 := by omega
theorem vc_X12_open_r_44 {f_v4 z199 : Int} (h0 : z199 < (f_v4 + 1)) (h1 : 0 ≤ f_v4 ∧ f_v4 ≤ 5) (h2 : 0 ≤ z199 ∧ z199 ≤ 5) : z199 ≤ f_v4 := by omega
theorem vc_X12_open_r_45 {f_v5 z208 : Int} (h0 : z208 < (f_v5 + 1)) (h1 : 0 ≤ f_v5 ∧ f_v5 ≤ 5) (h2 : 0 ≤ z208 ∧ z208 ≤ 5) : z208 ≤ f_v5 := by omega
theorem vc_X12_open_r_46 {f_v6 z217 : Int} (h0 : z217 < (f_v6 + 1)) (h1 : 0 ≤ f_v6 ∧ f_v6 ≤ 5) (h2 : 0 ≤ z217 ∧ z217 ≤ 5) : z217 ≤ f_v6 := by omega
set_option maxRecDepth 4000 in
set_option maxHeartbeats 4000000 in
theorem c_X12_open_r {l : Launch} {D : va_G} {c : Nat → ClassId} {H0 : Heap} {sa : Nat × Nat × (Nat → Int32)} {w : mW} {μ : mM} (hw : mWF w) (hT : mT w μ) {p1 : Int} (hp1 : 0 ≤ p1 ∧ p1 ≤ 46655) {f_w1 : Int} (q_f_w1 : μ 187 ((1 : Int).toNat) = f_w1) {f_w2 : Int} (q_f_w2 : μ 187 ((2 : Int).toNat) = f_w2) {f_w3 : Int} (q_f_w3 : μ 187 ((3 : Int).toNat) = f_w3) {f_w4 : Int} (q_f_w4 : μ 187 ((4 : Int).toNat) = f_w4) {f_w5 : Int} (q_f_w5 : μ 187 ((5 : Int).toNat) = f_w5) {f_w6 : Int} (q_f_w6 : μ 187 ((6 : Int).toNat) = f_w6) {f_v1 : Int} (q_f_v1 : μ 184 ((1 : Int).toNat) = f_v1) {f_v2 : Int} (q_f_v2 : μ 184 ((2 : Int).toNat) = f_v2) {f_v3 : Int} (q_f_v3 : μ 184 ((3 : Int).toNat) = f_v3) {f_v4 : Int} (q_f_v4 : μ 184 ((4 : Int).toNat) = f_v4) {f_v5 : Int} (q_f_v5 : μ 184 ((5 : Int).toNat) = f_v5) {f_v6 : Int} (q_f_v6 : μ 184 ((6 : Int).toNat) = f_v6) (hq0 : 1 ≤ f_w1) (hq1 : 1 ≤ f_w2) (hq2 : 1 ≤ f_w3) (hq3 : 1 ≤ f_w4) (hq4 : 1 ≤ f_w5) (hq5 : 1 ≤ f_w6) : sC (gG l D c H0 sa) mX12_open 1 0 0 [.ref 106, iv p1] (mk w μ) (qV w [188999] μ (fun μ1 => ∃ o_h1 o_h2 o_h3 o_h4 o_h5 o_h6 : Int, μ1 188 ((1 : Int).toNat) = o_h1 ∧ μ1 188 ((2 : Int).toNat) = o_h2 ∧ μ1 188 ((3 : Int).toNat) = o_h3 ∧ μ1 188 ((4 : Int).toNat) = o_h4 ∧ μ1 188 ((5 : Int).toNat) = o_h5 ∧ μ1 188 ((6 : Int).toNat) = o_h6 ∧ (o_h1 ≤ f_v1) ∧ (o_h2 ≤ f_v2) ∧ (o_h3 ≤ f_v3) ∧ (o_h4 ≤ f_v4) ∧ (o_h5 ≤ f_v5) ∧ (o_h6 ≤ f_v6) ∧ (digs μ1 188 187 184 p1) ∧ True)) := by
  refine sC.of rfl (by decide) (le_t rfl) ?_
  have ht_f_w1 : (0 ≤ f_w1 ∧ f_w1 ≤ 46656) := by rw [← q_f_w1]; exact hT 187 187 (A_187 hw) ((1 : Int).toNat)
  have ht_f_w2 : (0 ≤ f_w2 ∧ f_w2 ≤ 46656) := by rw [← q_f_w2]; exact hT 187 187 (A_187 hw) ((2 : Int).toNat)
  have ht_f_w3 : (0 ≤ f_w3 ∧ f_w3 ≤ 46656) := by rw [← q_f_w3]; exact hT 187 187 (A_187 hw) ((3 : Int).toNat)
  have ht_f_w4 : (0 ≤ f_w4 ∧ f_w4 ≤ 46656) := by rw [← q_f_w4]; exact hT 187 187 (A_187 hw) ((4 : Int).toNat)
  have ht_f_w5 : (0 ≤ f_w5 ∧ f_w5 ≤ 46656) := by rw [← q_f_w5]; exact hT 187 187 (A_187 hw) ((5 : Int).toNat)
  have ht_f_w6 : (0 ≤ f_w6 ∧ f_w6 ≤ 46656) := by rw [← q_f_w6]; exact hT 187 187 (A_187 hw) ((6 : Int).toNat)
  have ht_f_v1 : (0 ≤ f_v1 ∧ f_v1 ≤ 5) := by rw [← q_f_v1]; exact hT 184 184 (A_184 hw) ((1 : Int).toNat)
  have ht_f_v2 : (0 ≤ f_v2 ∧ f_v2 ≤ 5) := by rw [← q_f_v2]; exact hT 184 184 (A_184 hw) ((2 : Int).toNat)
  have ht_f_v3 : (0 ≤ f_v3 ∧ f_v3 ≤ 5) := by rw [← q_f_v3]; exact hT 184 184 (A_184 hw) ((3 : Int).toNat)
  have ht_f_v4 : (0 ≤ f_v4 ∧ f_v4 ≤ 5) := by rw [← q_f_v4]; exact hT 184 184 (A_184 hw) ((4 : Int).toNat)
  have ht_f_v5 : (0 ≤ f_v5 ∧ f_v5 ≤ 5) := by rw [← q_f_v5]; exact hT 184 184 (A_184 hw) ((5 : Int).toNat)
  have ht_f_v6 : (0 ≤ f_v6 ∧ f_v6 ≤ 5) := by rw [← q_f_v6]; exact hT 184 184 (A_184 hw) ((6 : Int).toNat)
  have h1 : 1 ≤ f_w1 ∧ f_w1 ≤ 46656 := (vc_X12_open_r_1 hq0 ht_f_w1)
  have h2 : 1 ≤ f_w2 ∧ f_w2 ≤ 46656 := (vc_X12_open_r_2 hq1 ht_f_w2)
  have h3 : 1 ≤ f_w3 ∧ f_w3 ≤ 46656 := (vc_X12_open_r_3 hq2 ht_f_w3)
  have h4 : 1 ≤ f_w4 ∧ f_w4 ≤ 46656 := (vc_X12_open_r_4 hq3 ht_f_w4)
  have h5 : 1 ≤ f_w5 ∧ f_w5 ≤ 46656 := (vc_X12_open_r_5 hq4 ht_f_w5)
  have h6 : 1 ≤ f_w6 ∧ f_w6 ≤ 46656 := (vc_X12_open_r_6 hq5 ht_f_w6)
  refine mr_lvE (lv' := [(0, .ref 106), (1, iv p1)]) rfl ?_
  refine mr_iconst (pc := 0) (z := 1) dX12_open_0 ?_
  refine mr_istore_n (pc := 1) (lv' := [(2, iv 1), (0, .ref 106), (1, iv p1)]) dX12_open_1 rfl (by decide) rfl ?_
  refine mr_iload_n (pc := 2) (z := 1) dX12_open_2 rfl rfl ?_
  refine mr_bipush (pc := 3) (z := 6) dX12_open_3 (by decide) ?_
  refine mr_icmp_gt (pc := 5) (tgt := 37) dX12_open_5 (by decide) (r32 (rR (x := 1)) rfl) (r32 (rR (x := 6)) rfl) (fun h => ((vc_X12_open_r_7 h)).elim) (fun _ => ?_)
  refine sv_aload_n (pc := 8) dX12_open_8 rfl rfl ?_
  refine gf_X12_122 (pc := 9) dX12_open_9 wF_X12_526 (A_106 hw) hT ?_
  refine mr_iload_n (pc := 12) (z := 1) dX12_open_12 rfl rfl ?_
  refine mr_iload_n (pc := 13) (z := p1) dX12_open_13 rfl rfl ?_
  refine sv_aload_n (pc := 14) dX12_open_14 rfl rfl ?_
  refine gf_X12_121 (pc := 15) dX12_open_15 wF_X12_523 (A_106 hw) hT ?_
  refine mr_iload_n (pc := 18) (z := 1) dX12_open_18 rfl rfl ?_
  refine lk_187 (pc := 19) dX12_open_19 (A_187 hw) (rIx (n := 8) (rR (x := 1)) rfl) q_f_w1 ?_
  refine mr_idiv (pc := 20) (x := p1) (y := f_w1) dX12_open_20 (rW (c := 0) (d := 2147483647) hp1 rfl) (vc_X12_open_r_8 hq0 h1) ?_
  refine mr_gen (P := fun z => 0 ≤ z ∧ z ≤ 46655) (rDivV hp1 (vc_X12_open_r_8 hq0 h1) rfl) fun z169 q170 h171 => ?_
  refine sv_aload_n (pc := 21) dX12_open_21 rfl rfl ?_
  refine gf_X12_118 (pc := 22) dX12_open_22 wF_X12_514 (A_106 hw) hT ?_
  refine mr_iload_n (pc := 25) (z := 1) dX12_open_25 rfl rfl ?_
  refine lk_184 (pc := 26) dX12_open_26 (A_184 hw) (rIx (n := 7) (rR (x := 1)) rfl) q_f_v1 ?_
  refine mr_iconst (pc := 27) (z := 1) dX12_open_27 ?_
  refine mr_iadd (pc := 28) (x := f_v1) (y := 1) dX12_open_28 ?_
  refine mr_irem (pc := 29) (x := z169) (y := (f_v1 + 1)) dX12_open_29 (rW (c := 0) (d := 2147483647) h171 rfl) (vc_X12_open_r_9 ht_f_v1) ?_
  refine mr_gen (P := fun z => 0 ≤ z ∧ z ≤ 5) (rModV (rAdd (e := 1) (f := 6) ht_f_v1 (rR (x := 1)) rfl) (vc_X12_open_r_9 ht_f_v1) rfl) fun z172 q173 h174 => ?_
  refine ss_188 (pc := 30) dX12_open_30 (A_188 hw) hT (rIx (n := 7) (rR (x := 1)) rfl) h174 fun μ175 u176 T177 => ?_
  refine mr_iinc (pc := 31) (lv' := [(2, iv 2), (0, .ref 106), (1, iv p1)]) dX12_open_31 rfl (by decide) rfl ?_
  refine sv_goto (pc := 34) (tgt := 2) dX12_open_34 (by decide) ?_
  refine mr_iload_n (pc := 2) (z := 2) dX12_open_2 rfl rfl ?_
  refine mr_bipush (pc := 3) (z := 6) dX12_open_3 (by decide) ?_
  refine mr_icmp_gt (pc := 5) (tgt := 37) dX12_open_5 (by decide) (r32 (rR (x := 2)) rfl) (r32 (rR (x := 6)) rfl) (fun h => ((vc_X12_open_r_10 h)).elim) (fun _ => ?_)
  refine sv_aload_n (pc := 8) dX12_open_8 rfl rfl ?_
  refine gf_X12_122 (pc := 9) dX12_open_9 wF_X12_526 (A_106 hw) T177 ?_
  refine mr_iload_n (pc := 12) (z := 2) dX12_open_12 rfl rfl ?_
  refine mr_iload_n (pc := 13) (z := p1) dX12_open_13 rfl rfl ?_
  refine sv_aload_n (pc := 14) dX12_open_14 rfl rfl ?_
  refine gf_X12_121 (pc := 15) dX12_open_15 wF_X12_523 (A_106 hw) T177 ?_
  refine mr_iload_n (pc := 18) (z := 2) dX12_open_18 rfl rfl ?_
  refine lk_187 (pc := 19) dX12_open_19 (A_187 hw) (rIx (n := 8) (rR (x := 2)) rfl) (u176.f (Or.inl (mAt.ne (A_188 hw) (A_187 hw) rfl)) q_f_w2) ?_
  refine mr_idiv (pc := 20) (x := p1) (y := f_w2) dX12_open_20 (rW (c := 0) (d := 2147483647) hp1 rfl) (vc_X12_open_r_11 hq1 h2) ?_
  refine mr_gen (P := fun z => 0 ≤ z ∧ z ≤ 46655) (rDivV hp1 (vc_X12_open_r_11 hq1 h2) rfl) fun z178 q179 h180 => ?_
  refine sv_aload_n (pc := 21) dX12_open_21 rfl rfl ?_
  refine gf_X12_118 (pc := 22) dX12_open_22 wF_X12_514 (A_106 hw) T177 ?_
  refine mr_iload_n (pc := 25) (z := 2) dX12_open_25 rfl rfl ?_
  refine lk_184 (pc := 26) dX12_open_26 (A_184 hw) (rIx (n := 7) (rR (x := 2)) rfl) (u176.f (Or.inl (mAt.ne (A_188 hw) (A_184 hw) rfl)) q_f_v2) ?_
  refine mr_iconst (pc := 27) (z := 1) dX12_open_27 ?_
  refine mr_iadd (pc := 28) (x := f_v2) (y := 1) dX12_open_28 ?_
  refine mr_irem (pc := 29) (x := z178) (y := (f_v2 + 1)) dX12_open_29 (rW (c := 0) (d := 2147483647) h180 rfl) (vc_X12_open_r_12 ht_f_v2) ?_
  refine mr_gen (P := fun z => 0 ≤ z ∧ z ≤ 5) (rModV (rAdd (e := 1) (f := 6) ht_f_v2 (rR (x := 1)) rfl) (vc_X12_open_r_12 ht_f_v2) rfl) fun z181 q182 h183 => ?_
  refine ss_188 (pc := 30) dX12_open_30 (A_188 hw) T177 (rIx (n := 7) (rR (x := 2)) rfl) h183 fun μ184 u185 T186 => ?_
  refine mr_iinc (pc := 31) (lv' := [(2, iv 3), (0, .ref 106), (1, iv p1)]) dX12_open_31 rfl (by decide) rfl ?_
  refine sv_goto (pc := 34) (tgt := 2) dX12_open_34 (by decide) ?_
  refine mr_iload_n (pc := 2) (z := 3) dX12_open_2 rfl rfl ?_
  refine mr_bipush (pc := 3) (z := 6) dX12_open_3 (by decide) ?_
  refine mr_icmp_gt (pc := 5) (tgt := 37) dX12_open_5 (by decide) (r32 (rR (x := 3)) rfl) (r32 (rR (x := 6)) rfl) (fun h => ((vc_X12_open_r_13 h)).elim) (fun _ => ?_)
  refine sv_aload_n (pc := 8) dX12_open_8 rfl rfl ?_
  refine gf_X12_122 (pc := 9) dX12_open_9 wF_X12_526 (A_106 hw) T186 ?_
  refine mr_iload_n (pc := 12) (z := 3) dX12_open_12 rfl rfl ?_
  refine mr_iload_n (pc := 13) (z := p1) dX12_open_13 rfl rfl ?_
  refine sv_aload_n (pc := 14) dX12_open_14 rfl rfl ?_
  refine gf_X12_121 (pc := 15) dX12_open_15 wF_X12_523 (A_106 hw) T186 ?_
  refine mr_iload_n (pc := 18) (z := 3) dX12_open_18 rfl rfl ?_
  refine lk_187 (pc := 19) dX12_open_19 (A_187 hw) (rIx (n := 8) (rR (x := 3)) rfl) (u185.f (Or.inl (mAt.ne (A_188 hw) (A_187 hw) rfl)) (u176.f (Or.inl (mAt.ne (A_188 hw) (A_187 hw) rfl)) q_f_w3)) ?_
  refine mr_idiv (pc := 20) (x := p1) (y := f_w3) dX12_open_20 (rW (c := 0) (d := 2147483647) hp1 rfl) (vc_X12_open_r_14 hq2 h3) ?_
  refine mr_gen (P := fun z => 0 ≤ z ∧ z ≤ 46655) (rDivV hp1 (vc_X12_open_r_14 hq2 h3) rfl) fun z187 q188 h189 => ?_
  refine sv_aload_n (pc := 21) dX12_open_21 rfl rfl ?_
  refine gf_X12_118 (pc := 22) dX12_open_22 wF_X12_514 (A_106 hw) T186 ?_
  refine mr_iload_n (pc := 25) (z := 3) dX12_open_25 rfl rfl ?_
  refine lk_184 (pc := 26) dX12_open_26 (A_184 hw) (rIx (n := 7) (rR (x := 3)) rfl) (u185.f (Or.inl (mAt.ne (A_188 hw) (A_184 hw) rfl)) (u176.f (Or.inl (mAt.ne (A_188 hw) (A_184 hw) rfl)) q_f_v3)) ?_
  refine mr_iconst (pc := 27) (z := 1) dX12_open_27 ?_
  refine mr_iadd (pc := 28) (x := f_v3) (y := 1) dX12_open_28 ?_
  refine mr_irem (pc := 29) (x := z187) (y := (f_v3 + 1)) dX12_open_29 (rW (c := 0) (d := 2147483647) h189 rfl) (vc_X12_open_r_15 ht_f_v3) ?_
  refine mr_gen (P := fun z => 0 ≤ z ∧ z ≤ 5) (rModV (rAdd (e := 1) (f := 6) ht_f_v3 (rR (x := 1)) rfl) (vc_X12_open_r_15 ht_f_v3) rfl) fun z190 q191 h192 => ?_
  refine ss_188 (pc := 30) dX12_open_30 (A_188 hw) T186 (rIx (n := 7) (rR (x := 3)) rfl) h192 fun μ193 u194 T195 => ?_
  refine mr_iinc (pc := 31) (lv' := [(2, iv 4), (0, .ref 106), (1, iv p1)]) dX12_open_31 rfl (by decide) rfl ?_
  refine sv_goto (pc := 34) (tgt := 2) dX12_open_34 (by decide) ?_
  refine mr_iload_n (pc := 2) (z := 4) dX12_open_2 rfl rfl ?_
  refine mr_bipush (pc := 3) (z := 6) dX12_open_3 (by decide) ?_
  refine mr_icmp_gt (pc := 5) (tgt := 37) dX12_open_5 (by decide) (r32 (rR (x := 4)) rfl) (r32 (rR (x := 6)) rfl) (fun h => ((vc_X12_open_r_16 h)).elim) (fun _ => ?_)
  refine sv_aload_n (pc := 8) dX12_open_8 rfl rfl ?_
  refine gf_X12_122 (pc := 9) dX12_open_9 wF_X12_526 (A_106 hw) T195 ?_
  refine mr_iload_n (pc := 12) (z := 4) dX12_open_12 rfl rfl ?_
  refine mr_iload_n (pc := 13) (z := p1) dX12_open_13 rfl rfl ?_
  refine sv_aload_n (pc := 14) dX12_open_14 rfl rfl ?_
  refine gf_X12_121 (pc := 15) dX12_open_15 wF_X12_523 (A_106 hw) T195 ?_
  refine mr_iload_n (pc := 18) (z := 4) dX12_open_18 rfl rfl ?_
  refine lk_187 (pc := 19) dX12_open_19 (A_187 hw) (rIx (n := 8) (rR (x := 4)) rfl) (u194.f (Or.inl (mAt.ne (A_188 hw) (A_187 hw) rfl)) (u185.f (Or.inl (mAt.ne (A_188 hw) (A_187 hw) rfl)) (u176.f (Or.inl (mAt.ne (A_188 hw) (A_187 hw) rfl)) q_f_w4))) ?_
  refine mr_idiv (pc := 20) (x := p1) (y := f_w4) dX12_open_20 (rW (c := 0) (d := 2147483647) hp1 rfl) (vc_X12_open_r_17 hq3 h4) ?_
  refine mr_gen (P := fun z => 0 ≤ z ∧ z ≤ 46655) (rDivV hp1 (vc_X12_open_r_17 hq3 h4) rfl) fun z196 q197 h198 => ?_
  refine sv_aload_n (pc := 21) dX12_open_21 rfl rfl ?_
  refine gf_X12_118 (pc := 22) dX12_open_22 wF_X12_514 (A_106 hw) T195 ?_
  refine mr_iload_n (pc := 25) (z := 4) dX12_open_25 rfl rfl ?_
  refine lk_184 (pc := 26) dX12_open_26 (A_184 hw) (rIx (n := 7) (rR (x := 4)) rfl) (u194.f (Or.inl (mAt.ne (A_188 hw) (A_184 hw) rfl)) (u185.f (Or.inl (mAt.ne (A_188 hw) (A_184 hw) rfl)) (u176.f (Or.inl (mAt.ne (A_188 hw) (A_184 hw) rfl)) q_f_v4))) ?_
  refine mr_iconst (pc := 27) (z := 1) dX12_open_27 ?_
  refine mr_iadd (pc := 28) (x := f_v4) (y := 1) dX12_open_28 ?_
  refine mr_irem (pc := 29) (x := z196) (y := (f_v4 + 1)) dX12_open_29 (rW (c := 0) (d := 2147483647) h198 rfl) (vc_X12_open_r_18 ht_f_v4) ?_
  refine mr_gen (P := fun z => 0 ≤ z ∧ z ≤ 5) (rModV (rAdd (e := 1) (f := 6) ht_f_v4 (rR (x := 1)) rfl) (vc_X12_open_r_18 ht_f_v4) rfl) fun z199 q200 h201 => ?_
  refine ss_188 (pc := 30) dX12_open_30 (A_188 hw) T195 (rIx (n := 7) (rR (x := 4)) rfl) h201 fun μ202 u203 T204 => ?_
  refine mr_iinc (pc := 31) (lv' := [(2, iv 5), (0, .ref 106), (1, iv p1)]) dX12_open_31 rfl (by decide) rfl ?_
  refine sv_goto (pc := 34) (tgt := 2) dX12_open_34 (by decide) ?_
  refine mr_iload_n (pc := 2) (z := 5) dX12_open_2 rfl rfl ?_
  refine mr_bipush (pc := 3) (z := 6) dX12_open_3 (by decide) ?_
  refine mr_icmp_gt (pc := 5) (tgt := 37) dX12_open_5 (by decide) (r32 (rR (x := 5)) rfl) (r32 (rR (x := 6)) rfl) (fun h => ((vc_X12_open_r_19 h)).elim) (fun _ => ?_)
  refine sv_aload_n (pc := 8) dX12_open_8 rfl rfl ?_
  refine gf_X12_122 (pc := 9) dX12_open_9 wF_X12_526 (A_106 hw) T204 ?_
  refine mr_iload_n (pc := 12) (z := 5) dX12_open_12 rfl rfl ?_
  refine mr_iload_n (pc := 13) (z := p1) dX12_open_13 rfl rfl ?_
  refine sv_aload_n (pc := 14) dX12_open_14 rfl rfl ?_
  refine gf_X12_121 (pc := 15) dX12_open_15 wF_X12_523 (A_106 hw) T204 ?_
  refine mr_iload_n (pc := 18) (z := 5) dX12_open_18 rfl rfl ?_
  refine lk_187 (pc := 19) dX12_open_19 (A_187 hw) (rIx (n := 8) (rR (x := 5)) rfl) (u203.f (Or.inl (mAt.ne (A_188 hw) (A_187 hw) rfl)) (u194.f (Or.inl (mAt.ne (A_188 hw) (A_187 hw) rfl)) (u185.f (Or.inl (mAt.ne (A_188 hw) (A_187 hw) rfl)) (u176.f (Or.inl (mAt.ne (A_188 hw) (A_187 hw) rfl)) q_f_w5)))) ?_
  refine mr_idiv (pc := 20) (x := p1) (y := f_w5) dX12_open_20 (rW (c := 0) (d := 2147483647) hp1 rfl) (vc_X12_open_r_20 hq4 h5) ?_
  refine mr_gen (P := fun z => 0 ≤ z ∧ z ≤ 46655) (rDivV hp1 (vc_X12_open_r_20 hq4 h5) rfl) fun z205 q206 h207 => ?_
  refine sv_aload_n (pc := 21) dX12_open_21 rfl rfl ?_
  refine gf_X12_118 (pc := 22) dX12_open_22 wF_X12_514 (A_106 hw) T204 ?_
  refine mr_iload_n (pc := 25) (z := 5) dX12_open_25 rfl rfl ?_
  refine lk_184 (pc := 26) dX12_open_26 (A_184 hw) (rIx (n := 7) (rR (x := 5)) rfl) (u203.f (Or.inl (mAt.ne (A_188 hw) (A_184 hw) rfl)) (u194.f (Or.inl (mAt.ne (A_188 hw) (A_184 hw) rfl)) (u185.f (Or.inl (mAt.ne (A_188 hw) (A_184 hw) rfl)) (u176.f (Or.inl (mAt.ne (A_188 hw) (A_184 hw) rfl)) q_f_v5)))) ?_
  refine mr_iconst (pc := 27) (z := 1) dX12_open_27 ?_
  refine mr_iadd (pc := 28) (x := f_v5) (y := 1) dX12_open_28 ?_
  refine mr_irem (pc := 29) (x := z205) (y := (f_v5 + 1)) dX12_open_29 (rW (c := 0) (d := 2147483647) h207 rfl) (vc_X12_open_r_21 ht_f_v5) ?_
  refine mr_gen (P := fun z => 0 ≤ z ∧ z ≤ 5) (rModV (rAdd (e := 1) (f := 6) ht_f_v5 (rR (x := 1)) rfl) (vc_X12_open_r_21 ht_f_v5) rfl) fun z208 q209 h210 => ?_
  refine ss_188 (pc := 30) dX12_open_30 (A_188 hw) T204 (rIx (n := 7) (rR (x := 5)) rfl) h210 fun μ211 u212 T213 => ?_
  refine mr_iinc (pc := 31) (lv' := [(2, iv 6), (0, .ref 106), (1, iv p1)]) dX12_open_31 rfl (by decide) rfl ?_
  refine sv_goto (pc := 34) (tgt := 2) dX12_open_34 (by decide) ?_
  refine mr_iload_n (pc := 2) (z := 6) dX12_open_2 rfl rfl ?_
  refine mr_bipush (pc := 3) (z := 6) dX12_open_3 (by decide) ?_
  refine mr_icmp_gt (pc := 5) (tgt := 37) dX12_open_5 (by decide) (r32 (rR (x := 6)) rfl) (r32 (rR (x := 6)) rfl) (fun h => ((vc_X12_open_r_22 h)).elim) (fun _ => ?_)
  refine sv_aload_n (pc := 8) dX12_open_8 rfl rfl ?_
  refine gf_X12_122 (pc := 9) dX12_open_9 wF_X12_526 (A_106 hw) T213 ?_
  refine mr_iload_n (pc := 12) (z := 6) dX12_open_12 rfl rfl ?_
  refine mr_iload_n (pc := 13) (z := p1) dX12_open_13 rfl rfl ?_
  refine sv_aload_n (pc := 14) dX12_open_14 rfl rfl ?_
  refine gf_X12_121 (pc := 15) dX12_open_15 wF_X12_523 (A_106 hw) T213 ?_
  refine mr_iload_n (pc := 18) (z := 6) dX12_open_18 rfl rfl ?_
  refine lk_187 (pc := 19) dX12_open_19 (A_187 hw) (rIx (n := 8) (rR (x := 6)) rfl) (u212.f (Or.inl (mAt.ne (A_188 hw) (A_187 hw) rfl)) (u203.f (Or.inl (mAt.ne (A_188 hw) (A_187 hw) rfl)) (u194.f (Or.inl (mAt.ne (A_188 hw) (A_187 hw) rfl)) (u185.f (Or.inl (mAt.ne (A_188 hw) (A_187 hw) rfl)) (u176.f (Or.inl (mAt.ne (A_188 hw) (A_187 hw) rfl)) q_f_w6))))) ?_
  refine mr_idiv (pc := 20) (x := p1) (y := f_w6) dX12_open_20 (rW (c := 0) (d := 2147483647) hp1 rfl) (vc_X12_open_r_23 hq5 h6) ?_
  refine mr_gen (P := fun z => 0 ≤ z ∧ z ≤ 46655) (rDivV hp1 (vc_X12_open_r_23 hq5 h6) rfl) fun z214 q215 h216 => ?_
  refine sv_aload_n (pc := 21) dX12_open_21 rfl rfl ?_
  refine gf_X12_118 (pc := 22) dX12_open_22 wF_X12_514 (A_106 hw) T213 ?_
  refine mr_iload_n (pc := 25) (z := 6) dX12_open_25 rfl rfl ?_
  refine lk_184 (pc := 26) dX12_open_26 (A_184 hw) (rIx (n := 7) (rR (x := 6)) rfl) (u212.f (Or.inl (mAt.ne (A_188 hw) (A_184 hw) rfl)) (u203.f (Or.inl (mAt.ne (A_188 hw) (A_184 hw) rfl)) (u194.f (Or.inl (mAt.ne (A_188 hw) (A_184 hw) rfl)) (u185.f (Or.inl (mAt.ne (A_188 hw) (A_184 hw) rfl)) (u176.f (Or.inl (mAt.ne (A_188 hw) (A_184 hw) rfl)) q_f_v6))))) ?_
  refine mr_iconst (pc := 27) (z := 1) dX12_open_27 ?_
  refine mr_iadd (pc := 28) (x := f_v6) (y := 1) dX12_open_28 ?_
  refine mr_irem (pc := 29) (x := z214) (y := (f_v6 + 1)) dX12_open_29 (rW (c := 0) (d := 2147483647) h216 rfl) (vc_X12_open_r_24 ht_f_v6) ?_
  refine mr_gen (P := fun z => 0 ≤ z ∧ z ≤ 5) (rModV (rAdd (e := 1) (f := 6) ht_f_v6 (rR (x := 1)) rfl) (vc_X12_open_r_24 ht_f_v6) rfl) fun z217 q218 h219 => ?_
  refine ss_188 (pc := 30) dX12_open_30 (A_188 hw) T213 (rIx (n := 7) (rR (x := 6)) rfl) h219 fun μ220 u221 T222 => ?_
  refine mr_iinc (pc := 31) (lv' := [(2, iv 7), (0, .ref 106), (1, iv p1)]) dX12_open_31 rfl (by decide) rfl ?_
  refine sv_goto (pc := 34) (tgt := 2) dX12_open_34 (by decide) ?_
  refine mr_iload_n (pc := 2) (z := 7) dX12_open_2 rfl rfl ?_
  refine mr_bipush (pc := 3) (z := 6) dX12_open_3 (by decide) ?_
  refine mr_icmp_gt (pc := 5) (tgt := 37) dX12_open_5 (by decide) (r32 (rR (x := 7)) rfl) (r32 (rR (x := 6)) rfl) (fun _ => ?_) (fun h => ((vc_X12_open_r_25 h)).elim)
  exact mr_vret dX12_open_37 rfl (le_t rfl) (le_t rfl) T222 (mF.up (mF.up (mF.up (mF.up (mF.up (mF.up mF.refl (A_188 hw) u176 rfl) (A_188 hw) u185 rfl) (A_188 hw) u194 rfl) (A_188 hw) u203 rfl) (A_188 hw) u212 rfl) (A_188 hw) u221 rfl) ⟨z172, z181, z190, z199, z208, z217, (u221.f (Or.inr vc_X12_open_r_30) (u212.f (Or.inr vc_X12_open_r_29) (u203.f (Or.inr vc_X12_open_r_28) (u194.f (Or.inr vc_X12_open_r_27) (u185.f (Or.inr vc_X12_open_r_26) u176.1))))), (u221.f (Or.inr vc_X12_open_r_34) (u212.f (Or.inr vc_X12_open_r_33) (u203.f (Or.inr vc_X12_open_r_32) (u194.f (Or.inr vc_X12_open_r_31) u185.1)))), (u221.f (Or.inr vc_X12_open_r_37) (u212.f (Or.inr vc_X12_open_r_36) (u203.f (Or.inr vc_X12_open_r_35) u194.1))), (u221.f (Or.inr vc_X12_open_r_39) (u212.f (Or.inr vc_X12_open_r_38) u203.1)), (u221.f (Or.inr vc_X12_open_r_40) u212.1), u221.1, (vc_X12_open_r_41 (q173 ▸ Int.emod_lt_of_pos z169 (vc_X12_open_r_9 ht_f_v1).1) ht_f_v1 h174), (vc_X12_open_r_42 (q182 ▸ Int.emod_lt_of_pos z178 (vc_X12_open_r_12 ht_f_v2).1) ht_f_v2 h183), (vc_X12_open_r_43 (q191 ▸ Int.emod_lt_of_pos z187 (vc_X12_open_r_15 ht_f_v3).1) ht_f_v3 h192), (vc_X12_open_r_44 (q200 ▸ Int.emod_lt_of_pos z196 (vc_X12_open_r_18 ht_f_v4).1) ht_f_v4 h201), (vc_X12_open_r_45 (q209 ▸ Int.emod_lt_of_pos z205 (vc_X12_open_r_21 ht_f_v5).1) ht_f_v5 h210), (vc_X12_open_r_46 (q218 ▸ Int.emod_lt_of_pos z214 (vc_X12_open_r_24 ht_f_v6).1) ht_f_v6 h219), ⟨dig.mk (u221.f (Or.inr vc_X12_open_r_30) (u212.f (Or.inr vc_X12_open_r_29) (u203.f (Or.inr vc_X12_open_r_28) (u194.f (Or.inr vc_X12_open_r_27) (u185.f (Or.inr vc_X12_open_r_26) u176.1))))) (u221.f (Or.inl (mAt.ne (A_188 hw) (A_187 hw) rfl)) (u212.f (Or.inl (mAt.ne (A_188 hw) (A_187 hw) rfl)) (u203.f (Or.inl (mAt.ne (A_188 hw) (A_187 hw) rfl)) (u194.f (Or.inl (mAt.ne (A_188 hw) (A_187 hw) rfl)) (u185.f (Or.inl (mAt.ne (A_188 hw) (A_187 hw) rfl)) (u176.f (Or.inl (mAt.ne (A_188 hw) (A_187 hw) rfl)) q_f_w1)))))) (u221.f (Or.inl (mAt.ne (A_188 hw) (A_184 hw) rfl)) (u212.f (Or.inl (mAt.ne (A_188 hw) (A_184 hw) rfl)) (u203.f (Or.inl (mAt.ne (A_188 hw) (A_184 hw) rfl)) (u194.f (Or.inl (mAt.ne (A_188 hw) (A_184 hw) rfl)) (u185.f (Or.inl (mAt.ne (A_188 hw) (A_184 hw) rfl)) (u176.f (Or.inl (mAt.ne (A_188 hw) (A_184 hw) rfl)) q_f_v1)))))) q170 q173, dig.mk (u221.f (Or.inr vc_X12_open_r_34) (u212.f (Or.inr vc_X12_open_r_33) (u203.f (Or.inr vc_X12_open_r_32) (u194.f (Or.inr vc_X12_open_r_31) u185.1)))) (u221.f (Or.inl (mAt.ne (A_188 hw) (A_187 hw) rfl)) (u212.f (Or.inl (mAt.ne (A_188 hw) (A_187 hw) rfl)) (u203.f (Or.inl (mAt.ne (A_188 hw) (A_187 hw) rfl)) (u194.f (Or.inl (mAt.ne (A_188 hw) (A_187 hw) rfl)) (u185.f (Or.inl (mAt.ne (A_188 hw) (A_187 hw) rfl)) (u176.f (Or.inl (mAt.ne (A_188 hw) (A_187 hw) rfl)) q_f_w2)))))) (u221.f (Or.inl (mAt.ne (A_188 hw) (A_184 hw) rfl)) (u212.f (Or.inl (mAt.ne (A_188 hw) (A_184 hw) rfl)) (u203.f (Or.inl (mAt.ne (A_188 hw) (A_184 hw) rfl)) (u194.f (Or.inl (mAt.ne (A_188 hw) (A_184 hw) rfl)) (u185.f (Or.inl (mAt.ne (A_188 hw) (A_184 hw) rfl)) (u176.f (Or.inl (mAt.ne (A_188 hw) (A_184 hw) rfl)) q_f_v2)))))) q179 q182, dig.mk (u221.f (Or.inr vc_X12_open_r_37) (u212.f (Or.inr vc_X12_open_r_36) (u203.f (Or.inr vc_X12_open_r_35) u194.1))) (u221.f (Or.inl (mAt.ne (A_188 hw) (A_187 hw) rfl)) (u212.f (Or.inl (mAt.ne (A_188 hw) (A_187 hw) rfl)) (u203.f (Or.inl (mAt.ne (A_188 hw) (A_187 hw) rfl)) (u194.f (Or.inl (mAt.ne (A_188 hw) (A_187 hw) rfl)) (u185.f (Or.inl (mAt.ne (A_188 hw) (A_187 hw) rfl)) (u176.f (Or.inl (mAt.ne (A_188 hw) (A_187 hw) rfl)) q_f_w3)))))) (u221.f (Or.inl (mAt.ne (A_188 hw) (A_184 hw) rfl)) (u212.f (Or.inl (mAt.ne (A_188 hw) (A_184 hw) rfl)) (u203.f (Or.inl (mAt.ne (A_188 hw) (A_184 hw) rfl)) (u194.f (Or.inl (mAt.ne (A_188 hw) (A_184 hw) rfl)) (u185.f (Or.inl (mAt.ne (A_188 hw) (A_184 hw) rfl)) (u176.f (Or.inl (mAt.ne (A_188 hw) (A_184 hw) rfl)) q_f_v3)))))) q188 q191, dig.mk (u221.f (Or.inr vc_X12_open_r_39) (u212.f (Or.inr vc_X12_open_r_38) u203.1)) (u221.f (Or.inl (mAt.ne (A_188 hw) (A_187 hw) rfl)) (u212.f (Or.inl (mAt.ne (A_188 hw) (A_187 hw) rfl)) (u203.f (Or.inl (mAt.ne (A_188 hw) (A_187 hw) rfl)) (u194.f (Or.inl (mAt.ne (A_188 hw) (A_187 hw) rfl)) (u185.f (Or.inl (mAt.ne (A_188 hw) (A_187 hw) rfl)) (u176.f (Or.inl (mAt.ne (A_188 hw) (A_187 hw) rfl)) q_f_w4)))))) (u221.f (Or.inl (mAt.ne (A_188 hw) (A_184 hw) rfl)) (u212.f (Or.inl (mAt.ne (A_188 hw) (A_184 hw) rfl)) (u203.f (Or.inl (mAt.ne (A_188 hw) (A_184 hw) rfl)) (u194.f (Or.inl (mAt.ne (A_188 hw) (A_184 hw) rfl)) (u185.f (Or.inl (mAt.ne (A_188 hw) (A_184 hw) rfl)) (u176.f (Or.inl (mAt.ne (A_188 hw) (A_184 hw) rfl)) q_f_v4)))))) q197 q200, dig.mk (u221.f (Or.inr vc_X12_open_r_40) u212.1) (u221.f (Or.inl (mAt.ne (A_188 hw) (A_187 hw) rfl)) (u212.f (Or.inl (mAt.ne (A_188 hw) (A_187 hw) rfl)) (u203.f (Or.inl (mAt.ne (A_188 hw) (A_187 hw) rfl)) (u194.f (Or.inl (mAt.ne (A_188 hw) (A_187 hw) rfl)) (u185.f (Or.inl (mAt.ne (A_188 hw) (A_187 hw) rfl)) (u176.f (Or.inl (mAt.ne (A_188 hw) (A_187 hw) rfl)) q_f_w5)))))) (u221.f (Or.inl (mAt.ne (A_188 hw) (A_184 hw) rfl)) (u212.f (Or.inl (mAt.ne (A_188 hw) (A_184 hw) rfl)) (u203.f (Or.inl (mAt.ne (A_188 hw) (A_184 hw) rfl)) (u194.f (Or.inl (mAt.ne (A_188 hw) (A_184 hw) rfl)) (u185.f (Or.inl (mAt.ne (A_188 hw) (A_184 hw) rfl)) (u176.f (Or.inl (mAt.ne (A_188 hw) (A_184 hw) rfl)) q_f_v5)))))) q206 q209, dig.mk u221.1 (u221.f (Or.inl (mAt.ne (A_188 hw) (A_187 hw) rfl)) (u212.f (Or.inl (mAt.ne (A_188 hw) (A_187 hw) rfl)) (u203.f (Or.inl (mAt.ne (A_188 hw) (A_187 hw) rfl)) (u194.f (Or.inl (mAt.ne (A_188 hw) (A_187 hw) rfl)) (u185.f (Or.inl (mAt.ne (A_188 hw) (A_187 hw) rfl)) (u176.f (Or.inl (mAt.ne (A_188 hw) (A_187 hw) rfl)) q_f_w6)))))) (u221.f (Or.inl (mAt.ne (A_188 hw) (A_184 hw) rfl)) (u212.f (Or.inl (mAt.ne (A_188 hw) (A_184 hw) rfl)) (u203.f (Or.inl (mAt.ne (A_188 hw) (A_184 hw) rfl)) (u194.f (Or.inl (mAt.ne (A_188 hw) (A_184 hw) rfl)) (u185.f (Or.inl (mAt.ne (A_188 hw) (A_184 hw) rfl)) (u176.f (Or.inl (mAt.ne (A_188 hw) (A_184 hw) rfl)) q_f_v6)))))) q215 q218⟩, trivial⟩
theorem vc_X12_acted_v_1 {z141 : Int} (h0 : (6 - z141) < ((0 : Nat) : Int)) (h1 : 0 ≤ z141 ∧ z141 ≤ 5) : False := by omega
theorem vc_X12_acted_v_2 {f_vp z141 : Int} (h0 : f_vp ≤ z141) (h1 : 0 ≤ f_vp ∧ f_vp ≤ 5) (h2 : 0 ≤ z141 ∧ z141 ≤ 5) : f_vp ≤ f_vp := by omega
theorem vc_X12_acted_v_3 {f_vp z141 : Int} (h0 : z141 < f_vp) (h1 : 0 ≤ f_vp ∧ f_vp ≤ 5) (h2 : 0 ≤ z141 ∧ z141 ≤ 5) : 0 ≤ z141 ∧ z141 ≤ 4 := by omega
theorem vc_X12_acted_v_4 {f_vp z141 : Int} (h0 : z141 < f_vp) (h1 : 0 ≤ f_vp ∧ f_vp ≤ 5) (h2 : 0 ≤ z141 ∧ z141 ≤ 4) : 1 ≤ f_vp ∧ f_vp ≤ 5 := by omega
theorem vc_X12_acted_v_5 {f_h1 f_v1 : Int} (h0 : f_h1 ≤ f_v1) (h1 : 0 ≤ f_h1 ∧ f_h1 ≤ 5) (h2 : 0 ≤ f_v1 ∧ f_v1 ≤ 5) : f_h1 ≤ f_v1 := by omega
theorem vc_X12_acted_v_6 {f_h2 f_v2 : Int} (h0 : f_h2 ≤ f_v2) (h1 : 0 ≤ f_h2 ∧ f_h2 ≤ 5) (h2 : 0 ≤ f_v2 ∧ f_v2 ≤ 5) : f_h2 ≤ f_v2 := by omega
theorem vc_X12_acted_v_7 {f_h3 f_v3 : Int} (h0 : f_h3 ≤ f_v3) (h1 : 0 ≤ f_h3 ∧ f_h3 ≤ 5) (h2 : 0 ≤ f_v3 ∧ f_v3 ≤ 5) : f_h3 ≤ f_v3 := by omega
theorem vc_X12_acted_v_8 {f_h4 f_v4 : Int} (h0 : f_h4 ≤ f_v4) (h1 : 0 ≤ f_h4 ∧ f_h4 ≤ 5) (h2 : 0 ≤ f_v4 ∧ f_v4 ≤ 5) : f_h4 ≤ f_v4 := by omega
theorem vc_X12_acted_v_9 {f_h5 f_v5 : Int} (h0 : f_h5 ≤ f_v5) (h1 : 0 ≤ f_h5 ∧ f_h5 ≤ 5) (h2 : 0 ≤ f_v5 ∧ f_v5 ≤ 5) : f_h5 ≤ f_v5 := by omega
theorem vc_X12_acted_v_10 {f_h6 f_v6 : Int} (h0 : f_h6 ≤ f_v6) (h1 : 0 ≤ f_h6 ∧ f_h6 ≤ 5) (h2 : 0 ≤ f_v6 ∧ f_v6 ≤ 5) : f_h6 ≤ f_v6 := by omega
theorem vc_X12_acted_v_11 {z156 : Int} (h0 : z156 = 0) (h1 : 0 ≤ z156 ∧ z156 ≤ 1) : 0 ≤ z156 ∧ z156 ≤ 0 := by omega
theorem vc_X12_acted_v_12 {N f_vp z141 : Int} (h0 : (6 - z141) < N + 1) (h1 : z141 < f_vp) (h2 : 1 ≤ f_vp ∧ f_vp ≤ 5) (h3 : 0 ≤ z141 ∧ z141 ≤ 4) : (6 - (z141 + 1)) < N := by omega
theorem vc_X12_acted_v_13 {z156 : Int} (h0 : ¬ z156 = 0) (h1 : 0 ≤ z156 ∧ z156 ≤ 1) : 1 ≤ z156 ∧ z156 ≤ 1 := by omega
theorem vc_X12_acted_v_14 {f_vp z141 : Int} (h0 : z141 < f_vp) (h1 : 1 ≤ f_vp ∧ f_vp ≤ 5) (h2 : 0 ≤ z141 ∧ z141 ≤ 4) : z141 ≤ f_vp := by omega
theorem vc_X12_acted_v_15  : (6 - 0) < ((7 : Nat) : Int) := by omega
set_option maxRecDepth 4000 in
set_option maxHeartbeats 4000000 in
theorem c_X12_acted_v {l : Launch} {D : va_G} {c : Nat → ClassId} {H0 : Heap} {sa : Nat × Nat × (Nat → Int32)} {w : mW} {μ : mM} (hw : mWF w) (hT : mT w μ) {p1 : Int} (hp1 : 1 ≤ p1 ∧ p1 ≤ 6) {f_h1 : Int} (q_f_h1 : μ 188 ((1 : Int).toNat) = f_h1) {f_h2 : Int} (q_f_h2 : μ 188 ((2 : Int).toNat) = f_h2) {f_h3 : Int} (q_f_h3 : μ 188 ((3 : Int).toNat) = f_h3) {f_h4 : Int} (q_f_h4 : μ 188 ((4 : Int).toNat) = f_h4) {f_h5 : Int} (q_f_h5 : μ 188 ((5 : Int).toNat) = f_h5) {f_h6 : Int} (q_f_h6 : μ 188 ((6 : Int).toNat) = f_h6) {f_v1 : Int} (q_f_v1 : μ 184 ((1 : Int).toNat) = f_v1) {f_v2 : Int} (q_f_v2 : μ 184 ((2 : Int).toNat) = f_v2) {f_v3 : Int} (q_f_v3 : μ 184 ((3 : Int).toNat) = f_v3) {f_v4 : Int} (q_f_v4 : μ 184 ((4 : Int).toNat) = f_v4) {f_v5 : Int} (q_f_v5 : μ 184 ((5 : Int).toNat) = f_v5) {f_v6 : Int} (q_f_v6 : μ 184 ((6 : Int).toNat) = f_v6) {f_vp : Int} (q_f_vp : μ 184 (p1.toNat) = f_vp) (hq0 : f_h1 ≤ f_v1) (hq1 : f_h2 ≤ f_v2) (hq2 : f_h3 ≤ f_v3) (hq3 : f_h4 ≤ f_v4) (hq4 : f_h5 ≤ f_v5) (hq5 : f_h6 ≤ f_v6) : sC (gG l D c H0 sa) mX12_acted 2 0 0 [.ref 106, iv p1] (mk w μ) (qP w μ (fun z => (0 ≤ z ∧ z ≤ 5) ∧ (z ≤ f_vp) ∧ True)) := by
  refine sC.of rfl (by decide) (le_t rfl) ?_
  have ht_f_h1 : (0 ≤ f_h1 ∧ f_h1 ≤ 5) := by rw [← q_f_h1]; exact hT 188 188 (A_188 hw) ((1 : Int).toNat)
  have ht_f_h2 : (0 ≤ f_h2 ∧ f_h2 ≤ 5) := by rw [← q_f_h2]; exact hT 188 188 (A_188 hw) ((2 : Int).toNat)
  have ht_f_h3 : (0 ≤ f_h3 ∧ f_h3 ≤ 5) := by rw [← q_f_h3]; exact hT 188 188 (A_188 hw) ((3 : Int).toNat)
  have ht_f_h4 : (0 ≤ f_h4 ∧ f_h4 ≤ 5) := by rw [← q_f_h4]; exact hT 188 188 (A_188 hw) ((4 : Int).toNat)
  have ht_f_h5 : (0 ≤ f_h5 ∧ f_h5 ≤ 5) := by rw [← q_f_h5]; exact hT 188 188 (A_188 hw) ((5 : Int).toNat)
  have ht_f_h6 : (0 ≤ f_h6 ∧ f_h6 ≤ 5) := by rw [← q_f_h6]; exact hT 188 188 (A_188 hw) ((6 : Int).toNat)
  have ht_f_v1 : (0 ≤ f_v1 ∧ f_v1 ≤ 5) := by rw [← q_f_v1]; exact hT 184 184 (A_184 hw) ((1 : Int).toNat)
  have ht_f_v2 : (0 ≤ f_v2 ∧ f_v2 ≤ 5) := by rw [← q_f_v2]; exact hT 184 184 (A_184 hw) ((2 : Int).toNat)
  have ht_f_v3 : (0 ≤ f_v3 ∧ f_v3 ≤ 5) := by rw [← q_f_v3]; exact hT 184 184 (A_184 hw) ((3 : Int).toNat)
  have ht_f_v4 : (0 ≤ f_v4 ∧ f_v4 ≤ 5) := by rw [← q_f_v4]; exact hT 184 184 (A_184 hw) ((4 : Int).toNat)
  have ht_f_v5 : (0 ≤ f_v5 ∧ f_v5 ≤ 5) := by rw [← q_f_v5]; exact hT 184 184 (A_184 hw) ((5 : Int).toNat)
  have ht_f_v6 : (0 ≤ f_v6 ∧ f_v6 ≤ 5) := by rw [← q_f_v6]; exact hT 184 184 (A_184 hw) ((6 : Int).toNat)
  have ht_f_vp : (0 ≤ f_vp ∧ f_vp ≤ 5) := by rw [← q_f_vp]; exact hT 184 184 (A_184 hw) (p1.toNat)
  refine mr_lvE (lv' := [(0, .ref 106), (1, iv p1)]) rfl ?_
  refine mr_iconst (pc := 0) (z := 0) dX12_acted_0 ?_
  refine mr_istore_n (pc := 1) (lv' := [(2, iv 0), (0, .ref 106), (1, iv p1)]) dX12_acted_1 rfl (by decide) rfl ?_
  have L142 : ∀ (nL142 : Nat) (z141 : Int), True → (0 ≤ z141 ∧ z141 ≤ 5) → (6 - z141) < (nL142 : Int) → sV (gG l D c H0 sa) mX12_acted (sRm 2 0 0) (sZ (gG l D c H0 sa) 0 0 (qP w μ (fun z => (0 ≤ z ∧ z ≤ 5) ∧ (z ≤ f_vp) ∧ True))) 2 [(0, .ref 106), (1, iv p1), (2, iv z141)] [] (mk w μ) 0 0 := by
    intro nL142
    induction nL142 with
    | zero => intro z141 _ h143 h147; exact ((vc_X12_acted_v_1 h147 h143)).elim
    | succ nL142 ih148 =>
      intro z141 _ h143 h147
      refine mr_iload_n (pc := 2) (z := z141) dX12_acted_2 rfl rfl ?_
      refine sv_aload_n (pc := 3) dX12_acted_3 rfl rfl ?_
      refine gf_X12_118 (pc := 4) dX12_acted_4 wF_X12_514 (A_106 hw) hT ?_
      refine mr_iload_n (pc := 7) (z := p1) dX12_acted_7 rfl rfl ?_
      refine lk_184 (pc := 8) dX12_acted_8 (A_184 hw) (rIx (n := 7) hp1 rfl) q_f_vp ?_
      refine mr_icmp_ge (pc := 9) (tgt := 32) dX12_acted_9 (by decide) (r32 h143 rfl) (r32 ht_f_vp rfl) (fun h149 => ?_) (fun h149 => ?_)
      · refine sv_aload_n (pc := 32) dX12_acted_32 rfl rfl ?_
        refine gf_X12_118 (pc := 33) dX12_acted_33 wF_X12_514 (A_106 hw) hT ?_
        refine mr_iload_n (pc := 36) (z := p1) dX12_acted_36 rfl rfl ?_
        refine lk_184 (pc := 37) dX12_acted_37 (A_184 hw) (rIx (n := 7) hp1 rfl) q_f_vp ?_
        exact mr_iretP dX12_acted_38 rfl (le_t rfl) (le_t rfl) ⟨ht_f_vp, (vc_X12_acted_v_2 h149 ht_f_vp h143), trivial⟩
      have h150 : 0 ≤ z141 ∧ z141 ≤ 4 := (vc_X12_acted_v_3 h149 ht_f_vp h143)
      have h151 : 1 ≤ f_vp ∧ f_vp ≤ 5 := (vc_X12_acted_v_4 h149 ht_f_vp h150)
      refine sv_aload_n (pc := 12) dX12_acted_12 rfl rfl ?_
      refine mr_iconst (pc := 13) (z := 5) dX12_acted_13 ?_
      refine mr_iload_n (pc := 14) (z := p1) dX12_acted_14 rfl rfl ?_
      refine mr_imul (pc := 15) (x := 5) (y := p1) dX12_acted_15 ?_
      refine mr_iload_n (pc := 16) (z := z141) dX12_acted_16 rfl rfl ?_
      refine mr_iadd (pc := 17) (x := (5 * p1)) (y := z141) dX12_acted_17 ?_
      refine mr_cVP (pc := 18) (c_X12_isOffered hw hT (rAdd (e := 5) (f := 34) (rMulL (n := 5) (e := 5) (f := 30) hp1 rfl) h150 rfl) q_f_h1 q_f_h2 q_f_h3 q_f_h4 q_f_h5 q_f_h6 q_f_v1 q_f_v2 q_f_v3 q_f_v4 q_f_v5 q_f_v6 (vc_X12_acted_v_5 hq0 ht_f_h1 ht_f_v1) (vc_X12_acted_v_6 hq1 ht_f_h2 ht_f_v2) (vc_X12_acted_v_7 hq2 ht_f_h3 ht_f_v3) (vc_X12_acted_v_8 hq3 ht_f_h4 ht_f_v4) (vc_X12_acted_v_9 hq4 ht_f_h5 ht_f_v5) (vc_X12_acted_v_10 hq5 ht_f_h6 ht_f_v6)) (gOk _ _ _ _ _) dX12_acted_18 (tX12_isOffered _ _ _ _ _) ⟨wV_X12_isOffered, wL_X12_isOffered⟩ wM_X12_719 (gCX12 _ _ _ _ _) rfl (A_106 hw) rfl ⟨le_t rfl, le_t rfl⟩ ⟨le_t rfl, le_t rfl⟩ rfl (le_t rfl) fun z156 h155 => ?_
      refine mr_if_eq (pc := 21) (tgt := 26) dX12_acted_21 (by decide) (r32 h155.1 rfl) (fun h157 => ?_) (fun h157 => ?_)
      · have h158 : 0 ≤ z156 ∧ z156 ≤ 0 := (vc_X12_acted_v_11 h157 h155.1)
        refine mr_iinc (pc := 26) (lv' := [(2, iv (z141 + 1)), (0, .ref 106), (1, iv p1)]) dX12_acted_26 rfl (by decide) rfl ?_
        refine sv_goto (pc := 29) (tgt := 2) dX12_acted_29 (by decide) ?_
        refine mr_lvS (lv' := [(0, .ref 106), (1, iv p1), (2, iv (z141 + 1))]) (List.forall_mem_cons.mpr ⟨rfl, List.forall_mem_cons.mpr ⟨rfl, List.forall_mem_cons.mpr ⟨rfl, fun _ h => absurd h List.not_mem_nil⟩⟩⟩) ?_
        exact ih148 (z141 + 1) trivial (rW (c := 0) (d := 5) (rAdd (e := 1) (f := 5) h150 (rR (x := 1)) rfl) rfl) (vc_X12_acted_v_12 (nS h147) h149 h151 h150)
      have h159 : 1 ≤ z156 ∧ z156 ≤ 1 := (vc_X12_acted_v_13 h157 h155.1)
      refine mr_iload_n (pc := 24) (z := z141) dX12_acted_24 rfl rfl ?_
      exact mr_iretP dX12_acted_25 rfl (le_t rfl) (le_t rfl) ⟨(rW (c := 0) (d := 5) h150 rfl), (vc_X12_acted_v_14 h149 h151 h150), trivial⟩
  refine mr_lvS (lv' := [(0, .ref 106), (1, iv p1), (2, iv 0)]) (List.forall_mem_cons.mpr ⟨rfl, List.forall_mem_cons.mpr ⟨rfl, List.forall_mem_cons.mpr ⟨rfl, fun _ h => absurd h List.not_mem_nil⟩⟩⟩) ?_
  exact L142 7 0 trivial (rW (c := 0) (d := 5) (rR (x := 0)) rfl) vc_X12_acted_v_15
theorem vc_X12_tries_1 {p1 z5 : Int} (h0 : ¬ z5 = 0) (h1 : (z5 = 1 → (0 : Int) ≤ p1 ∧ p1 ≤ (3 : Int))) (h2 : (z5 = 0 → p1 < (0 : Int) ∨ (3 : Int) < p1)) (h3 : (-2147483648) ≤ p1 ∧ p1 ≤ 2147483647) (h4 : 0 ≤ z5 ∧ z5 ≤ 1) : 1 ≤ z5 ∧ z5 ≤ 1 := by omega
theorem vc_X12_tries_2 {p1 z5 : Int} (h0 : (z5 = 1 → (0 : Int) ≤ p1 ∧ p1 ≤ (3 : Int))) (h1 : (z5 = 0 → p1 < (0 : Int) ∨ (3 : Int) < p1)) (h2 : ¬ z5 = 0) (h3 : (-2147483648) ≤ p1 ∧ p1 ≤ 2147483647) (h4 : 1 ≤ z5 ∧ z5 ≤ 1) : z5 = 1 := by omega
theorem vc_X12_tries_3 {p1 z5 : Int} (h0 : (0 : Int) ≤ p1 ∧ p1 ≤ (3 : Int)) (h1 : (z5 = 1 → (0 : Int) ≤ p1 ∧ p1 ≤ (3 : Int))) (h2 : (z5 = 0 → p1 < (0 : Int) ∨ (3 : Int) < p1)) (h3 : (-2147483648) ≤ p1 ∧ p1 ≤ 2147483647) (h4 : 1 ≤ z5 ∧ z5 ≤ 1) : 0 ≤ p1 ∧ p1 ≤ 3 := by omega
theorem vc_X12_tries_4 {z15 : Int} (h0 : 1 ≤ z15) (h1 : 0 ≤ z15 ∧ z15 ≤ 46656) : 1 ≤ z15 ∧ z15 ≤ 46656 := by omega
theorem vc_X12_tries_5 {z17 : Int} (h0 : 1 ≤ z17) (h1 : 0 ≤ z17 ∧ z17 ≤ 46656) : 1 ≤ z17 ∧ z17 ≤ 46656 := by omega
theorem vc_X12_tries_6 {z19 : Int} (h0 : 1 ≤ z19) (h1 : 0 ≤ z19 ∧ z19 ≤ 46656) : 1 ≤ z19 ∧ z19 ≤ 46656 := by omega
theorem vc_X12_tries_7 {z21 : Int} (h0 : 1 ≤ z21) (h1 : 0 ≤ z21 ∧ z21 ≤ 46656) : 1 ≤ z21 ∧ z21 ≤ 46656 := by omega
theorem vc_X12_tries_8 {z23 : Int} (h0 : 1 ≤ z23) (h1 : 0 ≤ z23 ∧ z23 ≤ 46656) : 1 ≤ z23 ∧ z23 ≤ 46656 := by omega
theorem vc_X12_tries_9 {z25 : Int} (h0 : 1 ≤ z25) (h1 : 0 ≤ z25 ∧ z25 ≤ 46656) : 1 ≤ z25 ∧ z25 ≤ 46656 := by omega
theorem vc_X12_tries_10 {z23952 : Int} (h0 : (46657 - z23952) < ((0 : Nat) : Int)) (h1 : 0 ≤ z23952 ∧ z23952 ≤ 46656) : False := by omega
theorem vc_X12_tries_11 {z14 z23952 : Int} (h0 : z14 ≤ z23952) (h1 : 1 ≤ z14 ∧ z14 ≤ 46656) (h2 : 0 ≤ z23952 ∧ z23952 ≤ 46656) : 1 ≤ z23952 ∧ z23952 ≤ 46656 := by omega
theorem vc_X12_tries_12 {z14 z23952 : Int} (h0 : z14 ≤ z23952) (h1 : 1 ≤ z14 ∧ z14 ≤ 46656) (h2 : 1 ≤ z23952 ∧ z23952 ≤ 46656) : (z14 - 1) = z14 - 1 := by omega
theorem vc_X12_tries_13 {z14 z23952 : Int} (h0 : z14 ≤ z23952) (h1 : 1 ≤ z14 ∧ z14 ≤ 46656) (h2 : 1 ≤ z23952 ∧ z23952 ≤ 46656) : 1 ≤ z14 := by omega
theorem vc_X12_tries_14 {z36173 z36175 z36176 : Int} (h0 : (46657 - z36173) < ((0 : Nat) : Int)) (h1 : z36175 ≤ z36173) (h2 : z36173 ≤ z36176) (h3 : 0 ≤ z36173 ∧ z36173 ≤ 46656) (h4 : 0 ≤ z36175 ∧ z36175 ≤ 46656) (h5 : 1 ≤ z36176 ∧ z36176 ≤ 46656) : False := by omega
theorem vc_X12_tries_15 {z36173 z36175 z36176 : Int} (h0 : z36176 ≤ z36173) (h1 : z36175 ≤ z36173) (h2 : z36173 ≤ z36176) (h3 : 0 ≤ z36173 ∧ z36173 ≤ 46656) (h4 : 0 ≤ z36175 ∧ z36175 ≤ 46656) (h5 : 1 ≤ z36176 ∧ z36176 ≤ 46656) : 1 ≤ z36173 ∧ z36173 ≤ 46656 := by omega
theorem vc_X12_tries_16 {p1 z5 : Int} (h0 : ¬ p1 = 0) (h1 : (z5 = 1 → (0 : Int) ≤ p1 ∧ p1 ≤ (3 : Int))) (h2 : (z5 = 0 → p1 < (0 : Int) ∨ (3 : Int) < p1)) (h3 : (0 : Int) ≤ p1 ∧ p1 ≤ (3 : Int)) (h4 : 0 ≤ p1 ∧ p1 ≤ 3) (h5 : 1 ≤ z5 ∧ z5 ≤ 1) : 1 ≤ p1 ∧ p1 ≤ 3 := by omega
theorem vc_X12_tries_17 {p1 z5 : Int} (h0 : ¬ p1 = 1) (h1 : (z5 = 1 → (0 : Int) ≤ p1 ∧ p1 ≤ (3 : Int))) (h2 : (z5 = 0 → p1 < (0 : Int) ∨ (3 : Int) < p1)) (h3 : (0 : Int) ≤ p1 ∧ p1 ≤ (3 : Int)) (h4 : ¬ p1 = 0) (h5 : 1 ≤ p1 ∧ p1 ≤ 3) (h6 : 1 ≤ z5 ∧ z5 ≤ 1) : 2 ≤ p1 ∧ p1 ≤ 3 := by omega
theorem vc_X12_tries_18 {p1 z5 : Int} (h0 : ¬ p1 = 3) (h1 : (z5 = 1 → (0 : Int) ≤ p1 ∧ p1 ≤ (3 : Int))) (h2 : (z5 = 0 → p1 < (0 : Int) ∨ (3 : Int) < p1)) (h3 : (0 : Int) ≤ p1 ∧ p1 ≤ (3 : Int)) (h4 : ¬ p1 = 0) (h5 : ¬ p1 = 1) (h6 : 2 ≤ p1 ∧ p1 ≤ 3) (h7 : 1 ≤ z5 ∧ z5 ≤ 1) : 2 ≤ p1 ∧ p1 ≤ 2 := by omega
theorem vc_X12_tries_19 {f_k z37188 : Int} (h0 : ((2 * (46656 - f_k)) + z37188) < ((0 : Nat) : Int)) (h1 : 0 ≤ f_k ∧ f_k ≤ 46656) (h2 : 0 ≤ z37188 ∧ z37188 ≤ 1) : False := by omega
theorem vc_X12_tries_20 {z37188 : Int} (h0 : z37188 = 0) (h1 : 0 ≤ z37188 ∧ z37188 ≤ 1) : 0 ≤ z37188 ∧ z37188 ≤ 0 := by omega
theorem vc_X12_tries_21 {z37685 : Int} (h0 : (46657 - z37685) < ((0 : Nat) : Int)) (h1 : 0 ≤ z37685 ∧ z37685 ≤ 46656) : False := by omega
theorem vc_X12_tries_22 {z36173 z36176 z37685 : Int} (h0 : z36176 ≤ z37685) (h1 : z36173 ≤ z36176) (h2 : z36176 ≤ z36173) (h3 : 1 ≤ z36173 ∧ z36173 ≤ 46656) (h4 : 1 ≤ z36176 ∧ z36176 ≤ 46656) (h5 : 0 ≤ z37685 ∧ z37685 ≤ 46656) : 1 ≤ z37685 ∧ z37685 ≤ 46656 := by omega
theorem vc_X12_tries_23 {z36173 z36176 z37685 : Int} (h0 : z37685 < z36176) (h1 : z36173 ≤ z36176) (h2 : z36176 ≤ z36173) (h3 : 1 ≤ z36173 ∧ z36173 ≤ 46656) (h4 : 1 ≤ z36176 ∧ z36176 ≤ 46656) (h5 : 0 ≤ z37685 ∧ z37685 ≤ 46656) : 0 ≤ z37685 ∧ z37685 ≤ 46655 := by omega
theorem vc_X12_tries_24 {z37713 : Int} (h0 : z37713 = 0) (h1 : 0 ≤ z37713 ∧ z37713 ≤ 1) : 0 ≤ z37713 ∧ z37713 ≤ 0 := by omega
theorem vc_X12_tries_25 {N z36173 z36176 z37685 : Int} (h0 : (46657 - z37685) < N + 1) (h1 : z37685 < z36176) (h2 : z36173 ≤ z36176) (h3 : z36176 ≤ z36173) (h4 : 1 ≤ z36173 ∧ z36173 ≤ 46656) (h5 : 1 ≤ z36176 ∧ z36176 ≤ 46656) (h6 : 0 ≤ z37685 ∧ z37685 ≤ 46655) : (46657 - (z37685 + 1)) < N := by omega
theorem vc_X12_tries_26 {z37713 : Int} (h0 : ¬ z37713 = 0) (h1 : 0 ≤ z37713 ∧ z37713 ≤ 1) : 1 ≤ z37713 ∧ z37713 ≤ 1 := by omega
theorem vc_X12_tries_27  : (46657 - 0) < ((46658 : Nat) : Int) := by omega
theorem vc_X12_tries_28 {z37188 : Int} (h0 : ¬ z37188 = 0) (h1 : 0 ≤ z37188 ∧ z37188 ≤ 1) : 1 ≤ z37188 ∧ z37188 ≤ 1 := by omega
theorem vc_X12_tries_29 {f_k f_k2 z36173 z36176 z38108 z38109 : Int} (h0 : (z38108 - (-2)) < ((0 : Nat) : Int)) (h1 : 0 ≤ f_k2 ∧ f_k2 ≤ 46656) (h2 : f_k ≤ f_k2) (h3 : z38109 = 0 ∨ f_k + 1 ≤ f_k2) (h4 : z38108 < z36176) (h5 : z36173 ≤ z36176) (h6 : z36176 ≤ z36173) (h7 : 0 ≤ f_k ∧ f_k ≤ 46656) (h8 : 1 ≤ z36173 ∧ z36173 ≤ 46656) (h9 : 1 ≤ z36176 ∧ z36176 ≤ 46656) (h10 : (-1) ≤ z38108 ∧ z38108 ≤ 46655) (h11 : 0 ≤ z38109 ∧ z38109 ≤ 1) : False := by omega
theorem vc_X12_tries_30 {z36176 z38108 : Int} (h0 : z38108 < 0) (h1 : z38108 < z36176) (h2 : 1 ≤ z36176 ∧ z36176 ≤ 46656) (h3 : (-1) ≤ z38108 ∧ z38108 ≤ 46655) : (-1) ≤ z38108 ∧ z38108 ≤ (-1) := by omega
theorem vc_X12_tries_31 {N f_k f_k2 z37188 z38109 : Int} (h0 : ((2 * (46656 - f_k)) + z37188) < N + 1) (h1 : ¬ z37188 = 0) (h2 : f_k ≤ f_k2) (h3 : z38109 = 0 ∨ f_k + 1 ≤ f_k2) (h4 : 0 ≤ f_k ∧ f_k ≤ 46656) (h5 : 0 ≤ f_k2 ∧ f_k2 ≤ 46656) (h6 : 1 ≤ z37188 ∧ z37188 ≤ 1) (h7 : 0 ≤ z38109 ∧ z38109 ≤ 1) : ((2 * (46656 - f_k2)) + z38109) < N := by omega
theorem vc_X12_tries_32 {z36176 z38108 : Int} (h0 : 0 ≤ z38108) (h1 : z38108 < z36176) (h2 : 1 ≤ z36176 ∧ z36176 ≤ 46656) (h3 : (-1) ≤ z38108 ∧ z38108 ≤ 46655) : 0 ≤ z38108 ∧ z38108 ≤ 46655 := by omega
theorem vc_X12_tries_33 {z36173 z36176 z38108 : Int} (h0 : z38108 < z36176) (h1 : 0 ≤ z38108) (h2 : z36173 ≤ z36176) (h3 : z36176 ≤ z36173) (h4 : 1 ≤ z36173 ∧ z36173 ≤ 46656) (h5 : 1 ≤ z36176 ∧ z36176 ≤ 46656) (h6 : 0 ≤ z38108 ∧ z38108 ≤ 46655) : 0 ≤ z38108 := by omega
theorem vc_X12_tries_34 {z36173 z36175 z36176 z38108 : Int} (h0 : z36173 ≤ z36176) (h1 : z36176 ≤ z36173) (h2 : z38108 < z36176) (h3 : 0 ≤ z38108) (h4 : z36175 ≤ z36173) (h5 : 1 ≤ z36173 ∧ z36173 ≤ 46656) (h6 : 0 ≤ z36175 ∧ z36175 ≤ 46656) (h7 : 1 ≤ z36176 ∧ z36176 ≤ 46656) (h8 : 0 ≤ z38108 ∧ z38108 ≤ 46655) : z38108 < z36176 := by omega
theorem vc_X12_tries_35 {z38254 : Int} (h0 : z38254 = 0) (h1 : 0 ≤ z38254 ∧ z38254 ≤ 1) : 0 ≤ z38254 ∧ z38254 ≤ 0 := by omega
theorem vc_X12_tries_36 {z15 : Int} (h0 : 1 ≤ z15) (h1 : 1 ≤ z15 ∧ z15 ≤ 46656) : 1 ≤ z15 := by omega
theorem vc_X12_tries_37 {z17 : Int} (h0 : 1 ≤ z17) (h1 : 1 ≤ z17 ∧ z17 ≤ 46656) : 1 ≤ z17 := by omega
theorem vc_X12_tries_38 {z19 : Int} (h0 : 1 ≤ z19) (h1 : 1 ≤ z19 ∧ z19 ≤ 46656) : 1 ≤ z19 := by omega
theorem vc_X12_tries_39 {z21 : Int} (h0 : 1 ≤ z21) (h1 : 1 ≤ z21 ∧ z21 ≤ 46656) : 1 ≤ z21 := by omega
theorem vc_X12_tries_40 {z23 : Int} (h0 : 1 ≤ z23) (h1 : 1 ≤ z23 ∧ z23 ≤ 46656) : 1 ≤ z23 := by omega
theorem vc_X12_tries_41 {z25 : Int} (h0 : 1 ≤ z25) (h1 : 1 ≤ z25 ∧ z25 ≤ 46656) : 1 ≤ z25 := by omega
theorem vc_X12_tries_42 {f_hs f_k f_k2 f_k3 z38109 z38679 : Int} (h0 : (8 - z38679) < ((0 : Nat) : Int)) (h1 : 0 ≤ f_k3 ∧ f_k3 ≤ 46656) (h2 : f_k3 = f_k2 + f_hs) (h3 : f_k ≤ f_k2) (h4 : z38109 = 0 ∨ f_k + 1 ≤ f_k2) (h5 : 0 ≤ f_k ∧ f_k ≤ 46656) (h6 : 0 ≤ f_k2 ∧ f_k2 ≤ 46656) (h7 : 0 ≤ z38109 ∧ z38109 ≤ 1) (h8 : 1 ≤ z38679 ∧ z38679 ≤ 7) : False := by omega
theorem vc_X12_tries_43 {f_k f_k2 z38109 : Int} (h0 : ¬ z38109 = 0) (h1 : z38109 = 0 ∨ f_k + 1 ≤ f_k2) (h2 : 0 ≤ f_k ∧ f_k ≤ 46656) (h3 : 0 ≤ f_k2 ∧ f_k2 ≤ 46656) (h4 : 0 ≤ z38109 ∧ z38109 ≤ 1) : 1 ≤ z38109 ∧ z38109 ≤ 1 := by omega
theorem vc_X12_tries_44 {f_hs f_k f_k2 f_k3 z38109 : Int} (h0 : f_k ≤ f_k2) (h1 : z38109 = 0 ∨ f_k + 1 ≤ f_k2) (h2 : f_k3 = f_k2 + f_hs) (h3 : ¬ z38109 = 0) (h4 : 0 ≤ f_hs ∧ f_hs ≤ 1) (h5 : 0 ≤ f_k ∧ f_k ≤ 46656) (h6 : 0 ≤ f_k2 ∧ f_k2 ≤ 46656) (h7 : 0 ≤ f_k3 ∧ f_k3 ≤ 46656) (h8 : 1 ≤ z38109 ∧ z38109 ≤ 1) : f_k ≤ f_k3 := by omega
theorem vc_X12_tries_45 {f_hs f_k f_k2 f_k3 z38109 : Int} (h0 : f_k ≤ f_k2) (h1 : z38109 = 0 ∨ f_k + 1 ≤ f_k2) (h2 : f_k3 = f_k2 + f_hs) (h3 : ¬ z38109 = 0) (h4 : 0 ≤ f_hs ∧ f_hs ≤ 1) (h5 : 0 ≤ f_k ∧ f_k ≤ 46656) (h6 : 0 ≤ f_k2 ∧ f_k2 ≤ 46656) (h7 : 0 ≤ f_k3 ∧ f_k3 ≤ 46656) (h8 : 1 ≤ z38109 ∧ z38109 ≤ 1) : (1 : Int) = 0 ∨ f_k + 1 ≤ f_k3 := by omega
theorem vc_X12_tries_46 {z36173 z36175 z36176 z38108 : Int} (h0 : z36173 ≤ z36176) (h1 : z36176 ≤ z36173) (h2 : z38108 < z36176) (h3 : 0 ≤ z38108) (h4 : z36175 ≤ z36173) (h5 : 1 ≤ z36173 ∧ z36173 ≤ 46656) (h6 : 0 ≤ z36175 ∧ z36175 ≤ 46656) (h7 : 1 ≤ z36176 ∧ z36176 ≤ 46656) (h8 : 0 ≤ z38108 ∧ z38108 ≤ 46655) : (z38108 + (-1)) < z36176 := by omega
theorem vc_X12_tries_47 {N z36173 z36176 z38108 : Int} (h0 : (z38108 - (-2)) < N + 1) (h1 : z38108 < z36176) (h2 : 0 ≤ z38108) (h3 : z36173 ≤ z36176) (h4 : z36176 ≤ z36173) (h5 : 1 ≤ z36173 ∧ z36173 ≤ 46656) (h6 : 1 ≤ z36176 ∧ z36176 ≤ 46656) (h7 : 0 ≤ z38108 ∧ z38108 ≤ 46655) : ((z38108 + (-1)) - (-2)) < N := by omega
theorem vc_X12_tries_48 {f_k f_k2 z38109 : Int} (h0 : z38109 = 0) (h1 : z38109 = 0 ∨ f_k + 1 ≤ f_k2) (h2 : 0 ≤ f_k ∧ f_k ≤ 46656) (h3 : 0 ≤ f_k2 ∧ f_k2 ≤ 46656) (h4 : 0 ≤ z38109 ∧ z38109 ≤ 1) : 0 ≤ z38109 ∧ z38109 ≤ 0 := by omega
theorem vc_X12_tries_49 {f_hs f_k2 f_k3 : Int} (h0 : f_hs = 0) (h1 : f_k3 = f_k2 + f_hs) (h2 : 0 ≤ f_hs ∧ f_hs ≤ 1) (h3 : 0 ≤ f_k2 ∧ f_k2 ≤ 46656) (h4 : 0 ≤ f_k3 ∧ f_k3 ≤ 46656) : 0 ≤ f_hs ∧ f_hs ≤ 0 := by omega
theorem vc_X12_tries_50 {f_hs f_k f_k2 f_k3 z38109 : Int} (h0 : f_k ≤ f_k2) (h1 : z38109 = 0 ∨ f_k + 1 ≤ f_k2) (h2 : f_k3 = f_k2 + f_hs) (h3 : z38109 = 0) (h4 : f_hs = 0) (h5 : 0 ≤ f_hs ∧ f_hs ≤ 0) (h6 : 0 ≤ f_k ∧ f_k ≤ 46656) (h7 : 0 ≤ f_k2 ∧ f_k2 ≤ 46656) (h8 : 0 ≤ f_k3 ∧ f_k3 ≤ 46656) (h9 : 0 ≤ z38109 ∧ z38109 ≤ 0) : f_k ≤ f_k3 := by omega
theorem vc_X12_tries_51 {f_hs f_k f_k2 f_k3 z38109 : Int} (h0 : f_k ≤ f_k2) (h1 : z38109 = 0 ∨ f_k + 1 ≤ f_k2) (h2 : f_k3 = f_k2 + f_hs) (h3 : z38109 = 0) (h4 : f_hs = 0) (h5 : 0 ≤ f_hs ∧ f_hs ≤ 0) (h6 : 0 ≤ f_k ∧ f_k ≤ 46656) (h7 : 0 ≤ f_k2 ∧ f_k2 ≤ 46656) (h8 : 0 ≤ f_k3 ∧ f_k3 ≤ 46656) (h9 : 0 ≤ z38109 ∧ z38109 ≤ 0) : (0 : Int) = 0 ∨ f_k + 1 ≤ f_k3 := by omega
theorem vc_X12_tries_52 {f_hs f_k2 f_k3 : Int} (h0 : ¬ f_hs = 0) (h1 : f_k3 = f_k2 + f_hs) (h2 : 0 ≤ f_hs ∧ f_hs ≤ 1) (h3 : 0 ≤ f_k2 ∧ f_k2 ≤ 46656) (h4 : 0 ≤ f_k3 ∧ f_k3 ≤ 46656) : 1 ≤ f_hs ∧ f_hs ≤ 1 := by omega
theorem vc_X12_tries_53 {f_hs f_k f_k2 f_k3 z38109 : Int} (h0 : f_k ≤ f_k2) (h1 : z38109 = 0 ∨ f_k + 1 ≤ f_k2) (h2 : f_k3 = f_k2 + f_hs) (h3 : z38109 = 0) (h4 : ¬ f_hs = 0) (h5 : 1 ≤ f_hs ∧ f_hs ≤ 1) (h6 : 0 ≤ f_k ∧ f_k ≤ 46656) (h7 : 0 ≤ f_k2 ∧ f_k2 ≤ 46656) (h8 : 0 ≤ f_k3 ∧ f_k3 ≤ 46656) (h9 : 0 ≤ z38109 ∧ z38109 ≤ 0) : f_k ≤ f_k3 := by omega
theorem vc_X12_tries_54 {f_hs f_k f_k2 f_k3 z38109 : Int} (h0 : f_k ≤ f_k2) (h1 : z38109 = 0 ∨ f_k + 1 ≤ f_k2) (h2 : f_k3 = f_k2 + f_hs) (h3 : z38109 = 0) (h4 : ¬ f_hs = 0) (h5 : 1 ≤ f_hs ∧ f_hs ≤ 1) (h6 : 0 ≤ f_k ∧ f_k ≤ 46656) (h7 : 0 ≤ f_k2 ∧ f_k2 ≤ 46656) (h8 : 0 ≤ f_k3 ∧ f_k3 ≤ 46656) (h9 : 0 ≤ z38109 ∧ z38109 ≤ 0) : (1 : Int) = 0 ∨ f_k + 1 ≤ f_k3 := by omega
theorem vc_X12_tries_55 {z38679 : Int} (h0 : 6 < z38679) (h1 : 1 ≤ z38679 ∧ z38679 ≤ 7) : 7 ≤ z38679 ∧ z38679 ≤ 7 := by omega
theorem vc_X12_tries_56 {z38679 : Int} (h0 : z38679 ≤ 6) (h1 : 1 ≤ z38679 ∧ z38679 ≤ 7) : 1 ≤ z38679 ∧ z38679 ≤ 6 := by omega
theorem vc_X12_tries_57 {z38374 z38396 : Int} (h0 : z38396 ≤ z38374) (h1 : 0 ≤ z38374 ∧ z38374 ≤ 5) (h2 : 0 ≤ z38396 ∧ z38396 ≤ 5) : z38396 ≤ z38374 := by omega
theorem vc_X12_tries_58 {z38377 z38398 : Int} (h0 : z38398 ≤ z38377) (h1 : 0 ≤ z38377 ∧ z38377 ≤ 5) (h2 : 0 ≤ z38398 ∧ z38398 ≤ 5) : z38398 ≤ z38377 := by omega
theorem vc_X12_tries_59 {z38380 z38400 : Int} (h0 : z38400 ≤ z38380) (h1 : 0 ≤ z38380 ∧ z38380 ≤ 5) (h2 : 0 ≤ z38400 ∧ z38400 ≤ 5) : z38400 ≤ z38380 := by omega
theorem vc_X12_tries_60 {z38383 z38402 : Int} (h0 : z38402 ≤ z38383) (h1 : 0 ≤ z38383 ∧ z38383 ≤ 5) (h2 : 0 ≤ z38402 ∧ z38402 ≤ 5) : z38402 ≤ z38383 := by omega
theorem vc_X12_tries_61 {z38386 z38404 : Int} (h0 : z38404 ≤ z38386) (h1 : 0 ≤ z38386 ∧ z38386 ≤ 5) (h2 : 0 ≤ z38404 ∧ z38404 ≤ 5) : z38404 ≤ z38386 := by omega
theorem vc_X12_tries_62 {z38389 z38406 : Int} (h0 : z38406 ≤ z38389) (h1 : 0 ≤ z38389 ∧ z38389 ≤ 5) (h2 : 0 ≤ z38406 ∧ z38406 ≤ 5) : z38406 ≤ z38389 := by omega
theorem vc_X12_tries_63 {z38679 : Int} (h0 : z38679 ≤ 6) (h1 : 1 ≤ z38679 ∧ z38679 ≤ 6) : 1 ≤ z38679 ∧ z38679 ≤ 6 := by omega
theorem vc_X12_tries_64 {z14 z23952 z38250 : Int} (h0 : z14 ≤ z23952) (h1 : 0 ≤ z38250 ∧ z38250 < z14) (h2 : 1 ≤ z14 ∧ z14 ≤ 46656) (h3 : 1 ≤ z23952 ∧ z23952 ≤ 46656) (h4 : 0 ≤ z38250 ∧ z38250 ≤ 46655) : 0 ≤ z38250 ∧ z38250 < z14 := by omega
theorem vc_X12_tries_65 {z38733 z38740 : Int} (h0 : z38740 ≤ z38733) (h1 : 0 ≤ z38733 ∧ z38733 ≤ 5) (h2 : 0 ≤ z38740 ∧ z38740 ≤ 5) : 0 ≤ z38733 := by omega
theorem vc_X12_tries_66 {z38733 z38740 : Int} (h0 : z38740 ≤ z38733) (h1 : 0 ≤ z38733 ∧ z38733 ≤ 5) (h2 : 0 ≤ z38740 ∧ z38740 ≤ 5) : 0 ≤ z38740 ∧ z38740 ≤ z38733 := by omega
theorem vc_X12_tries_67 {z14 z23952 z38250 z38747 : Int} (h0 : 0 ≤ z38250 ∧ z38250 < z14) (h1 : 0 ≤ (z38250 + z38747) ∧ (z38250 + z38747) < z14) (h2 : z14 ≤ z23952) (h3 : 1 ≤ z14 ∧ z14 ≤ 46656) (h4 : 1 ≤ z23952 ∧ z23952 ≤ 46656) (h5 : 0 ≤ z38250 ∧ z38250 ≤ 46655) (h6 : (-233280) ≤ z38747 ∧ z38747 ≤ 233280) : 0 ≤ (z38250 + z38747) ∧ (z38250 + z38747) < 46656 := by omega
theorem vc_X12_tries_68 {f_hs f_k f_k2 f_k3 z38109 z38751 : Int} (h0 : f_k ≤ f_k2) (h1 : z38109 = 0 ∨ f_k + 1 ≤ f_k2) (h2 : f_k3 = f_k2 + f_hs) (h3 : f_hs = 0) (h4 : 0 ≤ f_hs ∧ f_hs ≤ 0) (h5 : 0 ≤ f_k ∧ f_k ≤ 46656) (h6 : 0 ≤ f_k2 ∧ f_k2 ≤ 46656) (h7 : 0 ≤ f_k3 ∧ f_k3 ≤ 46656) (h8 : 0 ≤ z38109 ∧ z38109 ≤ 1) (h9 : 0 ≤ z38751 ∧ z38751 ≤ 1) : ((f_k3 + z38751) - f_hs) = f_k2 + z38751 := by omega
theorem vc_X12_tries_69 {N z38679 : Int} (h0 : (8 - z38679) < N + 1) (h1 : z38679 ≤ 6) (h2 : 1 ≤ z38679 ∧ z38679 ≤ 6) : (8 - (z38679 + 1)) < N := by omega
theorem vc_X12_tries_70 {f_k f_k2 z38109 z38254 : Int} (h0 : f_k ≤ f_k2) (h1 : z38109 = 0 ∨ f_k + 1 ≤ f_k2) (h2 : z38254 = 0) (h3 : 0 ≤ f_k ∧ f_k ≤ 46656) (h4 : 0 ≤ f_k2 ∧ f_k2 ≤ 46656) (h5 : 0 ≤ z38109 ∧ z38109 ≤ 1) (h6 : 0 ≤ z38254 ∧ z38254 ≤ 0) : f_k2 = f_k2 + z38254 := by omega
theorem vc_X12_tries_71  : (8 - 1) < ((8 : Nat) : Int) := by omega
theorem vc_X12_tries_72 {z38254 : Int} (h0 : ¬ z38254 = 0) (h1 : 0 ≤ z38254 ∧ z38254 ≤ 1) : 1 ≤ z38254 ∧ z38254 ≤ 1 := by omega
theorem vc_X12_tries_73 {f_k f_k2 z38109 : Int} (h0 : f_k ≤ f_k2) (h1 : z38109 = 0 ∨ f_k + 1 ≤ f_k2) (h2 : 0 ≤ f_k ∧ f_k ≤ 46656) (h3 : 0 ≤ f_k2 ∧ f_k2 ≤ 46656) (h4 : 0 ≤ z38109 ∧ z38109 ≤ 1) : f_k ≤ f_k2 := by omega
theorem vc_X12_tries_74 {f_k f_k2 z38109 : Int} (h0 : f_k ≤ f_k2) (h1 : z38109 = 0 ∨ f_k + 1 ≤ f_k2) (h2 : 0 ≤ f_k ∧ f_k ≤ 46656) (h3 : 0 ≤ f_k2 ∧ f_k2 ≤ 46656) (h4 : 0 ≤ z38109 ∧ z38109 ≤ 1) : z38109 = 0 ∨ f_k + 1 ≤ f_k2 := by omega
theorem vc_X12_tries_75 {f_k : Int} (h0 : 0 ≤ f_k ∧ f_k ≤ 46656) : f_k ≤ f_k := by omega
theorem vc_X12_tries_76 {f_k : Int} (h0 : 0 ≤ f_k ∧ f_k ≤ 46656) : (0 : Int) = 0 ∨ f_k + 1 ≤ f_k := by omega
theorem vc_X12_tries_77 {z36173 z36175 z36176 : Int} (h0 : z36173 ≤ z36176) (h1 : z36176 ≤ z36173) (h2 : z36175 ≤ z36173) (h3 : 1 ≤ z36173 ∧ z36173 ≤ 46656) (h4 : 0 ≤ z36175 ∧ z36175 ≤ 46656) (h5 : 1 ≤ z36176 ∧ z36176 ≤ 46656) : (z36176 - 1) < z36176 := by omega
theorem vc_X12_tries_78 {z36173 z36175 z36176 : Int} (h0 : z36173 ≤ z36176) (h1 : z36176 ≤ z36173) (h2 : z36175 ≤ z36173) (h3 : 1 ≤ z36173 ∧ z36173 ≤ 46656) (h4 : 0 ≤ z36175 ∧ z36175 ≤ 46656) (h5 : 1 ≤ z36176 ∧ z36176 ≤ 46656) : ((z36176 - 1) - (-2)) < ((46658 : Nat) : Int) := by omega
theorem vc_X12_tries_79 {z38758 : Int} (h0 : 0 ≤ z38758 ∧ z38758 ≤ 46656) : ((2 * (46656 - z38758)) + 1) < ((93314 : Nat) : Int) := by omega
theorem vc_X12_tries_80 {p1 z5 : Int} (h0 : p1 = 3) (h1 : (z5 = 1 → (0 : Int) ≤ p1 ∧ p1 ≤ (3 : Int))) (h2 : (z5 = 0 → p1 < (0 : Int) ∨ (3 : Int) < p1)) (h3 : (0 : Int) ≤ p1 ∧ p1 ≤ (3 : Int)) (h4 : ¬ p1 = 0) (h5 : ¬ p1 = 1) (h6 : 2 ≤ p1 ∧ p1 ≤ 3) (h7 : 1 ≤ z5 ∧ z5 ≤ 1) : 3 ≤ p1 ∧ p1 ≤ 3 := by omega
theorem vc_X12_tries_81 {p1 z5 : Int} (h0 : p1 = 1) (h1 : (z5 = 1 → (0 : Int) ≤ p1 ∧ p1 ≤ (3 : Int))) (h2 : (z5 = 0 → p1 < (0 : Int) ∨ (3 : Int) < p1)) (h3 : (0 : Int) ≤ p1 ∧ p1 ≤ (3 : Int)) (h4 : ¬ p1 = 0) (h5 : 1 ≤ p1 ∧ p1 ≤ 3) (h6 : 1 ≤ z5 ∧ z5 ≤ 1) : 1 ≤ p1 ∧ p1 ≤ 1 := by omega
theorem vc_X12_tries_82 {p1 z5 : Int} (h0 : p1 = 0) (h1 : (z5 = 1 → (0 : Int) ≤ p1 ∧ p1 ≤ (3 : Int))) (h2 : (z5 = 0 → p1 < (0 : Int) ∨ (3 : Int) < p1)) (h3 : (0 : Int) ≤ p1 ∧ p1 ≤ (3 : Int)) (h4 : 0 ≤ p1 ∧ p1 ≤ 3) (h5 : 1 ≤ z5 ∧ z5 ≤ 1) : 0 ≤ p1 ∧ p1 ≤ 0 := by omega
theorem vc_X12_tries_83 {z36173 z36175 z36176 : Int} (h0 : z36173 < z36176) (h1 : z36175 ≤ z36173) (h2 : z36173 ≤ z36176) (h3 : 0 ≤ z36173 ∧ z36173 ≤ 46656) (h4 : 0 ≤ z36175 ∧ z36175 ≤ 46656) (h5 : 1 ≤ z36176 ∧ z36176 ≤ 46656) : 0 ≤ z36173 ∧ z36173 ≤ 46655 := by omega
theorem vc_X12_tries_84 {z36173 z36175 z36176 : Int} (h0 : z36175 ≤ z36173) (h1 : z36173 ≤ z36176) (h2 : z36173 < z36176) (h3 : 0 ≤ z36173 ∧ z36173 ≤ 46655) (h4 : 0 ≤ z36175 ∧ z36175 ≤ 46656) (h5 : 1 ≤ z36176 ∧ z36176 ≤ 46656) : 0 ≤ z36173 := by omega
theorem vc_X12_tries_85 {z36173 z36175 z36176 : Int} (h0 : z36175 ≤ z36173) (h1 : z36173 ≤ z36176) (h2 : z36173 < z36176) (h3 : 0 ≤ z36173 ∧ z36173 ≤ 46655) (h4 : 0 ≤ z36175 ∧ z36175 ≤ 46656) (h5 : 1 ≤ z36176 ∧ z36176 ≤ 46656) : z36173 < z36176 := by omega
theorem vc_X12_tries_86 {z39120 : Int} (h0 : (8 - z39120) < ((0 : Nat) : Int)) (h1 : 1 ≤ z39120 ∧ z39120 ≤ 7) : False := by omega
theorem vc_X12_tries_87 {z39120 : Int} (h0 : 6 < z39120) (h1 : 1 ≤ z39120 ∧ z39120 ≤ 7) : 7 ≤ z39120 ∧ z39120 ≤ 7 := by omega
theorem vc_X12_tries_88 {z39121 : Int} (h0 : z39121 = 0) (h1 : 0 ≤ z39121 ∧ z39121 ≤ 1) : 0 ≤ z39121 ∧ z39121 ≤ 0 := by omega
theorem vc_X12_tries_89 {z36173 z36175 z36176 z39122 : Int} (h0 : z36175 ≤ z36173) (h1 : z36173 ≤ z36176) (h2 : z36173 < z36176) (h3 : z36173 < z39122) (h4 : 0 ≤ z36173 ∧ z36173 ≤ 46655) (h5 : 0 ≤ z36175 ∧ z36175 ≤ 46656) (h6 : 1 ≤ z36176 ∧ z36176 ≤ 46656) (h7 : 1 ≤ z39122 ∧ z39122 ≤ 46656) : z36175 ≤ (z36173 + 1) := by omega
theorem vc_X12_tries_90 {z36173 z36175 z36176 z39122 : Int} (h0 : z36175 ≤ z36173) (h1 : z36173 ≤ z36176) (h2 : z36173 < z36176) (h3 : z36173 < z39122) (h4 : 0 ≤ z36173 ∧ z36173 ≤ 46655) (h5 : 0 ≤ z36175 ∧ z36175 ≤ 46656) (h6 : 1 ≤ z36176 ∧ z36176 ≤ 46656) (h7 : 1 ≤ z39122 ∧ z39122 ≤ 46656) : (z36173 + 1) ≤ z39122 := by omega
theorem vc_X12_tries_91 {N z36173 z36175 z36176 z39122 : Int} (h0 : (46657 - z36173) < N + 1) (h1 : z36175 ≤ z36173) (h2 : z36173 ≤ z36176) (h3 : z36173 < z36176) (h4 : z36173 < z39122) (h5 : 0 ≤ z36173 ∧ z36173 ≤ 46655) (h6 : 0 ≤ z36175 ∧ z36175 ≤ 46656) (h7 : 1 ≤ z36176 ∧ z36176 ≤ 46656) (h8 : 1 ≤ z39122 ∧ z39122 ≤ 46656) : (46657 - (z36173 + 1)) < N := by omega
theorem vc_X12_tries_92 {z39121 : Int} (h0 : ¬ z39121 = 0) (h1 : 0 ≤ z39121 ∧ z39121 ≤ 1) : 1 ≤ z39121 ∧ z39121 ≤ 1 := by omega
theorem vc_X12_tries_93 {z36173 z36175 z36176 z39122 : Int} (h0 : z36175 ≤ z36173) (h1 : z36173 ≤ z36176) (h2 : z36173 < z36176) (h3 : z36173 < z39122) (h4 : 0 ≤ z36173 ∧ z36173 ≤ 46655) (h5 : 0 ≤ z36175 ∧ z36175 ≤ 46656) (h6 : 1 ≤ z36176 ∧ z36176 ≤ 46656) (h7 : 1 ≤ z39122 ∧ z39122 ≤ 46656) : 0 ≤ (z36175 + 1) ∧ (z36175 + 1) ≤ 46656 := by omega
theorem vc_X12_tries_94 {z36173 z36175 z36176 z39122 : Int} (h0 : z36175 ≤ z36173) (h1 : z36173 ≤ z36176) (h2 : z36173 < z36176) (h3 : z36173 < z39122) (h4 : 0 ≤ z36173 ∧ z36173 ≤ 46655) (h5 : 0 ≤ z36175 ∧ z36175 ≤ 46656) (h6 : 1 ≤ z36176 ∧ z36176 ≤ 46656) (h7 : 1 ≤ z39122 ∧ z39122 ≤ 46656) : (z36175 + 1) ≤ (z36173 + 1) := by omega
theorem vc_X12_tries_95 {z36174 : Int} (h0 : z36174 = (-99999999)) (h1 : (-2147483648) ≤ z36174 ∧ z36174 ≤ 2147483647) : (-99999999) ≤ z36174 ∧ z36174 ≤ (-99999999) := by omega
theorem vc_X12_tries_96 {z39120 : Int} (h0 : z39120 ≤ 6) (h1 : 1 ≤ z39120 ∧ z39120 ≤ 7) : 1 ≤ z39120 ∧ z39120 ≤ 6 := by omega
theorem vc_X12_tries_97 {z38769 z38791 : Int} (h0 : z38791 ≤ z38769) (h1 : 0 ≤ z38769 ∧ z38769 ≤ 5) (h2 : 0 ≤ z38791 ∧ z38791 ≤ 5) : z38791 ≤ z38769 := by omega
theorem vc_X12_tries_98 {z38772 z38793 : Int} (h0 : z38793 ≤ z38772) (h1 : 0 ≤ z38772 ∧ z38772 ≤ 5) (h2 : 0 ≤ z38793 ∧ z38793 ≤ 5) : z38793 ≤ z38772 := by omega
theorem vc_X12_tries_99 {z38775 z38795 : Int} (h0 : z38795 ≤ z38775) (h1 : 0 ≤ z38775 ∧ z38775 ≤ 5) (h2 : 0 ≤ z38795 ∧ z38795 ≤ 5) : z38795 ≤ z38775 := by omega
theorem vc_X12_tries_100 {z38778 z38797 : Int} (h0 : z38797 ≤ z38778) (h1 : 0 ≤ z38778 ∧ z38778 ≤ 5) (h2 : 0 ≤ z38797 ∧ z38797 ≤ 5) : z38797 ≤ z38778 := by omega
theorem vc_X12_tries_101 {z38781 z38799 : Int} (h0 : z38799 ≤ z38781) (h1 : 0 ≤ z38781 ∧ z38781 ≤ 5) (h2 : 0 ≤ z38799 ∧ z38799 ≤ 5) : z38799 ≤ z38781 := by omega
theorem vc_X12_tries_102 {z38784 z38801 : Int} (h0 : z38801 ≤ z38784) (h1 : 0 ≤ z38784 ∧ z38784 ≤ 5) (h2 : 0 ≤ z38801 ∧ z38801 ≤ 5) : z38801 ≤ z38784 := by omega
theorem vc_X12_tries_103 {z39120 : Int} (h0 : z39120 ≤ 6) (h1 : 1 ≤ z39120 ∧ z39120 ≤ 6) : 1 ≤ z39120 ∧ z39120 ≤ 6 := by omega
theorem vc_X12_tries_104 {z14 z23952 z38765 : Int} (h0 : z14 ≤ z23952) (h1 : 0 ≤ z38765 ∧ z38765 < z14) (h2 : 1 ≤ z14 ∧ z14 ≤ 46656) (h3 : 1 ≤ z23952 ∧ z23952 ≤ 46656) (h4 : 0 ≤ z38765 ∧ z38765 ≤ 46655) : 0 ≤ z38765 ∧ z38765 < z14 := by omega
theorem vc_X12_tries_105 {z39196 z39203 z39204 : Int} (h0 : z39203 ≤ z39196) (h1 : ¬ z39203 = z39204) (h2 : 0 ≤ z39196 ∧ z39196 ≤ 5) (h3 : 0 ≤ z39203 ∧ z39203 ≤ 5) (h4 : 0 ≤ z39204 ∧ z39204 ≤ 5) : 0 ≤ z39196 := by omega
theorem vc_X12_tries_106 {z39196 z39203 z39204 : Int} (h0 : z39203 ≤ z39196) (h1 : ¬ z39203 = z39204) (h2 : 0 ≤ z39196 ∧ z39196 ≤ 5) (h3 : 0 ≤ z39203 ∧ z39203 ≤ 5) (h4 : 0 ≤ z39204 ∧ z39204 ≤ 5) : 0 ≤ z39203 ∧ z39203 ≤ z39196 := by omega
theorem vc_X12_tries_107 {z14 z23952 z38765 z39211 : Int} (h0 : 0 ≤ z38765 ∧ z38765 < z14) (h1 : 0 ≤ (z38765 + z39211) ∧ (z38765 + z39211) < z14) (h2 : z14 ≤ z23952) (h3 : 1 ≤ z14 ∧ z14 ≤ 46656) (h4 : 1 ≤ z23952 ∧ z23952 ≤ 46656) (h5 : 0 ≤ z38765 ∧ z38765 ≤ 46655) (h6 : (-233280) ≤ z39211 ∧ z39211 ≤ 233280) : 0 ≤ (z38765 + z39211) ∧ (z38765 + z39211) < 46656 := by omega
theorem vc_X12_tries_108 {z39215 : Int} (h0 : 0 ≤ z39215) (h1 : (-2147483648) ≤ z39215 ∧ z39215 ≤ 2147483647) : 0 ≤ z39215 ∧ z39215 ≤ 2147483647 := by omega
theorem vc_X12_tries_109 {z36173 z36175 z36176 z39122 : Int} (h0 : z36175 ≤ z36173) (h1 : z36173 ≤ z36176) (h2 : z36173 < z36176) (h3 : z36173 < z39122) (h4 : 0 ≤ z36173 ∧ z36173 ≤ 46655) (h5 : 0 ≤ z36175 ∧ z36175 ≤ 46656) (h6 : 1 ≤ z36176 ∧ z36176 ≤ 46656) (h7 : 1 ≤ z39122 ∧ z39122 ≤ 46656) : z36173 < z39122 := by omega
theorem vc_X12_tries_110 {N z39120 : Int} (h0 : (8 - z39120) < N + 1) (h1 : z39120 ≤ 6) (h2 : 1 ≤ z39120 ∧ z39120 ≤ 6) : (8 - (z39120 + 1)) < N := by omega
theorem vc_X12_tries_111 {z39215 : Int} (h0 : z39215 < 0) (h1 : (-2147483648) ≤ z39215 ∧ z39215 ≤ 2147483647) : (-2147483648) ≤ z39215 ∧ z39215 ≤ (-1) := by omega
theorem vc_X12_tries_112 {z36173 z36175 z36176 z39122 : Int} (h0 : z36173 < z39122) (h1 : z36175 ≤ z36173) (h2 : z36173 ≤ z36176) (h3 : z36173 < z36176) (h4 : 0 ≤ z36173 ∧ z36173 ≤ 46655) (h5 : 0 ≤ z36175 ∧ z36175 ≤ 46656) (h6 : 1 ≤ z36176 ∧ z36176 ≤ 46656) (h7 : 1 ≤ z39122 ∧ z39122 ≤ 46656) : 0 ≤ z39122 := by omega
theorem vc_X12_tries_113 {z14 z23952 z38765 z39211 : Int} (h0 : z14 ≤ z23952) (h1 : 0 ≤ z38765 ∧ z38765 < z14) (h2 : 0 ≤ (z38765 + z39211) ∧ (z38765 + z39211) < z14) (h3 : 1 ≤ z14 ∧ z14 ≤ 46656) (h4 : 1 ≤ z23952 ∧ z23952 ≤ 46656) (h5 : 0 ≤ z38765 ∧ z38765 ≤ 46655) (h6 : (-233280) ≤ z39211 ∧ z39211 ≤ 233280) : 0 ≤ (z38765 + z39211) ∧ (z38765 + z39211) < z14 := by omega
theorem vc_X12_tries_114 {z39215 : Int} (h0 : z39215 < 0) (h1 : (-2147483648) ≤ z39215 ∧ z39215 ≤ (-1)) : z39215 < 0 := by omega
theorem vc_X12_tries_115 {z14 z36173 z36175 z36176 z39122 : Int} (h0 : z36175 ≤ z36173) (h1 : z36173 ≤ z36176) (h2 : z36173 < z36176) (h3 : z36173 < z39122) (h4 : z39122 < z14) (h5 : 1 ≤ z14 ∧ z14 ≤ 46656) (h6 : 0 ≤ z36173 ∧ z36173 ≤ 46655) (h7 : 0 ≤ z36175 ∧ z36175 ≤ 46656) (h8 : 1 ≤ z36176 ∧ z36176 ≤ 46656) (h9 : 1 ≤ z39122 ∧ z39122 ≤ 46656) : 0 ≤ z36173 := by omega
theorem vc_X12_tries_116 {z14 z23952 z36173 z36175 z36176 z38765 z39122 z39211 : Int} (h0 : z36175 ≤ z36173) (h1 : z36173 ≤ z36176) (h2 : z36173 < z36176) (h3 : z36173 < z39122) (h4 : z39122 < z14) (h5 : z14 ≤ z23952) (h6 : 0 ≤ z38765 ∧ z38765 < z14) (h7 : 0 ≤ (z38765 + z39211) ∧ (z38765 + z39211) < z14) (h8 : 1 ≤ z14 ∧ z14 ≤ 46656) (h9 : 1 ≤ z23952 ∧ z23952 ≤ 46656) (h10 : 0 ≤ z36173 ∧ z36173 ≤ 46655) (h11 : 0 ≤ z36175 ∧ z36175 ≤ 46656) (h12 : 1 ≤ z36176 ∧ z36176 ≤ 46656) (h13 : 0 ≤ z38765 ∧ z38765 ≤ 46655) (h14 : 1 ≤ z39122 ∧ z39122 ≤ 46656) (h15 : (-233280) ≤ z39211 ∧ z39211 ≤ 233280) : z36173 < z39122 := by omega
theorem vc_X12_tries_117 {z14 z36173 z36175 z36176 z39122 z39222 : Int} (h0 : z36175 ≤ z36173) (h1 : z36173 ≤ z36176) (h2 : z36173 < z36176) (h3 : z36173 < z39122) (h4 : 0 ≤ z39222 ∧ z39222 ≤ z36173) (h5 : z39122 < z14) (h6 : 1 ≤ z14 ∧ z14 ≤ 46656) (h7 : 0 ≤ z36173 ∧ z36173 ≤ 46655) (h8 : 0 ≤ z36175 ∧ z36175 ≤ 46656) (h9 : 1 ≤ z36176 ∧ z36176 ≤ 46656) (h10 : 1 ≤ z39122 ∧ z39122 ≤ 46656) (h11 : (-2147483648) ≤ z39222 ∧ z39222 ≤ 2147483647) : 0 ≤ z39222 ∧ z39222 ≤ 46656 := by omega
theorem vc_X12_tries_118 {z14 z23952 z38765 z39122 z39211 : Int} (h0 : 0 ≤ z38765 ∧ z38765 < z14) (h1 : 0 ≤ (z38765 + z39211) ∧ (z38765 + z39211) < z14) (h2 : z14 ≤ z23952) (h3 : z39122 < z14) (h4 : 1 ≤ z14 ∧ z14 ≤ 46656) (h5 : 1 ≤ z23952 ∧ z23952 ≤ 46656) (h6 : 0 ≤ z38765 ∧ z38765 ≤ 46655) (h7 : 1 ≤ z39122 ∧ z39122 ≤ 46656) (h8 : (-233280) ≤ z39211 ∧ z39211 ≤ 233280) : 0 ≤ (z38765 + z39211) ∧ (z38765 + z39211) < 46656 := by omega
theorem vc_X12_tries_119 {z14 z23952 z36173 z36175 z36176 z38765 z39122 z39211 z39222 : Int} (h0 : z36173 < z39122) (h1 : z39122 < z14) (h2 : z14 ≤ z23952) (h3 : z36175 ≤ z36173) (h4 : z36173 ≤ z36176) (h5 : z36173 < z36176) (h6 : 0 ≤ z38765 ∧ z38765 < z14) (h7 : 0 ≤ (z38765 + z39211) ∧ (z38765 + z39211) < z14) (h8 : 0 ≤ z39222 ∧ z39222 ≤ z36173) (h9 : 1 ≤ z14 ∧ z14 ≤ 46656) (h10 : 1 ≤ z23952 ∧ z23952 ≤ 46656) (h11 : 0 ≤ z36173 ∧ z36173 ≤ 46655) (h12 : 0 ≤ z36175 ∧ z36175 ≤ 46656) (h13 : 1 ≤ z36176 ∧ z36176 ≤ 46656) (h14 : 0 ≤ z38765 ∧ z38765 ≤ 46655) (h15 : 1 ≤ z39122 ∧ z39122 ≤ 46656) (h16 : (-233280) ≤ z39211 ∧ z39211 ≤ 233280) (h17 : 0 ≤ z39222 ∧ z39222 ≤ 46656) : 0 ≤ z39122 ∧ z39122 < 46656 := by omega
theorem vc_X12_tries_120 {z14 z23952 z38765 z39122 z39211 : Int} (h0 : 0 ≤ z38765 ∧ z38765 < z14) (h1 : 0 ≤ (z38765 + z39211) ∧ (z38765 + z39211) < z14) (h2 : z14 ≤ z23952) (h3 : z39122 < z14) (h4 : 1 ≤ z14 ∧ z14 ≤ 46656) (h5 : 1 ≤ z23952 ∧ z23952 ≤ 46656) (h6 : 0 ≤ z38765 ∧ z38765 ≤ 46655) (h7 : 1 ≤ z39122 ∧ z39122 ≤ 46656) (h8 : (-233280) ≤ z39211 ∧ z39211 ≤ 233280) : 0 ≤ (z38765 + z39211) ∧ (z38765 + z39211) ≤ 46655 := by omega
theorem vc_X12_tries_121 {z14 z23952 z36173 z36175 z36176 z38765 z39122 z39211 z39222 : Int} (h0 : z36173 < z39122) (h1 : z39122 < z14) (h2 : z14 ≤ z23952) (h3 : z36175 ≤ z36173) (h4 : z36173 ≤ z36176) (h5 : z36173 < z36176) (h6 : 0 ≤ z38765 ∧ z38765 < z14) (h7 : 0 ≤ (z38765 + z39211) ∧ (z38765 + z39211) < z14) (h8 : 0 ≤ z39222 ∧ z39222 ≤ z36173) (h9 : 1 ≤ z14 ∧ z14 ≤ 46656) (h10 : 1 ≤ z23952 ∧ z23952 ≤ 46656) (h11 : 0 ≤ z36173 ∧ z36173 ≤ 46655) (h12 : 0 ≤ z36175 ∧ z36175 ≤ 46656) (h13 : 1 ≤ z36176 ∧ z36176 ≤ 46656) (h14 : 0 ≤ z38765 ∧ z38765 ≤ 46655) (h15 : 1 ≤ z39122 ∧ z39122 ≤ 46656) (h16 : (-233280) ≤ z39211 ∧ z39211 ≤ 233280) (h17 : 0 ≤ z39222 ∧ z39222 ≤ 46656) : 0 ≤ z39122 := by omega
theorem vc_X12_tries_122 {z14 z23952 z36173 z38765 z39122 z39211 : Int} (h0 : z14 ≤ z23952) (h1 : 0 ≤ z38765 ∧ z38765 < z14) (h2 : 0 ≤ (z38765 + z39211) ∧ (z38765 + z39211) < z14) (h3 : z39122 < z14) (h4 : z36173 < z39122) (h5 : 1 ≤ z14 ∧ z14 ≤ 46656) (h6 : 1 ≤ z23952 ∧ z23952 ≤ 46656) (h7 : 0 ≤ z36173 ∧ z36173 ≤ 46655) (h8 : 0 ≤ z38765 ∧ z38765 ≤ 46655) (h9 : 1 ≤ z39122 ∧ z39122 ≤ 46656) (h10 : (-233280) ≤ z39211 ∧ z39211 ≤ 233280) : 0 ≤ (z38765 + z39211) ∧ (z38765 + z39211) < z14 := by omega
theorem vc_X12_tries_123 {z14 z23952 z36173 z36175 z36176 z38765 z39122 z39211 z39222 : Int} (h0 : z36173 < z39122) (h1 : z39122 < z14) (h2 : 0 ≤ z39222 ∧ z39222 ≤ z36173) (h3 : z14 ≤ z23952) (h4 : z36175 ≤ z36173) (h5 : z36173 ≤ z36176) (h6 : z36173 < z36176) (h7 : 0 ≤ z38765 ∧ z38765 < z14) (h8 : 0 ≤ (z38765 + z39211) ∧ (z38765 + z39211) < z14) (h9 : 1 ≤ z14 ∧ z14 ≤ 46656) (h10 : 1 ≤ z23952 ∧ z23952 ≤ 46656) (h11 : 0 ≤ z36173 ∧ z36173 ≤ 46655) (h12 : 0 ≤ z36175 ∧ z36175 ≤ 46656) (h13 : 1 ≤ z36176 ∧ z36176 ≤ 46656) (h14 : 0 ≤ z38765 ∧ z38765 ≤ 46655) (h15 : 1 ≤ z39122 ∧ z39122 ≤ 46656) (h16 : (-233280) ≤ z39211 ∧ z39211 ≤ 233280) (h17 : 0 ≤ z39222 ∧ z39222 ≤ 46656) : 0 ≤ (z39222 + 1) ∧ (z39222 + 1) ≤ z39122 := by omega
theorem vc_X12_tries_124 {z14 z23952 z36173 z36175 z36176 z38765 z39122 z39211 z39222 : Int} (h0 : z36175 ≤ z36173) (h1 : z36173 ≤ z36176) (h2 : z36173 < z36176) (h3 : z36173 < z39122) (h4 : z39122 < z14) (h5 : 0 ≤ z39222 ∧ z39222 ≤ z36173) (h6 : z14 ≤ z23952) (h7 : 0 ≤ z38765 ∧ z38765 < z14) (h8 : 0 ≤ (z38765 + z39211) ∧ (z38765 + z39211) < z14) (h9 : 1 ≤ z14 ∧ z14 ≤ 46656) (h10 : 1 ≤ z23952 ∧ z23952 ≤ 46656) (h11 : 0 ≤ z36173 ∧ z36173 ≤ 46655) (h12 : 0 ≤ z36175 ∧ z36175 ≤ 46656) (h13 : 1 ≤ z36176 ∧ z36176 ≤ 46656) (h14 : 0 ≤ z38765 ∧ z38765 ≤ 46655) (h15 : 1 ≤ z39122 ∧ z39122 ≤ 46656) (h16 : (-233280) ≤ z39211 ∧ z39211 ≤ 233280) (h17 : 0 ≤ z39222 ∧ z39222 ≤ 46656) : z36173.toNat ≠ z39122.toNat := by omega
theorem vc_X12_tries_125 {z14 z23952 z36173 z36175 z36176 z38765 z39122 z39211 z39222 : Int} (h0 : z36173 < z39122) (h1 : z39122 < z14) (h2 : z14 ≤ z23952) (h3 : z36175 ≤ z36173) (h4 : z36173 ≤ z36176) (h5 : z36173 < z36176) (h6 : 0 ≤ z38765 ∧ z38765 < z14) (h7 : 0 ≤ (z38765 + z39211) ∧ (z38765 + z39211) < z14) (h8 : 0 ≤ z39222 ∧ z39222 ≤ z36173) (h9 : 1 ≤ z14 ∧ z14 ≤ 46656) (h10 : 1 ≤ z23952 ∧ z23952 ≤ 46656) (h11 : 0 ≤ z36173 ∧ z36173 ≤ 46655) (h12 : 0 ≤ z36175 ∧ z36175 ≤ 46656) (h13 : 1 ≤ z36176 ∧ z36176 ≤ 46656) (h14 : 0 ≤ z38765 ∧ z38765 ≤ 46655) (h15 : 1 ≤ z39122 ∧ z39122 ≤ 46656) (h16 : (-233280) ≤ z39211 ∧ z39211 ≤ 233280) (h17 : 0 ≤ z39222 ∧ z39222 ≤ 46656) : 1 ≤ (z39122 + 1) ∧ (z39122 + 1) ≤ 46656 := by omega
theorem vc_X12_tries_126 {z14 z23952 z36173 z36175 z36176 z38765 z39122 z39211 z39222 : Int} (h0 : z36175 ≤ z36173) (h1 : z36173 ≤ z36176) (h2 : z36173 < z36176) (h3 : z36173 < z39122) (h4 : z39122 < z14) (h5 : 0 ≤ z39222 ∧ z39222 ≤ z36173) (h6 : z14 ≤ z23952) (h7 : 0 ≤ z38765 ∧ z38765 < z14) (h8 : 0 ≤ (z38765 + z39211) ∧ (z38765 + z39211) < z14) (h9 : 1 ≤ z14 ∧ z14 ≤ 46656) (h10 : 1 ≤ z23952 ∧ z23952 ≤ 46656) (h11 : 0 ≤ z36173 ∧ z36173 ≤ 46655) (h12 : 0 ≤ z36175 ∧ z36175 ≤ 46656) (h13 : 1 ≤ z36176 ∧ z36176 ≤ 46656) (h14 : 0 ≤ z38765 ∧ z38765 ≤ 46655) (h15 : 1 ≤ z39122 ∧ z39122 ≤ 46656) (h16 : (-233280) ≤ z39211 ∧ z39211 ≤ 233280) (h17 : 0 ≤ z39222 ∧ z39222 ≤ 46656) : z36173 < (z39122 + 1) := by omega
theorem vc_X12_tries_127  : ((0 : Int) : Int) ≤ ((0 : Int) : Int) := by omega
theorem vc_X12_tries_128  : ((0 : Int) : Int) ≤ ((1 : Int) : Int) := by omega
theorem vc_X12_tries_129 {z14 z23952 : Int} (h0 : z23952 < z14) (h1 : 1 ≤ z14 ∧ z14 ≤ 46656) (h2 : 0 ≤ z23952 ∧ z23952 ≤ 46656) : 0 ≤ z23952 ∧ z23952 ≤ 46655 := by omega
theorem vc_X12_tries_130 {N z14 z23952 : Int} (h0 : (46657 - z23952) < N + 1) (h1 : z23952 < z14) (h2 : 1 ≤ z14 ∧ z14 ≤ 46656) (h3 : 0 ≤ z23952 ∧ z23952 ≤ 46655) : (46657 - (z23952 + 1)) < N := by omega
theorem vc_X12_tries_131 {p1 z5 : Int} (h0 : z5 = 0) (h1 : (z5 = 1 → (0 : Int) ≤ p1 ∧ p1 ≤ (3 : Int))) (h2 : (z5 = 0 → p1 < (0 : Int) ∨ (3 : Int) < p1)) (h3 : (-2147483648) ≤ p1 ∧ p1 ≤ 2147483647) (h4 : 0 ≤ z5 ∧ z5 ≤ 1) : 0 ≤ z5 ∧ z5 ≤ 0 := by omega
theorem vc_X12_tries_132 {p1 z5 : Int} (h0 : (z5 = 1 → (0 : Int) ≤ p1 ∧ p1 ≤ (3 : Int))) (h1 : (z5 = 0 → p1 < (0 : Int) ∨ (3 : Int) < p1)) (h2 : z5 = 0) (h3 : (-2147483648) ≤ p1 ∧ p1 ≤ 2147483647) (h4 : 0 ≤ z5 ∧ z5 ≤ 0) : z5 = 0 := by omega
set_option maxRecDepth 4000 in
set_option maxHeartbeats 4000000 in
theorem c_X12_tries {l : Launch} {D : va_G} {c : Nat → ClassId} {H0 : Heap} {sa : Nat × Nat × (Nat → Int32)} {w : mW} {μ : mM} (hw : mWF w) (hT : mT w μ) {p1 : Int} (hp1 : (-2147483648) ≤ p1 ∧ p1 ≤ 2147483647) : sC (gG l D c H0 sa) mX12_tries 3 0 0 [.ref 106, iv p1] (mk w μ) (qI w [187999, 188999, 189999, 190999, 191999] μ (fun z μ1 => ((-2147483648) ≤ z ∧ z ≤ 2147483647) ∧ True)) := by
  refine sC.of rfl (by decide) (le_t rfl) ?_
  refine mr_lvE (lv' := [(0, .ref 106), (1, iv p1)]) rfl ?_
  refine mr_iload_n (pc := 0) (z := p1) dX12_tries_0 rfl rfl ?_
  refine mr_iconst (pc := 1) (z := 0) dX12_tries_1 ?_
  refine mr_iconst (pc := 2) (z := 3) dX12_tries_2 ?_
  refine mr_cSP (pc := 3) (c_X12_in hw hT hp1 (rW (c := (-2147483648)) (d := 2147483647) (rR (x := 0)) rfl) (rW (c := (-2147483648)) (d := 2147483647) (rR (x := 3)) rfl)) (gOk _ _ _ _ _) dX12_tries_3 (tX12_in _ _ _ _ _) wS_X12_in wM_X12_18 ⟨le_t rfl, le_t rfl⟩ ⟨le_t rfl, le_t rfl⟩ rfl (le_t rfl) fun z5 h4 => ?_
  refine mr_if_ne (pc := 6) (tgt := 11) dX12_tries_6 (by decide) (r32 h4.1 rfl) (fun h6 => ?_) (fun h6 => ?_)
  · have h7 : 1 ≤ z5 ∧ z5 ≤ 1 := (vc_X12_tries_1 h6 h4.2.1 h4.2.2.1 hp1 h4.1)
    have h8 : (0 : Int) ≤ p1 ∧ p1 ≤ (3 : Int) := (h4.2.1 (vc_X12_tries_2 h4.2.1 h4.2.2.1 h6 hp1 h7))
    have h9 : 0 ≤ p1 ∧ p1 ≤ 3 := (vc_X12_tries_3 h8 h4.2.1 h4.2.2.1 hp1 h7)
    refine sv_aload_n (pc := 11) dX12_tries_11 rfl rfl ?_
    refine mr_cVI (pc := 12) (c_X12_states_r hw hT) (gOk _ _ _ _ _) dX12_tries_12 (tX12_states _ _ _ _ _) ⟨wV_X12_states, wL_X12_states⟩ wM_X12_728 (gCX12 _ _ _ _ _) rfl (A_106 hw) rfl ⟨le_t rfl, le_t rfl⟩ ⟨le_t rfl, le_t rfl⟩ rfl (le_t rfl) fun z14 μ10 T11 F12 h13 => ?_
    obtain ⟨z15, z17, z19, z21, z23, z25, q16, q18, q20, q22, q24, q26, h27⟩ := h13
    have h28 : (0 ≤ z15 ∧ z15 ≤ 46656) := by rw [← q16]; exact T11 187 187 (A_187 hw) ((1 : Int).toNat)
    have h29 : (0 ≤ z17 ∧ z17 ≤ 46656) := by rw [← q18]; exact T11 187 187 (A_187 hw) ((2 : Int).toNat)
    have h30 : (0 ≤ z19 ∧ z19 ≤ 46656) := by rw [← q20]; exact T11 187 187 (A_187 hw) ((3 : Int).toNat)
    have h31 : (0 ≤ z21 ∧ z21 ≤ 46656) := by rw [← q22]; exact T11 187 187 (A_187 hw) ((4 : Int).toNat)
    have h32 : (0 ≤ z23 ∧ z23 ≤ 46656) := by rw [← q24]; exact T11 187 187 (A_187 hw) ((5 : Int).toNat)
    have h33 : (0 ≤ z25 ∧ z25 ≤ 46656) := by rw [← q26]; exact T11 187 187 (A_187 hw) ((6 : Int).toNat)
    have h34 : 1 ≤ z15 ∧ z15 ≤ 46656 := (vc_X12_tries_4 h27.2.1 h28)
    have h35 : 1 ≤ z17 ∧ z17 ≤ 46656 := (vc_X12_tries_5 h27.2.2.1 h29)
    have h36 : 1 ≤ z19 ∧ z19 ≤ 46656 := (vc_X12_tries_6 h27.2.2.2.1 h30)
    have h37 : 1 ≤ z21 ∧ z21 ≤ 46656 := (vc_X12_tries_7 h27.2.2.2.2.1 h31)
    have h38 : 1 ≤ z23 ∧ z23 ≤ 46656 := (vc_X12_tries_8 h27.2.2.2.2.2.1 h32)
    have h39 : 1 ≤ z25 ∧ z25 ≤ 46656 := (vc_X12_tries_9 h27.2.2.2.2.2.2.1 h33)
    refine mr_istore_n (pc := 15) (lv' := [(2, iv z14), (0, .ref 106), (1, iv p1)]) dX12_tries_15 rfl (by decide) rfl ?_
    refine mr_iconst (pc := 16) (z := 0) dX12_tries_16 ?_
    refine mr_istore_n (pc := 17) (lv' := [(3, iv 0), (2, iv z14), (0, .ref 106), (1, iv p1)]) dX12_tries_17 rfl (by decide) rfl ?_
    have L23954 : ∀ (nL23954 : Nat) (z23952 : Int) (μ23953 : mM), mT w μ23953 → mF [189999, 191999] w μ10 μ23953 → (0 ≤ z23952 ∧ z23952 ≤ 46656) → (46657 - z23952) < (nL23954 : Int) → sV (gG l D c H0 sa) mX12_tries (sRm 3 0 0) (sZ (gG l D c H0 sa) 0 0 (qI w [187999, 188999, 189999, 190999, 191999] μ (fun z μ1 => ((-2147483648) ≤ z ∧ z ≤ 2147483647) ∧ True))) 18 [(0, .ref 106), (1, iv p1), (2, iv z14), (3, iv z23952)] [] (mk w μ23953) 0 0 := by
      intro nL23954
      induction nL23954 with
      | zero => intro z23952 μ23953 T23956 F23957 h23955 h23959; exact ((vc_X12_tries_10 h23959 h23955)).elim
      | succ nL23954 ih23960 =>
        intro z23952 μ23953 T23956 F23957 h23955 h23959
        refine mr_iload_n (pc := 18) (z := z23952) dX12_tries_18 rfl rfl ?_
        refine mr_iload_n (pc := 19) (z := z14) dX12_tries_19 rfl rfl ?_
        refine mr_icmp_ge (pc := 20) (tgt := 43) dX12_tries_20 (by decide) (r32 h23955 rfl) (r32 h27.1 rfl) (fun h23969 => ?_) (fun h23969 => ?_)
        · have h23970 : 1 ≤ z23952 ∧ z23952 ≤ 46656 := (vc_X12_tries_11 h23969 h27.1 h23955)
          refine mr_iconst (pc := 43) (z := 0) dX12_tries_43 ?_
          refine mr_istore_n (pc := 44) (lv' := [(3, iv 0), (0, .ref 106), (1, iv p1), (2, iv z14)]) dX12_tries_44 rfl (by decide) rfl ?_
          refine sv_aload_n (pc := 45) dX12_tries_45 rfl rfl ?_
          refine gf_X12_124 (pc := 46) dX12_tries_46 wF_X12_533 (A_106 hw) T23956 ?_
          refine mr_iload_n (pc := 49) (z := 0) dX12_tries_49 rfl rfl ?_
          refine mr_iload_n (pc := 50) (z := z14) dX12_tries_50 rfl rfl ?_
          refine mr_iconst (pc := 51) (z := 1) dX12_tries_51 ?_
          refine mr_isub (pc := 52) (x := z14) (y := 1) dX12_tries_52 ?_
          refine ss_190 (pc := 53) dX12_tries_53 (A_190 hw) T23956 (rIx (n := 46656) (rR (x := 0)) rfl) (rSub (e := 0) (f := 46655) h27.1 (rR (x := 1)) rfl) fun μ23971 u23972 T23973 => ?_
          refine sv_aload_n (pc := 54) dX12_tries_54 rfl rfl ?_
          refine gf_X12_123 (pc := 55) dX12_tries_55 wF_X12_530 (A_106 hw) T23973 ?_
          refine mr_iload_n (pc := 58) (z := z14) dX12_tries_58 rfl rfl ?_
          refine mr_iconst (pc := 59) (z := 1) dX12_tries_59 ?_
          refine mr_isub (pc := 60) (x := z14) (y := 1) dX12_tries_60 ?_
          refine mr_iconst (pc := 61) (z := 0) dX12_tries_61 ?_
          refine ss_189 (pc := 62) dX12_tries_62 (A_189 hw) T23973 (rIx (n := 46656) (rSub (e := 0) (f := 46655) h27.1 (rR (x := 1)) rfl) rfl) (rW (c := (-2147483648)) (d := 2147483647) (rR (x := 0)) rfl) fun μ23974 u23975 T23976 => ?_
          have Q23977 : quOK μ23974 1 z14 := quOK.init (vc_X12_tries_12 h23969 h27.1 h23970) (vc_X12_tries_13 h23969 h27.1 h23970) u23972 u23975
          refine mr_iinc (pc := 63) (lv' := [(3, iv 1), (0, .ref 106), (1, iv p1), (2, iv z14)]) dX12_tries_63 rfl (by decide) rfl ?_
          refine mr_iconst (pc := 66) (z := 0) dX12_tries_66 ?_
          refine mr_istore (pc := 67) (lv' := [(4, iv 0), (3, iv 1), (0, .ref 106), (1, iv p1), (2, iv z14)]) dX12_tries_67 (by decide) rfl ?_
          refine mr_ldc (pc := 69) (z := (-99999999)) dX12_tries_69 wG_X12_29 (by decide) ?_
          refine mr_istore (pc := 71) (lv' := [(5, iv (-99999999)), (4, iv 0), (3, iv 1), (0, .ref 106), (1, iv p1), (2, iv z14)]) dX12_tries_71 (by decide) rfl ?_
          refine mr_iconst (pc := 73) (z := 0) dX12_tries_73 ?_
          refine mr_istore (pc := 74) (lv' := [(6, iv 0), (5, iv (-99999999)), (4, iv 0), (3, iv 1), (0, .ref 106), (1, iv p1), (2, iv z14)]) dX12_tries_74 (by decide) rfl ?_
          have L36178 : ∀ (nL36178 : Nat) (z36176 z36175 z36174 z36173 : Int) (μ36177 : mM), mT w μ36177 → mF [188999, 189999, 190999, 191999] w μ23974 μ36177 → (1 ≤ z36176 ∧ z36176 ≤ 46656) → (0 ≤ z36175 ∧ z36175 ≤ 46656) → ((-2147483648) ≤ z36174 ∧ z36174 ≤ 2147483647) → (0 ≤ z36173 ∧ z36173 ≤ 46656) → (z36175 ≤ z36173) → (z36173 ≤ z36176) → quOK μ36177 z36176 z14 → (46657 - z36173) < (nL36178 : Int) → sV (gG l D c H0 sa) mX12_tries (sRm 3 0 0) (sZ (gG l D c H0 sa) 0 0 (qI w [187999, 188999, 189999, 190999, 191999] μ (fun z μ1 => ((-2147483648) ≤ z ∧ z ≤ 2147483647) ∧ True))) 76 [(0, .ref 106), (1, iv p1), (3, iv z36176), (4, iv z36175), (5, iv z36174), (6, iv z36173)] [] (mk w μ36177) 0 0 := by
            intro nL36178
            induction nL36178 with
            | zero => intro z36176 z36175 z36174 z36173 μ36177 T36183 F36184 h36179 h36180 h36181 h36182 h36186 h36187 R36188 h36189; exact ((vc_X12_tries_14 h36189 h36186 h36187 h36182 h36180 h36179)).elim
            | succ nL36178 ih36190 =>
              intro z36176 z36175 z36174 z36173 μ36177 T36183 F36184 h36179 h36180 h36181 h36182 h36186 h36187 R36188 h36189
              refine mr_iload (pc := 76) (z := z36173) dX12_tries_76 rfl ?_
              refine mr_iload_n (pc := 78) (z := z36176) dX12_tries_78 rfl rfl ?_
              refine mr_icmp_ge (pc := 79) (tgt := 240) dX12_tries_79 (by decide) (r32 h36182 rfl) (r32 h36179 rfl) (fun h36331 => ?_) (fun h36331 => ?_)
              · have h36332 : 1 ≤ z36173 ∧ z36173 ≤ 46656 := (vc_X12_tries_15 h36331 h36186 h36187 h36182 h36180 h36179)
                refine mr_iload_n (pc := 240) (z := p1) dX12_tries_240 rfl rfl ?_
                refine mr_if_ne (pc := 241) (tgt := 246) dX12_tries_241 (by decide) (r32 h9 rfl) (fun h36333 => ?_) (fun h36333 => ?_)
                · have h36334 : 1 ≤ p1 ∧ p1 ≤ 3 := (vc_X12_tries_16 h36333 h4.2.1 h4.2.2.1 h8 h9 h7)
                  refine mr_iload_n (pc := 246) (z := p1) dX12_tries_246 rfl rfl ?_
                  refine mr_iconst (pc := 247) (z := 1) dX12_tries_247 ?_
                  refine mr_icmp_ne (pc := 248) (tgt := 254) dX12_tries_248 (by decide) (r32 h36334 rfl) (r32 (rR (x := 1)) rfl) (fun h36335 => ?_) (fun h36335 => ?_)
                  · have h36336 : 2 ≤ p1 ∧ p1 ≤ 3 := (vc_X12_tries_17 h36335 h4.2.1 h4.2.2.1 h8 h36333 h36334 h7)
                    refine mr_iload_n (pc := 254) (z := p1) dX12_tries_254 rfl rfl ?_
                    refine mr_iconst (pc := 255) (z := 3) dX12_tries_255 ?_
                    refine mr_icmp_ne (pc := 256) (tgt := 262) dX12_tries_256 (by decide) (r32 h36336 rfl) (r32 (rR (x := 3)) rfl) (fun h36337 => ?_) (fun h36337 => ?_)
                    · have h36338 : 2 ≤ p1 ∧ p1 ≤ 2 := (vc_X12_tries_18 h36337 h4.2.1 h4.2.2.1 h8 h36333 h36335 h36336 h7)
                      refine mr_iconst (pc := 262) (z := 1) dX12_tries_262 ?_
                      refine mr_istore (pc := 263) (lv' := [(6, iv 1), (0, .ref 106), (1, iv p1), (3, iv z36176), (4, iv z36175), (5, iv z36174)]) dX12_tries_263 (by decide) rfl ?_
                      have L37190 : ∀ (nL37190 : Nat) (z37188 : Int) (μ37189 : mM) (f_k : Int), mT w μ37189 → mF [188999, 191999] w μ36177 μ37189 → cnt μ37189 191 46656 = f_k → (0 ≤ z37188 ∧ z37188 ≤ 1) → ((2 * (46656 - f_k)) + z37188) < (nL37190 : Int) → sV (gG l D c H0 sa) mX12_tries (sRm 3 0 0) (sZ (gG l D c H0 sa) 0 0 (qI w [187999, 188999, 189999, 190999, 191999] μ (fun z μ1 => ((-2147483648) ≤ z ∧ z ≤ 2147483647) ∧ True))) 265 [(0, .ref 106), (3, iv z36176), (6, iv z37188)] [] (mk w μ37189) 0 0 := by
                        intro nL37190
                        induction nL37190 with
                        | zero => intro z37188 μ37189 f_k T37192 F37193 q37196 h37191 h37195; exact ((vc_X12_tries_19 h37195 (by rw [← q37196]; exact cnt_rng (fun i => T37192 191 191 (A_191 hw) i) 46656) h37191)).elim
                        | succ nL37190 ih37197 =>
                          intro z37188 μ37189 f_k T37192 F37193 q37196 h37191 h37195
                          have h37198 : 0 ≤ f_k ∧ f_k ≤ 46656 := by rw [← q37196]; exact cnt_rng (fun i => T37192 191 191 (A_191 hw) i) 46656
                          refine mr_iload (pc := 265) (z := z37188) dX12_tries_265 rfl ?_
                          refine mr_if_eq (pc := 267) (tgt := 405) dX12_tries_267 (by decide) (r32 h37191 rfl) (fun h37461 => ?_) (fun h37461 => ?_)
                          · have h37462 : 0 ≤ z37188 ∧ z37188 ≤ 0 := (vc_X12_tries_20 h37461 h37191)
                            refine mr_iconst (pc := 405) (z := 0) dX12_tries_405 ?_
                            refine mr_istore (pc := 406) (lv' := [(7, iv 0), (0, .ref 106), (3, iv z36176), (6, iv z37188)]) dX12_tries_406 (by decide) rfl ?_
                            refine mr_iconst (pc := 408) (z := 0) dX12_tries_408 ?_
                            refine mr_istore (pc := 409) (lv' := [(8, iv 0), (7, iv 0), (0, .ref 106), (3, iv z36176), (6, iv z37188)]) dX12_tries_409 (by decide) rfl ?_
                            have L37687 : ∀ (nL37687 : Nat) (z37686 z37685 : Int), True → ((-2147483648) ≤ z37686 ∧ z37686 ≤ 2147483647) → (0 ≤ z37685 ∧ z37685 ≤ 46656) → (46657 - z37685) < (nL37687 : Int) → sV (gG l D c H0 sa) mX12_tries (sRm 3 0 0) (sZ (gG l D c H0 sa) 0 0 (qI w [187999, 188999, 189999, 190999, 191999] μ (fun z μ1 => ((-2147483648) ≤ z ∧ z ≤ 2147483647) ∧ True))) 411 [(0, .ref 106), (3, iv z36176), (7, iv z37686), (8, iv z37685)] [] (mk w μ37189) 0 0 := by
                              intro nL37687
                              induction nL37687 with
                              | zero => intro z37686 z37685 _ h37688 h37689 h37693; exact ((vc_X12_tries_21 h37693 h37689)).elim
                              | succ nL37687 ih37694 =>
                                intro z37686 z37685 _ h37688 h37689 h37693
                                refine mr_iload (pc := 411) (z := z37685) dX12_tries_411 rfl ?_
                                refine mr_iload_n (pc := 413) (z := z36176) dX12_tries_413 rfl rfl ?_
                                refine mr_icmp_ge (pc := 414) (tgt := 448) dX12_tries_414 (by decide) (r32 h37689 rfl) (r32 h36179 rfl) (fun h37707 => ?_) (fun h37707 => ?_)
                                · have h37708 : 1 ≤ z37685 ∧ z37685 ≤ 46656 := (vc_X12_tries_22 h37707 h36187 h36331 h36332 h36179 h37689)
                                  refine mr_iload (pc := 448) (z := z37686) dX12_tries_448 rfl ?_
                                  exact mr_iret dX12_tries_450 rfl (le_t rfl) (le_t rfl) T37192 (mF.call (mF.call (mF.up (mF.up (mF.call (mF.call mF.refl F12 rfl) F23957 rfl) (A_190 hw) u23972 rfl) (A_189 hw) u23975 rfl) F36184 rfl) F37193 rfl) ⟨h37688, trivial⟩
                                have h37709 : 0 ≤ z37685 ∧ z37685 ≤ 46655 := (vc_X12_tries_23 h37707 h36187 h36331 h36332 h36179 h37689)
                                refine mr_iload (pc := 417) (z := z37686) dX12_tries_417 rfl ?_
                                refine sv_aload_n (pc := 419) dX12_tries_419 rfl rfl ?_
                                refine gf_X12_125 (pc := 420) dX12_tries_420 wF_X12_536 (A_106 hw) T37192 ?_
                                refine sv_aload_n (pc := 423) dX12_tries_423 rfl rfl ?_
                                refine gf_X12_124 (pc := 424) dX12_tries_424 wF_X12_533 (A_106 hw) T37192 ?_
                                refine mr_iload (pc := 427) (z := z37685) dX12_tries_427 rfl ?_
                                refine la_190 (pc := 429) dX12_tries_429 (A_190 hw) T37192 (rIx (n := 46656) h37709 rfl) fun z37710 q37711 h37712 => ?_
                                refine la_191 (pc := 430) dX12_tries_430 (A_191 hw) T37192 (rIx (n := 46656) h37712 rfl) fun z37713 q37714 h37715 => ?_
                                refine mr_if_eq (pc := 431) (tgt := 438) dX12_tries_431 (by decide) (r32 h37715 rfl) (fun h37718 => ?_) (fun h37718 => ?_)
                                · have h37719 : 0 ≤ z37713 ∧ z37713 ≤ 0 := (vc_X12_tries_24 h37718 h37715)
                                  refine mr_iconst (pc := 438) (z := 1) dX12_tries_438 ?_
                                  refine mr_iadd (pc := 439) (x := z37686) (y := 1) dX12_tries_439 ?_
                                  refine mr_wrap fun z37720 h37721 => ?_
                                  refine mr_istore (pc := 440) (lv' := [(7, iv z37720), (0, .ref 106), (3, iv z36176), (8, iv z37685)]) dX12_tries_440 (by decide) rfl ?_
                                  refine mr_iinc (pc := 442) (lv' := [(8, iv (z37685 + 1)), (7, iv z37720), (0, .ref 106), (3, iv z36176)]) dX12_tries_442 rfl (by decide) rfl ?_
                                  refine sv_goto (pc := 445) (tgt := 411) dX12_tries_445 (by decide) ?_
                                  refine mr_lvS (lv' := [(0, .ref 106), (3, iv z36176), (7, iv z37720), (8, iv (z37685 + 1))]) (List.forall_mem_cons.mpr ⟨rfl, List.forall_mem_cons.mpr ⟨rfl, List.forall_mem_cons.mpr ⟨rfl, List.forall_mem_cons.mpr ⟨rfl, fun _ h => absurd h List.not_mem_nil⟩⟩⟩⟩) ?_
                                  exact ih37694 z37720 (z37685 + 1) trivial h37721 (rW (c := 0) (d := 46656) (rAdd (e := 1) (f := 46656) h37709 (rR (x := 1)) rfl) rfl) (vc_X12_tries_25 (nS h37693) h37707 h36187 h36331 h36332 h36179 h37709)
                                have h37722 : 1 ≤ z37713 ∧ z37713 ≤ 1 := (vc_X12_tries_26 h37718 h37715)
                                refine mr_iconst (pc := 434) (z := 0) dX12_tries_434 ?_
                                refine sv_goto (pc := 435) (tgt := 439) dX12_tries_435 (by decide) ?_
                                refine mr_iadd (pc := 439) (x := z37686) (y := 0) dX12_tries_439 ?_
                                refine mr_istore (pc := 440) (lv' := [(7, iv (z37686 + 0)), (0, .ref 106), (3, iv z36176), (8, iv z37685)]) dX12_tries_440 (by decide) rfl ?_
                                refine mr_iinc (pc := 442) (lv' := [(8, iv (z37685 + 1)), (7, iv (z37686 + 0)), (0, .ref 106), (3, iv z36176)]) dX12_tries_442 rfl (by decide) rfl ?_
                                refine sv_goto (pc := 445) (tgt := 411) dX12_tries_445 (by decide) ?_
                                refine mr_lvS (lv' := [(0, .ref 106), (3, iv z36176), (7, iv (z37686 + 0)), (8, iv (z37685 + 1))]) (List.forall_mem_cons.mpr ⟨rfl, List.forall_mem_cons.mpr ⟨rfl, List.forall_mem_cons.mpr ⟨rfl, List.forall_mem_cons.mpr ⟨rfl, fun _ h => absurd h List.not_mem_nil⟩⟩⟩⟩) ?_
                                exact ih37694 (z37686 + 0) (z37685 + 1) trivial (rAdd (e := (-2147483648)) (f := 2147483647) h37688 (rR (x := 0)) rfl) (rW (c := 0) (d := 46656) (rAdd (e := 1) (f := 46656) h37709 (rR (x := 1)) rfl) rfl) (vc_X12_tries_25 (nS h37693) h37707 h36187 h36331 h36332 h36179 h37709)
                            refine mr_lvS (lv' := [(0, .ref 106), (3, iv z36176), (7, iv 0), (8, iv 0)]) (List.forall_mem_cons.mpr ⟨rfl, List.forall_mem_cons.mpr ⟨rfl, List.forall_mem_cons.mpr ⟨rfl, List.forall_mem_cons.mpr ⟨rfl, fun _ h => absurd h List.not_mem_nil⟩⟩⟩⟩) ?_
                            exact L37687 46658 0 0 trivial (rW (c := (-2147483648)) (d := 2147483647) (rR (x := 0)) rfl) (rW (c := 0) (d := 46656) (rR (x := 0)) rfl) vc_X12_tries_27
                          have h37723 : 1 ≤ z37188 ∧ z37188 ≤ 1 := (vc_X12_tries_28 h37461 h37191)
                          refine mr_iconst (pc := 270) (z := 0) dX12_tries_270 ?_
                          refine mr_istore (pc := 271) (lv' := [(6, iv 0), (0, .ref 106), (3, iv z36176)]) dX12_tries_271 (by decide) rfl ?_
                          refine mr_iload_n (pc := 273) (z := z36176) dX12_tries_273 rfl rfl ?_
                          refine mr_iconst (pc := 274) (z := 1) dX12_tries_274 ?_
                          refine mr_isub (pc := 275) (x := z36176) (y := 1) dX12_tries_275 ?_
                          refine mr_istore (pc := 276) (lv' := [(7, iv (z36176 - 1)), (6, iv 0), (0, .ref 106), (3, iv z36176)]) dX12_tries_276 (by decide) rfl ?_
                          have L38111 : ∀ (nL38111 : Nat) (z38109 z38108 : Int) (μ38110 : mM) (f_k2 : Int), mT w μ38110 → mF [188999, 191999] w μ37189 μ38110 → cnt μ38110 191 46656 = f_k2 → (0 ≤ z38109 ∧ z38109 ≤ 1) → ((-1) ≤ z38108 ∧ z38108 ≤ 46655) → (f_k ≤ f_k2) → (z38109 = 0 ∨ f_k + 1 ≤ f_k2) → (z38108 < z36176) → (z38108 - (-2)) < (nL38111 : Int) → sV (gG l D c H0 sa) mX12_tries (sRm 3 0 0) (sZ (gG l D c H0 sa) 0 0 (qI w [187999, 188999, 189999, 190999, 191999] μ (fun z μ1 => ((-2147483648) ≤ z ∧ z ≤ 2147483647) ∧ True))) 278 [(0, .ref 106), (3, iv z36176), (6, iv z38109), (7, iv z38108)] [] (mk w μ38110) 0 0 := by
                            intro nL38111
                            induction nL38111 with
                            | zero => intro z38109 z38108 μ38110 f_k2 T38114 F38115 q38121 h38112 h38113 h38117 h38118 h38119 h38120; exact ((vc_X12_tries_29 h38120 (by rw [← q38121]; exact cnt_rng (fun i => T38114 191 191 (A_191 hw) i) 46656) h38117 h38118 h38119 h36187 h36331 h37198 h36332 h36179 h38113 h38112)).elim
                            | succ nL38111 ih38122 =>
                              intro z38109 z38108 μ38110 f_k2 T38114 F38115 q38121 h38112 h38113 h38117 h38118 h38119 h38120
                              have h38123 : 0 ≤ f_k2 ∧ f_k2 ≤ 46656 := by rw [← q38121]; exact cnt_rng (fun i => T38114 191 191 (A_191 hw) i) 46656
                              refine mr_iload (pc := 278) (z := z38108) dX12_tries_278 rfl ?_
                              refine mr_if_lt (pc := 280) (tgt := 402) dX12_tries_280 (by decide) (r32 h38113 rfl) (fun h38247 => ?_) (fun h38247 => ?_)
                              · have h38248 : (-1) ≤ z38108 ∧ z38108 ≤ (-1) := (vc_X12_tries_30 h38247 h38119 h36179 h38113)
                                refine sv_goto (pc := 402) (tgt := 265) dX12_tries_402 (by decide) ?_
                                refine mr_lvS (lv' := [(0, .ref 106), (3, iv z36176), (6, iv z38109)]) (List.forall_mem_cons.mpr ⟨rfl, List.forall_mem_cons.mpr ⟨rfl, List.forall_mem_cons.mpr ⟨rfl, fun _ h => absurd h List.not_mem_nil⟩⟩⟩) ?_
                                exact ih37197 z38109 μ38110 f_k2 T38114 (mF.call (mF.call mF.refl F37193 rfl) F38115 rfl) q38121 h38112 (vc_X12_tries_31 (nS h37195) h37461 h38117 h38118 h37198 h38123 h37723 h38112)
                              have h38249 : 0 ≤ z38108 ∧ z38108 ≤ 46655 := (vc_X12_tries_32 h38247 h38119 h36179 h38113)
                              refine sv_aload_n (pc := 283) dX12_tries_283 rfl rfl ?_
                              refine gf_X12_124 (pc := 284) dX12_tries_284 wF_X12_533 (A_106 hw) T38114 ?_
                              refine mr_iload (pc := 287) (z := z38108) dX12_tries_287 rfl ?_
                              refine la_190 (pc := 289) dX12_tries_289 (A_190 hw) T38114 (rIx (n := 46656) h38249 rfl) fun z38250 q38251 h38252 => ?_
                              have h38253 : 0 ≤ z38250 ∧ z38250 < z14 := quOK.st (quOK.keep R36188 hw ((mF.call (mF.call mF.refl F37193 rfl) F38115 rfl) : mF [188999, 191999] w μ36177 μ38110) rfl) (vc_X12_tries_33 h38119 h38247 h36187 h36331 h36332 h36179 h38249) (vc_X12_tries_34 h36187 h36331 h38119 h38247 h36186 h36332 h36180 h36179 h38249) q38251
                              refine mr_istore (pc := 290) (lv' := [(8, iv z38250), (0, .ref 106), (3, iv z36176), (6, iv z38109), (7, iv z38108)]) dX12_tries_290 (by decide) rfl ?_
                              refine sv_aload_n (pc := 292) dX12_tries_292 rfl rfl ?_
                              refine gf_X12_125 (pc := 293) dX12_tries_293 wF_X12_536 (A_106 hw) T38114 ?_
                              refine mr_iload (pc := 296) (z := z38250) dX12_tries_296 rfl ?_
                              refine la_191 (pc := 298) dX12_tries_298 (A_191 hw) T38114 (rIx (n := 46656) h38252 rfl) fun z38254 q38255 h38256 => ?_
                              refine mr_if_eq (pc := 299) (tgt := 305) dX12_tries_299 (by decide) (r32 h38256 rfl) (fun h38372 => ?_) (fun h38372 => ?_)
                              · have h38373 : 0 ≤ z38254 ∧ z38254 ≤ 0 := (vc_X12_tries_35 h38372 h38256)
                                refine sv_aload_n (pc := 305) dX12_tries_305 rfl rfl ?_
                                refine mr_iload (pc := 306) (z := z38250) dX12_tries_306 rfl ?_
                                obtain ⟨z38374, q38375⟩ : ∃ z, μ38110 184 ((1 : Int).toNat) = z := ⟨_, rfl⟩
                                have h38376 : (0 ≤ z38374 ∧ z38374 ≤ 5) := by rw [← q38375]; exact T38114 184 184 (A_184 hw) ((1 : Int).toNat)
                                obtain ⟨z38377, q38378⟩ : ∃ z, μ38110 184 ((2 : Int).toNat) = z := ⟨_, rfl⟩
                                have h38379 : (0 ≤ z38377 ∧ z38377 ≤ 5) := by rw [← q38378]; exact T38114 184 184 (A_184 hw) ((2 : Int).toNat)
                                obtain ⟨z38380, q38381⟩ : ∃ z, μ38110 184 ((3 : Int).toNat) = z := ⟨_, rfl⟩
                                have h38382 : (0 ≤ z38380 ∧ z38380 ≤ 5) := by rw [← q38381]; exact T38114 184 184 (A_184 hw) ((3 : Int).toNat)
                                obtain ⟨z38383, q38384⟩ : ∃ z, μ38110 184 ((4 : Int).toNat) = z := ⟨_, rfl⟩
                                have h38385 : (0 ≤ z38383 ∧ z38383 ≤ 5) := by rw [← q38384]; exact T38114 184 184 (A_184 hw) ((4 : Int).toNat)
                                obtain ⟨z38386, q38387⟩ : ∃ z, μ38110 184 ((5 : Int).toNat) = z := ⟨_, rfl⟩
                                have h38388 : (0 ≤ z38386 ∧ z38386 ≤ 5) := by rw [← q38387]; exact T38114 184 184 (A_184 hw) ((5 : Int).toNat)
                                obtain ⟨z38389, q38390⟩ : ∃ z, μ38110 184 ((6 : Int).toNat) = z := ⟨_, rfl⟩
                                have h38391 : (0 ≤ z38389 ∧ z38389 ≤ 5) := by rw [← q38390]; exact T38114 184 184 (A_184 hw) ((6 : Int).toNat)
                                refine mr_cVV (pc := 308) (c_X12_open_r hw T38114 h38252 (F38115.f (A_187 hw) rfl (F37193.f (A_187 hw) rfl (F36184.f (A_187 hw) rfl (u23975.f (Or.inl (mAt.ne (A_189 hw) (A_187 hw) rfl)) (u23972.f (Or.inl (mAt.ne (A_190 hw) (A_187 hw) rfl)) (F23957.f (A_187 hw) rfl q16)))))) (F38115.f (A_187 hw) rfl (F37193.f (A_187 hw) rfl (F36184.f (A_187 hw) rfl (u23975.f (Or.inl (mAt.ne (A_189 hw) (A_187 hw) rfl)) (u23972.f (Or.inl (mAt.ne (A_190 hw) (A_187 hw) rfl)) (F23957.f (A_187 hw) rfl q18)))))) (F38115.f (A_187 hw) rfl (F37193.f (A_187 hw) rfl (F36184.f (A_187 hw) rfl (u23975.f (Or.inl (mAt.ne (A_189 hw) (A_187 hw) rfl)) (u23972.f (Or.inl (mAt.ne (A_190 hw) (A_187 hw) rfl)) (F23957.f (A_187 hw) rfl q20)))))) (F38115.f (A_187 hw) rfl (F37193.f (A_187 hw) rfl (F36184.f (A_187 hw) rfl (u23975.f (Or.inl (mAt.ne (A_189 hw) (A_187 hw) rfl)) (u23972.f (Or.inl (mAt.ne (A_190 hw) (A_187 hw) rfl)) (F23957.f (A_187 hw) rfl q22)))))) (F38115.f (A_187 hw) rfl (F37193.f (A_187 hw) rfl (F36184.f (A_187 hw) rfl (u23975.f (Or.inl (mAt.ne (A_189 hw) (A_187 hw) rfl)) (u23972.f (Or.inl (mAt.ne (A_190 hw) (A_187 hw) rfl)) (F23957.f (A_187 hw) rfl q24)))))) (F38115.f (A_187 hw) rfl (F37193.f (A_187 hw) rfl (F36184.f (A_187 hw) rfl (u23975.f (Or.inl (mAt.ne (A_189 hw) (A_187 hw) rfl)) (u23972.f (Or.inl (mAt.ne (A_190 hw) (A_187 hw) rfl)) (F23957.f (A_187 hw) rfl q26)))))) q38375 q38378 q38381 q38384 q38387 q38390 (vc_X12_tries_36 h27.2.1 h34) (vc_X12_tries_37 h27.2.2.1 h35) (vc_X12_tries_38 h27.2.2.2.1 h36) (vc_X12_tries_39 h27.2.2.2.2.1 h37) (vc_X12_tries_40 h27.2.2.2.2.2.1 h38) (vc_X12_tries_41 h27.2.2.2.2.2.2.1 h39)) (gOk _ _ _ _ _) dX12_tries_308 (tX12_open _ _ _ _ _) ⟨wV_X12_open, wL_X12_open⟩ wM_X12_722 (gCX12 _ _ _ _ _) rfl (A_106 hw) rfl ⟨le_t rfl, le_t rfl⟩ ⟨le_t rfl, le_t rfl⟩ rfl (le_t rfl) fun μ38392 T38393 F38394 h38395 => ?_
                                obtain ⟨z38396, z38398, z38400, z38402, z38404, z38406, q38397, q38399, q38401, q38403, q38405, q38407, h38408⟩ := h38395
                                have h38409 : (0 ≤ z38396 ∧ z38396 ≤ 5) := by rw [← q38397]; exact T38393 188 188 (A_188 hw) ((1 : Int).toNat)
                                have h38410 : (0 ≤ z38398 ∧ z38398 ≤ 5) := by rw [← q38399]; exact T38393 188 188 (A_188 hw) ((2 : Int).toNat)
                                have h38411 : (0 ≤ z38400 ∧ z38400 ≤ 5) := by rw [← q38401]; exact T38393 188 188 (A_188 hw) ((3 : Int).toNat)
                                have h38412 : (0 ≤ z38402 ∧ z38402 ≤ 5) := by rw [← q38403]; exact T38393 188 188 (A_188 hw) ((4 : Int).toNat)
                                have h38413 : (0 ≤ z38404 ∧ z38404 ≤ 5) := by rw [← q38405]; exact T38393 188 188 (A_188 hw) ((5 : Int).toNat)
                                have h38414 : (0 ≤ z38406 ∧ z38406 ≤ 5) := by rw [← q38407]; exact T38393 188 188 (A_188 hw) ((6 : Int).toNat)
                                refine mr_iconst (pc := 311) (z := 1) dX12_tries_311 ?_
                                refine mr_istore (pc := 312) (lv' := [(9, iv 1), (8, iv z38250), (0, .ref 106), (3, iv z36176), (6, iv z38109), (7, iv z38108)]) dX12_tries_312 (by decide) rfl ?_
                                have L38681 : ∀ (nL38681 : Nat) (z38679 : Int) (μ38680 : mM) (f_k3 : Int) (f_hs : Int), mT w μ38680 → mF [191999] w μ38392 μ38680 → cnt μ38680 191 46656 = f_k3 → μ38680 191 (z38250.toNat) = f_hs → (1 ≤ z38679 ∧ z38679 ≤ 7) → (f_k3 = f_k2 + f_hs) → (8 - z38679) < (nL38681 : Int) → sV (gG l D c H0 sa) mX12_tries (sRm 3 0 0) (sZ (gG l D c H0 sa) 0 0 (qI w [187999, 188999, 189999, 190999, 191999] μ (fun z μ1 => ((-2147483648) ≤ z ∧ z ≤ 2147483647) ∧ True))) 314 [(0, .ref 106), (3, iv z36176), (6, iv z38109), (7, iv z38108), (8, iv z38250), (9, iv z38679)] [] (mk w μ38680) 0 0 := by
                                  intro nL38681
                                  induction nL38681 with
                                  | zero => intro z38679 μ38680 f_k3 f_hs T38683 F38684 q38688 q38689 h38682 h38686 h38687; exact ((vc_X12_tries_42 h38687 (by rw [← q38688]; exact cnt_rng (fun i => T38683 191 191 (A_191 hw) i) 46656) h38686 h38117 h38118 h37198 h38123 h38112 h38682)).elim
                                  | succ nL38681 ih38690 =>
                                    intro z38679 μ38680 f_k3 f_hs T38683 F38684 q38688 q38689 h38682 h38686 h38687
                                    have h38691 : 0 ≤ f_k3 ∧ f_k3 ≤ 46656 := by rw [← q38688]; exact cnt_rng (fun i => T38683 191 191 (A_191 hw) i) 46656
                                    have h38692 : (0 ≤ f_hs ∧ f_hs ≤ 1) := by rw [← q38689]; exact T38683 191 191 (A_191 hw) (z38250.toNat)
                                    refine mr_iload (pc := 314) (z := z38679) dX12_tries_314 rfl ?_
                                    refine mr_bipush (pc := 316) (z := 6) dX12_tries_316 (by decide) ?_
                                    have J38720 : sV (gG l D c H0 sa) mX12_tries (sRm 3 0 0) (sZ (gG l D c H0 sa) 0 0 (qI w [187999, 188999, 189999, 190999, 191999] μ (fun z μ1 => ((-2147483648) ≤ z ∧ z ≤ 2147483647) ∧ True))) 374 [(0, .ref 106), (3, iv z36176), (6, iv z38109), (7, iv z38108), (8, iv z38250)] [] (mk w μ38680) 0 0 := by
                                      refine mr_iload (pc := 374) (z := z38109) dX12_tries_374 rfl ?_
                                      refine mr_if_ne (pc := 376) (tgt := 389) dX12_tries_376 (by decide) (r32 h38112 rfl) (fun h38721 => ?_) (fun h38721 => ?_)
                                      · have h38722 : 1 ≤ z38109 ∧ z38109 ≤ 1 := (vc_X12_tries_43 h38721 h38118 h37198 h38123 h38112)
                                        refine mr_iconst (pc := 389) (z := 1) dX12_tries_389 ?_
                                        refine sv_goto (pc := 390) (tgt := 394) dX12_tries_390 (by decide) ?_
                                        refine mr_istore (pc := 394) (lv' := [(6, iv 1), (0, .ref 106), (3, iv z36176), (7, iv z38108), (8, iv z38250)]) dX12_tries_394 (by decide) rfl ?_
                                        refine mr_iinc (pc := 396) (lv' := [(7, iv (z38108 + (-1))), (6, iv 1), (0, .ref 106), (3, iv z36176), (8, iv z38250)]) dX12_tries_396 rfl (by decide) rfl ?_
                                        refine sv_goto (pc := 399) (tgt := 278) dX12_tries_399 (by decide) ?_
                                        refine mr_lvS (lv' := [(0, .ref 106), (3, iv z36176), (6, iv 1), (7, iv (z38108 + (-1)))]) (List.forall_mem_cons.mpr ⟨rfl, List.forall_mem_cons.mpr ⟨rfl, List.forall_mem_cons.mpr ⟨rfl, List.forall_mem_cons.mpr ⟨rfl, fun _ h => absurd h List.not_mem_nil⟩⟩⟩⟩) ?_
                                        exact ih38122 1 (z38108 + (-1)) μ38680 f_k3 T38683 (mF.call (mF.call (mF.call mF.refl F38115 rfl) F38394 rfl) F38684 rfl) q38688 (rW (c := 0) (d := 1) (rR (x := 1)) rfl) (rW (c := (-1)) (d := 46655) (rAdd (e := (-1)) (f := 46654) h38249 (rR (x := (-1))) rfl) rfl) (vc_X12_tries_44 h38117 h38118 h38686 h38721 h38692 h37198 h38123 h38691 h38722) (vc_X12_tries_45 h38117 h38118 h38686 h38721 h38692 h37198 h38123 h38691 h38722) (vc_X12_tries_46 h36187 h36331 h38119 h38247 h36186 h36332 h36180 h36179 h38249) (vc_X12_tries_47 (nS h38120) h38119 h38247 h36187 h36331 h36332 h36179 h38249)
                                      have h38723 : 0 ≤ z38109 ∧ z38109 ≤ 0 := (vc_X12_tries_48 h38721 h38118 h37198 h38123 h38112)
                                      refine sv_aload_n (pc := 379) dX12_tries_379 rfl rfl ?_
                                      refine gf_X12_125 (pc := 380) dX12_tries_380 wF_X12_536 (A_106 hw) T38683 ?_
                                      refine mr_iload (pc := 383) (z := z38250) dX12_tries_383 rfl ?_
                                      refine lk_191 (pc := 385) dX12_tries_385 (A_191 hw) (rIx (n := 46656) h38252 rfl) q38689 ?_
                                      refine mr_if_eq (pc := 386) (tgt := 393) dX12_tries_386 (by decide) (r32 h38692 rfl) (fun h38724 => ?_) (fun h38724 => ?_)
                                      · have h38725 : 0 ≤ f_hs ∧ f_hs ≤ 0 := (vc_X12_tries_49 h38724 h38686 h38692 h38123 h38691)
                                        refine mr_iconst (pc := 393) (z := 0) dX12_tries_393 ?_
                                        refine mr_istore (pc := 394) (lv' := [(6, iv 0), (0, .ref 106), (3, iv z36176), (7, iv z38108), (8, iv z38250)]) dX12_tries_394 (by decide) rfl ?_
                                        refine mr_iinc (pc := 396) (lv' := [(7, iv (z38108 + (-1))), (6, iv 0), (0, .ref 106), (3, iv z36176), (8, iv z38250)]) dX12_tries_396 rfl (by decide) rfl ?_
                                        refine sv_goto (pc := 399) (tgt := 278) dX12_tries_399 (by decide) ?_
                                        refine mr_lvS (lv' := [(0, .ref 106), (3, iv z36176), (6, iv 0), (7, iv (z38108 + (-1)))]) (List.forall_mem_cons.mpr ⟨rfl, List.forall_mem_cons.mpr ⟨rfl, List.forall_mem_cons.mpr ⟨rfl, List.forall_mem_cons.mpr ⟨rfl, fun _ h => absurd h List.not_mem_nil⟩⟩⟩⟩) ?_
                                        exact ih38122 0 (z38108 + (-1)) μ38680 f_k3 T38683 (mF.call (mF.call (mF.call mF.refl F38115 rfl) F38394 rfl) F38684 rfl) q38688 (rW (c := 0) (d := 1) (rR (x := 0)) rfl) (rW (c := (-1)) (d := 46655) (rAdd (e := (-1)) (f := 46654) h38249 (rR (x := (-1))) rfl) rfl) (vc_X12_tries_50 h38117 h38118 h38686 h38721 h38724 h38725 h37198 h38123 h38691 h38723) (vc_X12_tries_51 h38117 h38118 h38686 h38721 h38724 h38725 h37198 h38123 h38691 h38723) (vc_X12_tries_46 h36187 h36331 h38119 h38247 h36186 h36332 h36180 h36179 h38249) (vc_X12_tries_47 (nS h38120) h38119 h38247 h36187 h36331 h36332 h36179 h38249)
                                      have h38726 : 1 ≤ f_hs ∧ f_hs ≤ 1 := (vc_X12_tries_52 h38724 h38686 h38692 h38123 h38691)
                                      refine mr_iconst (pc := 389) (z := 1) dX12_tries_389 ?_
                                      refine sv_goto (pc := 390) (tgt := 394) dX12_tries_390 (by decide) ?_
                                      refine mr_istore (pc := 394) (lv' := [(6, iv 1), (0, .ref 106), (3, iv z36176), (7, iv z38108), (8, iv z38250)]) dX12_tries_394 (by decide) rfl ?_
                                      refine mr_iinc (pc := 396) (lv' := [(7, iv (z38108 + (-1))), (6, iv 1), (0, .ref 106), (3, iv z36176), (8, iv z38250)]) dX12_tries_396 rfl (by decide) rfl ?_
                                      refine sv_goto (pc := 399) (tgt := 278) dX12_tries_399 (by decide) ?_
                                      refine mr_lvS (lv' := [(0, .ref 106), (3, iv z36176), (6, iv 1), (7, iv (z38108 + (-1)))]) (List.forall_mem_cons.mpr ⟨rfl, List.forall_mem_cons.mpr ⟨rfl, List.forall_mem_cons.mpr ⟨rfl, List.forall_mem_cons.mpr ⟨rfl, fun _ h => absurd h List.not_mem_nil⟩⟩⟩⟩) ?_
                                      exact ih38122 1 (z38108 + (-1)) μ38680 f_k3 T38683 (mF.call (mF.call (mF.call mF.refl F38115 rfl) F38394 rfl) F38684 rfl) q38688 (rW (c := 0) (d := 1) (rR (x := 1)) rfl) (rW (c := (-1)) (d := 46655) (rAdd (e := (-1)) (f := 46654) h38249 (rR (x := (-1))) rfl) rfl) (vc_X12_tries_53 h38117 h38118 h38686 h38721 h38724 h38726 h37198 h38123 h38691 h38723) (vc_X12_tries_54 h38117 h38118 h38686 h38721 h38724 h38726 h37198 h38123 h38691 h38723) (vc_X12_tries_46 h36187 h36331 h38119 h38247 h36186 h36332 h36180 h36179 h38249) (vc_X12_tries_47 (nS h38120) h38119 h38247 h36187 h36331 h36332 h36179 h38249)
                                    refine mr_icmp_gt (pc := 318) (tgt := 374) dX12_tries_318 (by decide) (r32 h38682 rfl) (r32 (rR (x := 6)) rfl) (fun h38727 => ?_) (fun h38727 => ?_)
                                    · have h38728 : 7 ≤ z38679 ∧ z38679 ≤ 7 := (vc_X12_tries_55 h38727 h38682)
                                      refine mr_lvS (lv' := [(0, .ref 106), (3, iv z36176), (6, iv z38109), (7, iv z38108), (8, iv z38250)]) (List.forall_mem_cons.mpr ⟨rfl, List.forall_mem_cons.mpr ⟨rfl, List.forall_mem_cons.mpr ⟨rfl, List.forall_mem_cons.mpr ⟨rfl, List.forall_mem_cons.mpr ⟨rfl, fun _ h => absurd h List.not_mem_nil⟩⟩⟩⟩⟩) ?_
                                      exact J38720 
                                    have h38729 : 1 ≤ z38679 ∧ z38679 ≤ 6 := (vc_X12_tries_56 h38727 h38682)
                                    refine sv_aload_n (pc := 321) dX12_tries_321 rfl rfl ?_
                                    refine gf_X12_125 (pc := 322) dX12_tries_322 wF_X12_536 (A_106 hw) T38683 ?_
                                    refine mr_iload (pc := 325) (z := z38250) dX12_tries_325 rfl ?_
                                    refine lk_191 (pc := 327) dX12_tries_327 (A_191 hw) (rIx (n := 46656) h38252 rfl) q38689 ?_
                                    refine mr_if_ne (pc := 328) (tgt := 374) dX12_tries_328 (by decide) (r32 h38692 rfl) (fun h38730 => ?_) (fun h38730 => ?_)
                                    · have h38731 : 1 ≤ f_hs ∧ f_hs ≤ 1 := (vc_X12_tries_52 h38730 h38686 h38692 h38123 h38691)
                                      refine mr_lvS (lv' := [(0, .ref 106), (3, iv z36176), (6, iv z38109), (7, iv z38108), (8, iv z38250)]) (List.forall_mem_cons.mpr ⟨rfl, List.forall_mem_cons.mpr ⟨rfl, List.forall_mem_cons.mpr ⟨rfl, List.forall_mem_cons.mpr ⟨rfl, List.forall_mem_cons.mpr ⟨rfl, fun _ h => absurd h List.not_mem_nil⟩⟩⟩⟩⟩) ?_
                                      exact J38720 
                                    have h38732 : 0 ≤ f_hs ∧ f_hs ≤ 0 := (vc_X12_tries_49 h38730 h38686 h38692 h38123 h38691)
                                    refine sv_aload_n (pc := 331) dX12_tries_331 rfl rfl ?_
                                    refine gf_X12_125 (pc := 332) dX12_tries_332 wF_X12_536 (A_106 hw) T38683 ?_
                                    refine mr_iload (pc := 335) (z := z38250) dX12_tries_335 rfl ?_
                                    refine sv_aload_n (pc := 337) dX12_tries_337 rfl rfl ?_
                                    refine gf_X12_125 (pc := 338) dX12_tries_338 wF_X12_536 (A_106 hw) T38683 ?_
                                    refine mr_iload (pc := 341) (z := z38250) dX12_tries_341 rfl ?_
                                    refine sv_aload_n (pc := 343) dX12_tries_343 rfl rfl ?_
                                    refine mr_iload (pc := 344) (z := z38679) dX12_tries_344 rfl ?_
                                    obtain ⟨z38733, q38734⟩ : ∃ z, μ38680 184 (z38679.toNat) = z := ⟨_, rfl⟩
                                    have h38735 : (0 ≤ z38733 ∧ z38733 ≤ 5) := by rw [← q38734]; exact T38683 184 184 (A_184 hw) (z38679.toNat)
                                    refine mr_cVP (pc := 346) (c_X12_acted_v hw T38683 h38729 (F38684.f (A_188 hw) rfl q38397) (F38684.f (A_188 hw) rfl q38399) (F38684.f (A_188 hw) rfl q38401) (F38684.f (A_188 hw) rfl q38403) (F38684.f (A_188 hw) rfl q38405) (F38684.f (A_188 hw) rfl q38407) (F38684.f (A_184 hw) rfl (F38394.f (A_184 hw) rfl q38375)) (F38684.f (A_184 hw) rfl (F38394.f (A_184 hw) rfl q38378)) (F38684.f (A_184 hw) rfl (F38394.f (A_184 hw) rfl q38381)) (F38684.f (A_184 hw) rfl (F38394.f (A_184 hw) rfl q38384)) (F38684.f (A_184 hw) rfl (F38394.f (A_184 hw) rfl q38387)) (F38684.f (A_184 hw) rfl (F38394.f (A_184 hw) rfl q38390)) q38734 (vc_X12_tries_57 h38408.1 h38376 h38409) (vc_X12_tries_58 h38408.2.1 h38379 h38410) (vc_X12_tries_59 h38408.2.2.1 h38382 h38411) (vc_X12_tries_60 h38408.2.2.2.1 h38385 h38412) (vc_X12_tries_61 h38408.2.2.2.2.1 h38388 h38413) (vc_X12_tries_62 h38408.2.2.2.2.2.1 h38391 h38414)) (gOk _ _ _ _ _) dX12_tries_346 (tX12_acted _ _ _ _ _) ⟨wV_X12_acted, wL_X12_acted⟩ wM_X12_725 (gCX12 _ _ _ _ _) rfl (A_106 hw) rfl ⟨le_t rfl, le_t rfl⟩ ⟨le_t rfl, le_t rfl⟩ rfl (le_t rfl) fun z38740 h38739 => ?_
                                    refine sv_aload_n (pc := 349) dX12_tries_349 rfl rfl ?_
                                    refine gf_X12_122 (pc := 350) dX12_tries_350 wF_X12_526 (A_106 hw) T38683 ?_
                                    refine mr_iload (pc := 353) (z := z38679) dX12_tries_353 rfl ?_
                                    refine la_188 (pc := 355) dX12_tries_355 (A_188 hw) T38683 (rIx (n := 7) h38729 rfl) fun z38741 q38742 h38743 => ?_
                                    refine mr_isub (pc := 356) (x := z38740) (y := z38741) dX12_tries_356 ?_
                                    refine sv_aload_n (pc := 357) dX12_tries_357 rfl rfl ?_
                                    refine gf_X12_121 (pc := 358) dX12_tries_358 wF_X12_523 (A_106 hw) T38683 ?_
                                    refine mr_iload (pc := 361) (z := z38679) dX12_tries_361 rfl ?_
                                    refine la_187 (pc := 363) dX12_tries_363 (A_187 hw) T38683 (rIx (n := 8) h38729 rfl) fun z38744 q38745 h38746 => ?_
                                    refine mr_imul (pc := 364) (x := (z38740 - z38741)) (y := z38744) dX12_tries_364 ?_
                                    refine mr_gen (P := fun z => (-233280) ≤ z ∧ z ≤ 233280) (rMulS (m := 5) (k := 46656) (e := 233280) (rSub (e := (-5)) (f := 5) h38739.1 h38743 rfl) h38746 (by decide) rfl) fun z38747 q38748 h38749 => ?_
                                    refine mr_iadd (pc := 365) (x := z38250) (y := z38747) dX12_tries_365 ?_
                                    have h38750 : 0 ≤ (z38250 + z38747) ∧ (z38250 + z38747) < z14 := net_t (radix.keep h27.2.2.2.2.2.2.2.1 ((mF.call (mF.call (mF.call (mF.call (mF.call (mF.up (mF.up (mF.call mF.refl F23957 rfl) (A_190 hw) u23972 rfl) (A_189 hw) u23975 rfl) F36184 rfl) F37193 rfl) F38115 rfl) F38394 rfl) F38684 rfl) : mF [188999, 189999, 190999, 191999] w μ10 μ38680) (A_187 hw) (A_184 hw) (fun _ => rfl) (fun _ => rfl)) (digs.keep h38408.2.2.2.2.2.2.1 ((mF.call mF.refl F38684 rfl) : mF [191999] w μ38392 μ38680) (A_188 hw) (A_187 hw) (A_184 hw) (fun _ => rfl) (fun _ => rfl) (fun _ => rfl)) (vc_X12_tries_63 h38727 h38729) (vc_X12_tries_64 h23969 h38253 h27.1 h23970 h38252) q38745 q38734 q38742 (vc_X12_tries_65 h38739.2.1 h38735 h38739.1) (vc_X12_tries_66 h38739.2.1 h38735 h38739.1) q38748
                                    refine la_191 (pc := 366) dX12_tries_366 (A_191 hw) T38683 (vc_X12_tries_67 h38253 h38750 h23969 h27.1 h23970 h38252 h38749) fun z38751 q38752 h38753 => ?_
                                    refine ss_191 (pc := 367) dX12_tries_367 (A_191 hw) T38683 (rIx (n := 46656) h38252 rfl) h38753 fun μ38754 u38755 T38756 => ?_
                                    refine mr_iinc (pc := 368) (lv' := [(9, iv (z38679 + 1)), (0, .ref 106), (3, iv z36176), (6, iv z38109), (7, iv z38108), (8, iv z38250)]) dX12_tries_368 rfl (by decide) rfl ?_
                                    refine sv_goto (pc := 371) (tgt := 314) dX12_tries_371 (by decide) ?_
                                    refine mr_lvS (lv' := [(0, .ref 106), (3, iv z36176), (6, iv z38109), (7, iv z38108), (8, iv z38250), (9, iv (z38679 + 1))]) (List.forall_mem_cons.mpr ⟨rfl, List.forall_mem_cons.mpr ⟨rfl, List.forall_mem_cons.mpr ⟨rfl, List.forall_mem_cons.mpr ⟨rfl, List.forall_mem_cons.mpr ⟨rfl, List.forall_mem_cons.mpr ⟨rfl, fun _ h => absurd h List.not_mem_nil⟩⟩⟩⟩⟩⟩) ?_
                                    exact ih38690 (z38679 + 1) μ38754 ((f_k3 + z38751) - f_hs) z38751 T38756 (mF.up (mF.call mF.refl F38684 rfl) (A_191 hw) u38755 rfl) (cntU u38755 (rIx (n := 46656) h38252 rfl) rfl q38688 q38689) u38755.1 (rW (c := 1) (d := 7) (rAdd (e := 2) (f := 7) h38729 (rR (x := 1)) rfl) rfl) (vc_X12_tries_68 h38117 h38118 h38686 h38730 h38732 h37198 h38123 h38691 h38112 h38753) (vc_X12_tries_69 (nS h38687) h38727 h38729)
                                refine mr_lvS (lv' := [(0, .ref 106), (3, iv z36176), (6, iv z38109), (7, iv z38108), (8, iv z38250), (9, iv 1)]) (List.forall_mem_cons.mpr ⟨rfl, List.forall_mem_cons.mpr ⟨rfl, List.forall_mem_cons.mpr ⟨rfl, List.forall_mem_cons.mpr ⟨rfl, List.forall_mem_cons.mpr ⟨rfl, List.forall_mem_cons.mpr ⟨rfl, fun _ h => absurd h List.not_mem_nil⟩⟩⟩⟩⟩⟩) ?_
                                exact L38681 8 1 μ38392 f_k2 z38254 T38393 mF.refl (cntF F38394 (A_191 hw) rfl rfl q38121) (F38394.f (A_191 hw) rfl q38255) (rW (c := 1) (d := 7) (rR (x := 1)) rfl) (vc_X12_tries_70 h38117 h38118 h38372 h37198 h38123 h38112 h38373) vc_X12_tries_71
                              have h38757 : 1 ≤ z38254 ∧ z38254 ≤ 1 := (vc_X12_tries_72 h38372 h38256)
                              refine sv_goto (pc := 302) (tgt := 396) dX12_tries_302 (by decide) ?_
                              refine mr_iinc (pc := 396) (lv' := [(7, iv (z38108 + (-1))), (8, iv z38250), (0, .ref 106), (3, iv z36176), (6, iv z38109)]) dX12_tries_396 rfl (by decide) rfl ?_
                              refine sv_goto (pc := 399) (tgt := 278) dX12_tries_399 (by decide) ?_
                              refine mr_lvS (lv' := [(0, .ref 106), (3, iv z36176), (6, iv z38109), (7, iv (z38108 + (-1)))]) (List.forall_mem_cons.mpr ⟨rfl, List.forall_mem_cons.mpr ⟨rfl, List.forall_mem_cons.mpr ⟨rfl, List.forall_mem_cons.mpr ⟨rfl, fun _ h => absurd h List.not_mem_nil⟩⟩⟩⟩) ?_
                              exact ih38122 z38109 (z38108 + (-1)) μ38110 f_k2 T38114 (mF.call mF.refl F38115 rfl) q38121 h38112 (rW (c := (-1)) (d := 46655) (rAdd (e := (-1)) (f := 46654) h38249 (rR (x := (-1))) rfl) rfl) (vc_X12_tries_73 h38117 h38118 h37198 h38123 h38112) (vc_X12_tries_74 h38117 h38118 h37198 h38123 h38112) (vc_X12_tries_46 h36187 h36331 h38119 h38247 h36186 h36332 h36180 h36179 h38249) (vc_X12_tries_47 (nS h38120) h38119 h38247 h36187 h36331 h36332 h36179 h38249)
                          refine mr_lvS (lv' := [(0, .ref 106), (3, iv z36176), (6, iv 0), (7, iv (z36176 - 1))]) (List.forall_mem_cons.mpr ⟨rfl, List.forall_mem_cons.mpr ⟨rfl, List.forall_mem_cons.mpr ⟨rfl, List.forall_mem_cons.mpr ⟨rfl, fun _ h => absurd h List.not_mem_nil⟩⟩⟩⟩) ?_
                          exact L38111 46658 0 (z36176 - 1) μ37189 f_k T37192 mF.refl q37196 (rW (c := 0) (d := 1) (rR (x := 0)) rfl) (rW (c := (-1)) (d := 46655) (rSub (e := 0) (f := 46655) h36179 (rR (x := 1)) rfl) rfl) (vc_X12_tries_75 h37198) (vc_X12_tries_76 h37198) (vc_X12_tries_77 h36187 h36331 h36186 h36332 h36180 h36179) (vc_X12_tries_78 h36187 h36331 h36186 h36332 h36180 h36179)
                      obtain ⟨z38758, q38759⟩ : ∃ z, cnt μ36177 191 46656 = z := ⟨_, rfl⟩
                      have h38760 : 0 ≤ z38758 ∧ z38758 ≤ 46656 := by rw [← q38759]; exact cnt_rng (fun i => T36183 191 191 (A_191 hw) i) 46656
                      refine mr_lvS (lv' := [(0, .ref 106), (3, iv z36176), (6, iv 1)]) (List.forall_mem_cons.mpr ⟨rfl, List.forall_mem_cons.mpr ⟨rfl, List.forall_mem_cons.mpr ⟨rfl, fun _ h => absurd h List.not_mem_nil⟩⟩⟩) ?_
                      exact L37190 93314 1 μ36177 z38758 T36183 mF.refl q38759 (rW (c := 0) (d := 1) (rR (x := 1)) rfl) (vc_X12_tries_79 h38760)
                    have h38761 : 3 ≤ p1 ∧ p1 ≤ 3 := (vc_X12_tries_80 h36337 h4.2.1 h4.2.2.1 h8 h36333 h36335 h36336 h7)
                    refine mr_iload (pc := 259) (z := z36174) dX12_tries_259 rfl ?_
                    exact mr_iret dX12_tries_261 rfl (le_t rfl) (le_t rfl) T36183 (mF.call (mF.up (mF.up (mF.call (mF.call mF.refl F12 rfl) F23957 rfl) (A_190 hw) u23972 rfl) (A_189 hw) u23975 rfl) F36184 rfl) ⟨h36181, trivial⟩
                  have h38762 : 1 ≤ p1 ∧ p1 ≤ 1 := (vc_X12_tries_81 h36335 h4.2.1 h4.2.2.1 h8 h36333 h36334 h7)
                  refine mr_iload (pc := 251) (z := z36175) dX12_tries_251 rfl ?_
                  exact mr_iret dX12_tries_253 rfl (le_t rfl) (le_t rfl) T36183 (mF.call (mF.up (mF.up (mF.call (mF.call mF.refl F12 rfl) F23957 rfl) (A_190 hw) u23972 rfl) (A_189 hw) u23975 rfl) F36184 rfl) ⟨(rW (c := (-2147483648)) (d := 2147483647) h36180 rfl), trivial⟩
                have h38763 : 0 ≤ p1 ∧ p1 ≤ 0 := (vc_X12_tries_82 h36333 h4.2.1 h4.2.2.1 h8 h9 h7)
                refine mr_iload_n (pc := 244) (z := z36176) dX12_tries_244 rfl rfl ?_
                exact mr_iret dX12_tries_245 rfl (le_t rfl) (le_t rfl) T36183 (mF.call (mF.up (mF.up (mF.call (mF.call mF.refl F12 rfl) F23957 rfl) (A_190 hw) u23972 rfl) (A_189 hw) u23975 rfl) F36184 rfl) ⟨(rW (c := (-2147483648)) (d := 2147483647) h36179 rfl), trivial⟩
              have h38764 : 0 ≤ z36173 ∧ z36173 ≤ 46655 := (vc_X12_tries_83 h36331 h36186 h36187 h36182 h36180 h36179)
              refine sv_aload_n (pc := 82) dX12_tries_82 rfl rfl ?_
              refine gf_X12_124 (pc := 83) dX12_tries_83 wF_X12_533 (A_106 hw) T36183 ?_
              refine mr_iload (pc := 86) (z := z36173) dX12_tries_86 rfl ?_
              refine la_190 (pc := 88) dX12_tries_88 (A_190 hw) T36183 (rIx (n := 46656) h38764 rfl) fun z38765 q38766 h38767 => ?_
              have h38768 : 0 ≤ z38765 ∧ z38765 < z14 := quOK.st R36188 (vc_X12_tries_84 h36186 h36187 h36331 h38764 h36180 h36179) (vc_X12_tries_85 h36186 h36187 h36331 h38764 h36180 h36179) q38766
              refine mr_istore (pc := 89) (lv' := [(7, iv z38765), (0, .ref 106), (1, iv p1), (3, iv z36176), (4, iv z36175), (5, iv z36174), (6, iv z36173)]) dX12_tries_89 (by decide) rfl ?_
              refine mr_iconst (pc := 91) (z := 1) dX12_tries_91 ?_
              refine mr_istore (pc := 92) (lv' := [(8, iv 1), (7, iv z38765), (0, .ref 106), (1, iv p1), (3, iv z36176), (4, iv z36175), (5, iv z36174), (6, iv z36173)]) dX12_tries_92 (by decide) rfl ?_
              refine sv_aload_n (pc := 94) dX12_tries_94 rfl rfl ?_
              refine mr_iload (pc := 95) (z := z38765) dX12_tries_95 rfl ?_
              obtain ⟨z38769, q38770⟩ : ∃ z, μ36177 184 ((1 : Int).toNat) = z := ⟨_, rfl⟩
              have h38771 : (0 ≤ z38769 ∧ z38769 ≤ 5) := by rw [← q38770]; exact T36183 184 184 (A_184 hw) ((1 : Int).toNat)
              obtain ⟨z38772, q38773⟩ : ∃ z, μ36177 184 ((2 : Int).toNat) = z := ⟨_, rfl⟩
              have h38774 : (0 ≤ z38772 ∧ z38772 ≤ 5) := by rw [← q38773]; exact T36183 184 184 (A_184 hw) ((2 : Int).toNat)
              obtain ⟨z38775, q38776⟩ : ∃ z, μ36177 184 ((3 : Int).toNat) = z := ⟨_, rfl⟩
              have h38777 : (0 ≤ z38775 ∧ z38775 ≤ 5) := by rw [← q38776]; exact T36183 184 184 (A_184 hw) ((3 : Int).toNat)
              obtain ⟨z38778, q38779⟩ : ∃ z, μ36177 184 ((4 : Int).toNat) = z := ⟨_, rfl⟩
              have h38780 : (0 ≤ z38778 ∧ z38778 ≤ 5) := by rw [← q38779]; exact T36183 184 184 (A_184 hw) ((4 : Int).toNat)
              obtain ⟨z38781, q38782⟩ : ∃ z, μ36177 184 ((5 : Int).toNat) = z := ⟨_, rfl⟩
              have h38783 : (0 ≤ z38781 ∧ z38781 ≤ 5) := by rw [← q38782]; exact T36183 184 184 (A_184 hw) ((5 : Int).toNat)
              obtain ⟨z38784, q38785⟩ : ∃ z, μ36177 184 ((6 : Int).toNat) = z := ⟨_, rfl⟩
              have h38786 : (0 ≤ z38784 ∧ z38784 ≤ 5) := by rw [← q38785]; exact T36183 184 184 (A_184 hw) ((6 : Int).toNat)
              refine mr_cVV (pc := 97) (c_X12_open_r hw T36183 h38767 (F36184.f (A_187 hw) rfl (u23975.f (Or.inl (mAt.ne (A_189 hw) (A_187 hw) rfl)) (u23972.f (Or.inl (mAt.ne (A_190 hw) (A_187 hw) rfl)) (F23957.f (A_187 hw) rfl q16)))) (F36184.f (A_187 hw) rfl (u23975.f (Or.inl (mAt.ne (A_189 hw) (A_187 hw) rfl)) (u23972.f (Or.inl (mAt.ne (A_190 hw) (A_187 hw) rfl)) (F23957.f (A_187 hw) rfl q18)))) (F36184.f (A_187 hw) rfl (u23975.f (Or.inl (mAt.ne (A_189 hw) (A_187 hw) rfl)) (u23972.f (Or.inl (mAt.ne (A_190 hw) (A_187 hw) rfl)) (F23957.f (A_187 hw) rfl q20)))) (F36184.f (A_187 hw) rfl (u23975.f (Or.inl (mAt.ne (A_189 hw) (A_187 hw) rfl)) (u23972.f (Or.inl (mAt.ne (A_190 hw) (A_187 hw) rfl)) (F23957.f (A_187 hw) rfl q22)))) (F36184.f (A_187 hw) rfl (u23975.f (Or.inl (mAt.ne (A_189 hw) (A_187 hw) rfl)) (u23972.f (Or.inl (mAt.ne (A_190 hw) (A_187 hw) rfl)) (F23957.f (A_187 hw) rfl q24)))) (F36184.f (A_187 hw) rfl (u23975.f (Or.inl (mAt.ne (A_189 hw) (A_187 hw) rfl)) (u23972.f (Or.inl (mAt.ne (A_190 hw) (A_187 hw) rfl)) (F23957.f (A_187 hw) rfl q26)))) q38770 q38773 q38776 q38779 q38782 q38785 (vc_X12_tries_36 h27.2.1 h34) (vc_X12_tries_37 h27.2.2.1 h35) (vc_X12_tries_38 h27.2.2.2.1 h36) (vc_X12_tries_39 h27.2.2.2.2.1 h37) (vc_X12_tries_40 h27.2.2.2.2.2.1 h38) (vc_X12_tries_41 h27.2.2.2.2.2.2.1 h39)) (gOk _ _ _ _ _) dX12_tries_97 (tX12_open _ _ _ _ _) ⟨wV_X12_open, wL_X12_open⟩ wM_X12_722 (gCX12 _ _ _ _ _) rfl (A_106 hw) rfl ⟨le_t rfl, le_t rfl⟩ ⟨le_t rfl, le_t rfl⟩ rfl (le_t rfl) fun μ38787 T38788 F38789 h38790 => ?_
              obtain ⟨z38791, z38793, z38795, z38797, z38799, z38801, q38792, q38794, q38796, q38798, q38800, q38802, h38803⟩ := h38790
              have h38804 : (0 ≤ z38791 ∧ z38791 ≤ 5) := by rw [← q38792]; exact T38788 188 188 (A_188 hw) ((1 : Int).toNat)
              have h38805 : (0 ≤ z38793 ∧ z38793 ≤ 5) := by rw [← q38794]; exact T38788 188 188 (A_188 hw) ((2 : Int).toNat)
              have h38806 : (0 ≤ z38795 ∧ z38795 ≤ 5) := by rw [← q38796]; exact T38788 188 188 (A_188 hw) ((3 : Int).toNat)
              have h38807 : (0 ≤ z38797 ∧ z38797 ≤ 5) := by rw [← q38798]; exact T38788 188 188 (A_188 hw) ((4 : Int).toNat)
              have h38808 : (0 ≤ z38799 ∧ z38799 ≤ 5) := by rw [← q38800]; exact T38788 188 188 (A_188 hw) ((5 : Int).toNat)
              have h38809 : (0 ≤ z38801 ∧ z38801 ≤ 5) := by rw [← q38802]; exact T38788 188 188 (A_188 hw) ((6 : Int).toNat)
              refine mr_iconst (pc := 100) (z := 1) dX12_tries_100 ?_
              refine mr_istore (pc := 101) (lv' := [(9, iv 1), (8, iv 1), (7, iv z38765), (0, .ref 106), (1, iv p1), (3, iv z36176), (4, iv z36175), (5, iv z36174), (6, iv z36173)]) dX12_tries_101 (by decide) rfl ?_
              have L39124 : ∀ (nL39124 : Nat) (z39122 z39121 z39120 : Int) (μ39123 : mM), mT w μ39123 → mF [189999, 190999] w μ38787 μ39123 → (1 ≤ z39122 ∧ z39122 ≤ 46656) → (0 ≤ z39121 ∧ z39121 ≤ 1) → (1 ≤ z39120 ∧ z39120 ≤ 7) → (z36173 < z39122) → quOK μ39123 z39122 z14 → μ39123 190 (z36173).toNat = z38765 → (8 - z39120) < (nL39124 : Int) → sV (gG l D c H0 sa) mX12_tries (sRm 3 0 0) (sZ (gG l D c H0 sa) 0 0 (qI w [187999, 188999, 189999, 190999, 191999] μ (fun z μ1 => ((-2147483648) ≤ z ∧ z ≤ 2147483647) ∧ True))) 103 [(0, .ref 106), (1, iv p1), (3, iv z39122), (4, iv z36175), (5, iv z36174), (6, iv z36173), (7, iv z38765), (8, iv z39121), (9, iv z39120)] [] (mk w μ39123) 0 0 := by
                intro nL39124
                induction nL39124 with
                | zero => intro z39122 z39121 z39120 μ39123 T39128 F39129 h39125 h39126 h39127 h39131 R39132 R39133 h39134; exact ((vc_X12_tries_86 h39134 h39127)).elim
                | succ nL39124 ih39135 =>
                  intro z39122 z39121 z39120 μ39123 T39128 F39129 h39125 h39126 h39127 h39131 R39132 R39133 h39134
                  refine mr_iload (pc := 103) (z := z39120) dX12_tries_103 rfl ?_
                  refine mr_bipush (pc := 105) (z := 6) dX12_tries_105 (by decide) ?_
                  refine mr_icmp_gt (pc := 107) (tgt := 202) dX12_tries_107 (by decide) (r32 h39127 rfl) (r32 (rR (x := 6)) rfl) (fun h39169 => ?_) (fun h39169 => ?_)
                  · have h39170 : 7 ≤ z39120 ∧ z39120 ≤ 7 := (vc_X12_tries_87 h39169 h39127)
                    refine mr_iload (pc := 202) (z := z39121) dX12_tries_202 rfl ?_
                    refine mr_if_eq (pc := 204) (tgt := 234) dX12_tries_204 (by decide) (r32 h39126 rfl) (fun h39180 => ?_) (fun h39180 => ?_)
                    · have h39181 : 0 ≤ z39121 ∧ z39121 ≤ 0 := (vc_X12_tries_88 h39180 h39126)
                      refine mr_iinc (pc := 234) (lv' := [(6, iv (z36173 + 1)), (0, .ref 106), (1, iv p1), (3, iv z39122), (4, iv z36175), (5, iv z36174), (7, iv z38765), (8, iv z39121), (9, iv z39120)]) dX12_tries_234 rfl (by decide) rfl ?_
                      refine sv_goto (pc := 237) (tgt := 76) dX12_tries_237 (by decide) ?_
                      refine mr_lvS (lv' := [(0, .ref 106), (1, iv p1), (3, iv z39122), (4, iv z36175), (5, iv z36174), (6, iv (z36173 + 1))]) (List.forall_mem_cons.mpr ⟨rfl, List.forall_mem_cons.mpr ⟨rfl, List.forall_mem_cons.mpr ⟨rfl, List.forall_mem_cons.mpr ⟨rfl, List.forall_mem_cons.mpr ⟨rfl, List.forall_mem_cons.mpr ⟨rfl, fun _ h => absurd h List.not_mem_nil⟩⟩⟩⟩⟩⟩) ?_
                      exact ih36190 z39122 z36175 z36174 (z36173 + 1) μ39123 T39128 (mF.call (mF.call (mF.call mF.refl F36184 rfl) F38789 rfl) F39129 rfl) h39125 h36180 h36181 (rW (c := 0) (d := 46656) (rAdd (e := 1) (f := 46656) h38764 (rR (x := 1)) rfl) rfl) (vc_X12_tries_89 h36186 h36187 h36331 h39131 h38764 h36180 h36179 h39125) (vc_X12_tries_90 h36186 h36187 h36331 h39131 h38764 h36180 h36179 h39125) R39132 (vc_X12_tries_91 (nS h36189) h36186 h36187 h36331 h39131 h38764 h36180 h36179 h39125)
                    have h39182 : 1 ≤ z39121 ∧ z39121 ≤ 1 := (vc_X12_tries_92 h39180 h39126)
                    refine mr_iinc (pc := 207) (lv' := [(4, iv (z36175 + 1)), (0, .ref 106), (1, iv p1), (3, iv z39122), (5, iv z36174), (6, iv z36173), (7, iv z38765), (8, iv z39121), (9, iv z39120)]) dX12_tries_207 rfl (by decide) rfl ?_
                    refine sv_aload_n (pc := 210) dX12_tries_210 rfl rfl ?_
                    refine gf_X12_125 (pc := 211) dX12_tries_211 wF_X12_536 (A_106 hw) T39128 ?_
                    refine mr_iload (pc := 214) (z := z38765) dX12_tries_214 rfl ?_
                    refine mr_iconst (pc := 216) (z := 1) dX12_tries_216 ?_
                    refine ss_191 (pc := 217) dX12_tries_217 (A_191 hw) T39128 (rIx (n := 46656) h38767 rfl) (rW (c := 0) (d := 1) (rR (x := 1)) rfl) fun μ39183 u39184 T39185 => ?_
                    refine mr_iload (pc := 218) (z := z36174) dX12_tries_218 rfl ?_
                    refine mr_ldc (pc := 220) (z := (-99999999)) dX12_tries_220 wG_X12_29 (by decide) ?_
                    refine mr_icmp_ne (pc := 222) (tgt := 234) dX12_tries_222 (by decide) h36181 (r32 (rR (x := (-99999999))) rfl) (fun h39190 => ?_) (fun h39190 => ?_)
                    · refine mr_iinc (pc := 234) (lv' := [(6, iv (z36173 + 1)), (4, iv (z36175 + 1)), (0, .ref 106), (1, iv p1), (3, iv z39122), (5, iv z36174), (7, iv z38765), (8, iv z39121), (9, iv z39120)]) dX12_tries_234 rfl (by decide) rfl ?_
                      refine sv_goto (pc := 237) (tgt := 76) dX12_tries_237 (by decide) ?_
                      refine mr_lvS (lv' := [(0, .ref 106), (1, iv p1), (3, iv z39122), (4, iv (z36175 + 1)), (5, iv z36174), (6, iv (z36173 + 1))]) (List.forall_mem_cons.mpr ⟨rfl, List.forall_mem_cons.mpr ⟨rfl, List.forall_mem_cons.mpr ⟨rfl, List.forall_mem_cons.mpr ⟨rfl, List.forall_mem_cons.mpr ⟨rfl, List.forall_mem_cons.mpr ⟨rfl, fun _ h => absurd h List.not_mem_nil⟩⟩⟩⟩⟩⟩) ?_
                      exact ih36190 z39122 (z36175 + 1) z36174 (z36173 + 1) μ39183 T39185 (mF.up (mF.call (mF.call (mF.call mF.refl F36184 rfl) F38789 rfl) F39129 rfl) (A_191 hw) u39184 rfl) h39125 (vc_X12_tries_93 h36186 h36187 h36331 h39131 h38764 h36180 h36179 h39125) h36181 (rW (c := 0) (d := 46656) (rAdd (e := 1) (f := 46656) h38764 (rR (x := 1)) rfl) rfl) (vc_X12_tries_94 h36186 h36187 h36331 h39131 h38764 h36180 h36179 h39125) (vc_X12_tries_90 h36186 h36187 h36331 h39131 h38764 h36180 h36179 h39125) (quOK.keep R39132 hw ((mF.up mF.refl (A_191 hw) u39184 rfl) : mF [191999] w μ39123 μ39183) rfl) (vc_X12_tries_91 (nS h36189) h36186 h36187 h36331 h39131 h38764 h36180 h36179 h39125)
                    have h39191 : (-99999999) ≤ z36174 ∧ z36174 ≤ (-99999999) := (vc_X12_tries_95 h39190 h36181)
                    refine sv_aload_n (pc := 225) dX12_tries_225 rfl rfl ?_
                    refine gf_X12_123 (pc := 226) dX12_tries_226 wF_X12_530 (A_106 hw) T39185 ?_
                    refine mr_iload (pc := 229) (z := z38765) dX12_tries_229 rfl ?_
                    refine la_189 (pc := 231) dX12_tries_231 (A_189 hw) T39185 (rIx (n := 46656) h38767 rfl) fun z39192 q39193 h39194 => ?_
                    refine mr_istore (pc := 232) (lv' := [(5, iv z39192), (4, iv (z36175 + 1)), (0, .ref 106), (1, iv p1), (3, iv z39122), (6, iv z36173), (7, iv z38765), (8, iv z39121), (9, iv z39120)]) dX12_tries_232 (by decide) rfl ?_
                    refine mr_iinc (pc := 234) (lv' := [(6, iv (z36173 + 1)), (5, iv z39192), (4, iv (z36175 + 1)), (0, .ref 106), (1, iv p1), (3, iv z39122), (7, iv z38765), (8, iv z39121), (9, iv z39120)]) dX12_tries_234 rfl (by decide) rfl ?_
                    refine sv_goto (pc := 237) (tgt := 76) dX12_tries_237 (by decide) ?_
                    refine mr_lvS (lv' := [(0, .ref 106), (1, iv p1), (3, iv z39122), (4, iv (z36175 + 1)), (5, iv z39192), (6, iv (z36173 + 1))]) (List.forall_mem_cons.mpr ⟨rfl, List.forall_mem_cons.mpr ⟨rfl, List.forall_mem_cons.mpr ⟨rfl, List.forall_mem_cons.mpr ⟨rfl, List.forall_mem_cons.mpr ⟨rfl, List.forall_mem_cons.mpr ⟨rfl, fun _ h => absurd h List.not_mem_nil⟩⟩⟩⟩⟩⟩) ?_
                    exact ih36190 z39122 (z36175 + 1) z39192 (z36173 + 1) μ39183 T39185 (mF.up (mF.call (mF.call (mF.call mF.refl F36184 rfl) F38789 rfl) F39129 rfl) (A_191 hw) u39184 rfl) h39125 (vc_X12_tries_93 h36186 h36187 h36331 h39131 h38764 h36180 h36179 h39125) h39194 (rW (c := 0) (d := 46656) (rAdd (e := 1) (f := 46656) h38764 (rR (x := 1)) rfl) rfl) (vc_X12_tries_94 h36186 h36187 h36331 h39131 h38764 h36180 h36179 h39125) (vc_X12_tries_90 h36186 h36187 h36331 h39131 h38764 h36180 h36179 h39125) (quOK.keep R39132 hw ((mF.up mF.refl (A_191 hw) u39184 rfl) : mF [191999] w μ39123 μ39183) rfl) (vc_X12_tries_91 (nS h36189) h36186 h36187 h36331 h39131 h38764 h36180 h36179 h39125)
                  have h39195 : 1 ≤ z39120 ∧ z39120 ≤ 6 := (vc_X12_tries_96 h39169 h39127)
                  refine sv_aload_n (pc := 110) dX12_tries_110 rfl rfl ?_
                  refine mr_iload (pc := 111) (z := z39120) dX12_tries_111 rfl ?_
                  obtain ⟨z39196, q39197⟩ : ∃ z, μ39123 184 (z39120.toNat) = z := ⟨_, rfl⟩
                  have h39198 : (0 ≤ z39196 ∧ z39196 ≤ 5) := by rw [← q39197]; exact T39128 184 184 (A_184 hw) (z39120.toNat)
                  refine mr_cVP (pc := 113) (c_X12_acted_v hw T39128 h39195 (F39129.f (A_188 hw) rfl q38792) (F39129.f (A_188 hw) rfl q38794) (F39129.f (A_188 hw) rfl q38796) (F39129.f (A_188 hw) rfl q38798) (F39129.f (A_188 hw) rfl q38800) (F39129.f (A_188 hw) rfl q38802) (F39129.f (A_184 hw) rfl (F38789.f (A_184 hw) rfl q38770)) (F39129.f (A_184 hw) rfl (F38789.f (A_184 hw) rfl q38773)) (F39129.f (A_184 hw) rfl (F38789.f (A_184 hw) rfl q38776)) (F39129.f (A_184 hw) rfl (F38789.f (A_184 hw) rfl q38779)) (F39129.f (A_184 hw) rfl (F38789.f (A_184 hw) rfl q38782)) (F39129.f (A_184 hw) rfl (F38789.f (A_184 hw) rfl q38785)) q39197 (vc_X12_tries_97 h38803.1 h38771 h38804) (vc_X12_tries_98 h38803.2.1 h38774 h38805) (vc_X12_tries_99 h38803.2.2.1 h38777 h38806) (vc_X12_tries_100 h38803.2.2.2.1 h38780 h38807) (vc_X12_tries_101 h38803.2.2.2.2.1 h38783 h38808) (vc_X12_tries_102 h38803.2.2.2.2.2.1 h38786 h38809)) (gOk _ _ _ _ _) dX12_tries_113 (tX12_acted _ _ _ _ _) ⟨wV_X12_acted, wL_X12_acted⟩ wM_X12_725 (gCX12 _ _ _ _ _) rfl (A_106 hw) rfl ⟨le_t rfl, le_t rfl⟩ ⟨le_t rfl, le_t rfl⟩ rfl (le_t rfl) fun z39203 h39202 => ?_
                  refine mr_istore (pc := 116) (lv' := [(10, iv z39203), (0, .ref 106), (1, iv p1), (3, iv z39122), (4, iv z36175), (5, iv z36174), (6, iv z36173), (7, iv z38765), (8, iv z39121), (9, iv z39120)]) dX12_tries_116 (by decide) rfl ?_
                  refine mr_iload (pc := 118) (z := z39203) dX12_tries_118 rfl ?_
                  refine sv_aload_n (pc := 120) dX12_tries_120 rfl rfl ?_
                  refine gf_X12_122 (pc := 121) dX12_tries_121 wF_X12_526 (A_106 hw) T39128 ?_
                  refine mr_iload (pc := 124) (z := z39120) dX12_tries_124 rfl ?_
                  refine la_188 (pc := 126) dX12_tries_126 (A_188 hw) T39128 (rIx (n := 7) h39195 rfl) fun z39204 q39205 h39206 => ?_
                  refine mr_icmp_ne (pc := 127) (tgt := 133) dX12_tries_127 (by decide) (r32 h39202.1 rfl) (r32 h39206 rfl) (fun h39207 => ?_) (fun h39207 => ?_)
                  · refine mr_iconst (pc := 133) (z := 0) dX12_tries_133 ?_
                    refine mr_istore (pc := 134) (lv' := [(8, iv 0), (10, iv z39203), (0, .ref 106), (1, iv p1), (3, iv z39122), (4, iv z36175), (5, iv z36174), (6, iv z36173), (7, iv z38765), (9, iv z39120)]) dX12_tries_134 (by decide) rfl ?_
                    refine mr_iload (pc := 136) (z := z38765) dX12_tries_136 rfl ?_
                    refine mr_iload (pc := 138) (z := z39203) dX12_tries_138 rfl ?_
                    refine sv_aload_n (pc := 140) dX12_tries_140 rfl rfl ?_
                    refine gf_X12_122 (pc := 141) dX12_tries_141 wF_X12_526 (A_106 hw) T39128 ?_
                    refine mr_iload (pc := 144) (z := z39120) dX12_tries_144 rfl ?_
                    refine lk_188 (pc := 146) dX12_tries_146 (A_188 hw) (rIx (n := 7) h39195 rfl) q39205 ?_
                    refine mr_isub (pc := 147) (x := z39203) (y := z39204) dX12_tries_147 ?_
                    refine sv_aload_n (pc := 148) dX12_tries_148 rfl rfl ?_
                    refine gf_X12_121 (pc := 149) dX12_tries_149 wF_X12_523 (A_106 hw) T39128 ?_
                    refine mr_iload (pc := 152) (z := z39120) dX12_tries_152 rfl ?_
                    refine la_187 (pc := 154) dX12_tries_154 (A_187 hw) T39128 (rIx (n := 8) h39195 rfl) fun z39208 q39209 h39210 => ?_
                    refine mr_imul (pc := 155) (x := (z39203 - z39204)) (y := z39208) dX12_tries_155 ?_
                    refine mr_gen (P := fun z => (-233280) ≤ z ∧ z ≤ 233280) (rMulS (m := 5) (k := 46656) (e := 233280) (rSub (e := (-5)) (f := 5) h39202.1 h39206 rfl) h39210 (by decide) rfl) fun z39211 q39212 h39213 => ?_
                    refine mr_iadd (pc := 156) (x := z38765) (y := z39211) dX12_tries_156 ?_
                    have h39214 : 0 ≤ (z38765 + z39211) ∧ (z38765 + z39211) < z14 := net_t (radix.keep h27.2.2.2.2.2.2.2.1 ((mF.call (mF.call (mF.call (mF.up (mF.up (mF.call mF.refl F23957 rfl) (A_190 hw) u23972 rfl) (A_189 hw) u23975 rfl) F36184 rfl) F38789 rfl) F39129 rfl) : mF [188999, 189999, 190999, 191999] w μ10 μ39123) (A_187 hw) (A_184 hw) (fun _ => rfl) (fun _ => rfl)) (digs.keep h38803.2.2.2.2.2.2.1 ((mF.call mF.refl F39129 rfl) : mF [189999, 190999] w μ38787 μ39123) (A_188 hw) (A_187 hw) (A_184 hw) (fun _ => rfl) (fun _ => rfl) (fun _ => rfl)) (vc_X12_tries_103 h39169 h39195) (vc_X12_tries_104 h23969 h38768 h27.1 h23970 h38767) q39209 q39197 q39205 (vc_X12_tries_105 h39202.2.1 h39207 h39198 h39202.1 h39206) (vc_X12_tries_106 h39202.2.1 h39207 h39198 h39202.1 h39206) q39212
                    refine mr_istore (pc := 157) (lv' := [(11, iv (z38765 + z39211)), (8, iv 0), (10, iv z39203), (0, .ref 106), (1, iv p1), (3, iv z39122), (4, iv z36175), (5, iv z36174), (6, iv z36173), (7, iv z38765), (9, iv z39120)]) dX12_tries_157 (by decide) rfl ?_
                    refine sv_aload_n (pc := 159) dX12_tries_159 rfl rfl ?_
                    refine gf_X12_123 (pc := 160) dX12_tries_160 wF_X12_530 (A_106 hw) T39128 ?_
                    refine mr_iload (pc := 163) (z := (z38765 + z39211)) dX12_tries_163 rfl ?_
                    refine la_189 (pc := 165) dX12_tries_165 (A_189 hw) T39128 (vc_X12_tries_107 h38768 h39214 h23969 h27.1 h23970 h38767 h39213) fun z39215 q39216 h39217 => ?_
                    refine mr_if_ge (pc := 166) (tgt := 196) dX12_tries_166 (by decide) h39217 (fun h39218 => ?_) (fun h39218 => ?_)
                    · have h39219 : 0 ≤ z39215 ∧ z39215 ≤ 2147483647 := (vc_X12_tries_108 h39218 h39217)
                      refine mr_iinc (pc := 196) (lv' := [(9, iv (z39120 + 1)), (11, iv (z38765 + z39211)), (8, iv 0), (10, iv z39203), (0, .ref 106), (1, iv p1), (3, iv z39122), (4, iv z36175), (5, iv z36174), (6, iv z36173), (7, iv z38765)]) dX12_tries_196 rfl (by decide) rfl ?_
                      refine sv_goto (pc := 199) (tgt := 103) dX12_tries_199 (by decide) ?_
                      refine mr_lvS (lv' := [(0, .ref 106), (1, iv p1), (3, iv z39122), (4, iv z36175), (5, iv z36174), (6, iv z36173), (7, iv z38765), (8, iv 0), (9, iv (z39120 + 1))]) (List.forall_mem_cons.mpr ⟨rfl, List.forall_mem_cons.mpr ⟨rfl, List.forall_mem_cons.mpr ⟨rfl, List.forall_mem_cons.mpr ⟨rfl, List.forall_mem_cons.mpr ⟨rfl, List.forall_mem_cons.mpr ⟨rfl, List.forall_mem_cons.mpr ⟨rfl, List.forall_mem_cons.mpr ⟨rfl, List.forall_mem_cons.mpr ⟨rfl, fun _ h => absurd h List.not_mem_nil⟩⟩⟩⟩⟩⟩⟩⟩⟩) ?_
                      exact ih39135 z39122 0 (z39120 + 1) μ39123 T39128 (mF.call mF.refl F39129 rfl) h39125 (rW (c := 0) (d := 1) (rR (x := 0)) rfl) (rW (c := 1) (d := 7) (rAdd (e := 2) (f := 7) h39195 (rR (x := 1)) rfl) rfl) (vc_X12_tries_109 h36186 h36187 h36331 h39131 h38764 h36180 h36179 h39125) R39132 R39133 (vc_X12_tries_110 (nS h39134) h39169 h39195)
                    have h39220 : (-2147483648) ≤ z39215 ∧ z39215 ≤ (-1) := (vc_X12_tries_111 h39218 h39217)
                    have h39221 : z39122 < z14 := quOK.room R39132 (vc_X12_tries_112 h39131 h36186 h36187 h36331 h38764 h36180 h36179 h39125) (vc_X12_tries_113 h23969 h38768 h39214 h27.1 h23970 h38767 h39213) q39216 (vc_X12_tries_114 h39218 h39220)
                    refine sv_aload_n (pc := 169) dX12_tries_169 rfl rfl ?_
                    refine gf_X12_123 (pc := 170) dX12_tries_170 wF_X12_530 (A_106 hw) T39128 ?_
                    refine mr_iload (pc := 173) (z := (z38765 + z39211)) dX12_tries_173 rfl ?_
                    refine sv_aload_n (pc := 175) dX12_tries_175 rfl rfl ?_
                    refine gf_X12_123 (pc := 176) dX12_tries_176 wF_X12_530 (A_106 hw) T39128 ?_
                    refine mr_iload (pc := 179) (z := z38765) dX12_tries_179 rfl ?_
                    refine la_189 (pc := 181) dX12_tries_181 (A_189 hw) T39128 (rIx (n := 46656) h38767 rfl) fun z39222 q39223 h39224 => ?_
                    have h39225 : 0 ≤ z39222 ∧ z39222 ≤ z36173 := quOK.rd R39132 (vc_X12_tries_115 h36186 h36187 h36331 h39131 h39221 h27.1 h38764 h36180 h36179 h39125) (vc_X12_tries_116 h36186 h36187 h36331 h39131 h39221 h23969 h38768 h39214 h27.1 h23970 h38764 h36180 h36179 h38767 h39125 h39213) R39133 q39223
                    have h39226 : 0 ≤ z39222 ∧ z39222 ≤ 46656 := (vc_X12_tries_117 h36186 h36187 h36331 h39131 h39225 h39221 h27.1 h38764 h36180 h36179 h39125 h39224)
                    refine mr_iconst (pc := 182) (z := 1) dX12_tries_182 ?_
                    refine mr_iadd (pc := 183) (x := z39222) (y := 1) dX12_tries_183 ?_
                    refine ss_189 (pc := 184) dX12_tries_184 (A_189 hw) T39128 (vc_X12_tries_118 h38768 h39214 h23969 h39221 h27.1 h23970 h38767 h39125 h39213) (rW (c := (-2147483648)) (d := 2147483647) (rAdd (e := 1) (f := 46657) h39226 (rR (x := 1)) rfl) rfl) fun μ39227 u39228 T39229 => ?_
                    refine sv_aload_n (pc := 185) dX12_tries_185 rfl rfl ?_
                    refine gf_X12_124 (pc := 186) dX12_tries_186 wF_X12_533 (A_106 hw) T39229 ?_
                    refine mr_iload_n (pc := 189) (z := z39122) dX12_tries_189 rfl rfl ?_
                    refine mr_iload (pc := 190) (z := (z38765 + z39211)) dX12_tries_190 rfl ?_
                    refine ss_190 (pc := 192) dX12_tries_192 (A_190 hw) T39229 (vc_X12_tries_119 h39131 h39221 h23969 h36186 h36187 h36331 h38768 h39214 h39225 h27.1 h23970 h38764 h36180 h36179 h38767 h39125 h39213 h39226) (vc_X12_tries_120 h38768 h39214 h23969 h39221 h27.1 h23970 h38767 h39125 h39213) fun μ39230 u39231 T39232 => ?_
                    have Q39233 : quOK μ39230 (z39122 + 1) z14 := quOK.push R39132 (vc_X12_tries_121 h39131 h39221 h23969 h36186 h36187 h36331 h38768 h39214 h39225 h27.1 h23970 h38764 h36180 h36179 h38767 h39125 h39213 h39226) (vc_X12_tries_122 h23969 h38768 h39214 h39221 h39131 h27.1 h23970 h38764 h38767 h39125 h39213) q39216 (vc_X12_tries_114 h39218 h39220) u39228 (vc_X12_tries_123 h39131 h39221 h39225 h23969 h36186 h36187 h36331 h38768 h39214 h27.1 h23970 h38764 h36180 h36179 h38767 h39125 h39213 h39226) u39231
                    refine mr_iinc (pc := 193) (lv' := [(3, iv (z39122 + 1)), (11, iv (z38765 + z39211)), (8, iv 0), (10, iv z39203), (0, .ref 106), (1, iv p1), (4, iv z36175), (5, iv z36174), (6, iv z36173), (7, iv z38765), (9, iv z39120)]) dX12_tries_193 rfl (by decide) rfl ?_
                    refine mr_iinc (pc := 196) (lv' := [(9, iv (z39120 + 1)), (3, iv (z39122 + 1)), (11, iv (z38765 + z39211)), (8, iv 0), (10, iv z39203), (0, .ref 106), (1, iv p1), (4, iv z36175), (5, iv z36174), (6, iv z36173), (7, iv z38765)]) dX12_tries_196 rfl (by decide) rfl ?_
                    refine sv_goto (pc := 199) (tgt := 103) dX12_tries_199 (by decide) ?_
                    refine mr_lvS (lv' := [(0, .ref 106), (1, iv p1), (3, iv (z39122 + 1)), (4, iv z36175), (5, iv z36174), (6, iv z36173), (7, iv z38765), (8, iv 0), (9, iv (z39120 + 1))]) (List.forall_mem_cons.mpr ⟨rfl, List.forall_mem_cons.mpr ⟨rfl, List.forall_mem_cons.mpr ⟨rfl, List.forall_mem_cons.mpr ⟨rfl, List.forall_mem_cons.mpr ⟨rfl, List.forall_mem_cons.mpr ⟨rfl, List.forall_mem_cons.mpr ⟨rfl, List.forall_mem_cons.mpr ⟨rfl, List.forall_mem_cons.mpr ⟨rfl, fun _ h => absurd h List.not_mem_nil⟩⟩⟩⟩⟩⟩⟩⟩⟩) ?_
                    exact ih39135 (z39122 + 1) 0 (z39120 + 1) μ39230 T39232 (mF.up (mF.up (mF.call mF.refl F39129 rfl) (A_189 hw) u39228 rfl) (A_190 hw) u39231 rfl) (vc_X12_tries_125 h39131 h39221 h23969 h36186 h36187 h36331 h38768 h39214 h39225 h27.1 h23970 h38764 h36180 h36179 h38767 h39125 h39213 h39226) (rW (c := 0) (d := 1) (rR (x := 0)) rfl) (rW (c := 1) (d := 7) (rAdd (e := 2) (f := 7) h39195 (rR (x := 1)) rfl) rfl) (vc_X12_tries_126 h36186 h36187 h36331 h39131 h39221 h39225 h23969 h38768 h39214 h27.1 h23970 h38764 h36180 h36179 h38767 h39125 h39213 h39226) Q39233 (mU.f u39231 (Or.inr (vc_X12_tries_124 h36186 h36187 h36331 h39131 h39221 h39225 h23969 h38768 h39214 h27.1 h23970 h38764 h36180 h36179 h38767 h39125 h39213 h39226)) (mU.f u39228 (Or.inl (by decide)) R39133)) (vc_X12_tries_110 (nS h39134) h39169 h39195)
                  refine sv_goto (pc := 130) (tgt := 196) dX12_tries_130 (by decide) ?_
                  refine mr_iinc (pc := 196) (lv' := [(9, iv (z39120 + 1)), (10, iv z39203), (0, .ref 106), (1, iv p1), (3, iv z39122), (4, iv z36175), (5, iv z36174), (6, iv z36173), (7, iv z38765), (8, iv z39121)]) dX12_tries_196 rfl (by decide) rfl ?_
                  refine sv_goto (pc := 199) (tgt := 103) dX12_tries_199 (by decide) ?_
                  refine mr_lvS (lv' := [(0, .ref 106), (1, iv p1), (3, iv z39122), (4, iv z36175), (5, iv z36174), (6, iv z36173), (7, iv z38765), (8, iv z39121), (9, iv (z39120 + 1))]) (List.forall_mem_cons.mpr ⟨rfl, List.forall_mem_cons.mpr ⟨rfl, List.forall_mem_cons.mpr ⟨rfl, List.forall_mem_cons.mpr ⟨rfl, List.forall_mem_cons.mpr ⟨rfl, List.forall_mem_cons.mpr ⟨rfl, List.forall_mem_cons.mpr ⟨rfl, List.forall_mem_cons.mpr ⟨rfl, List.forall_mem_cons.mpr ⟨rfl, fun _ h => absurd h List.not_mem_nil⟩⟩⟩⟩⟩⟩⟩⟩⟩) ?_
                  exact ih39135 z39122 z39121 (z39120 + 1) μ39123 T39128 (mF.call mF.refl F39129 rfl) h39125 h39126 (rW (c := 1) (d := 7) (rAdd (e := 2) (f := 7) h39195 (rR (x := 1)) rfl) rfl) (vc_X12_tries_109 h36186 h36187 h36331 h39131 h38764 h36180 h36179 h39125) R39132 R39133 (vc_X12_tries_110 (nS h39134) h39169 h39195)
              refine mr_lvS (lv' := [(0, .ref 106), (1, iv p1), (3, iv z36176), (4, iv z36175), (5, iv z36174), (6, iv z36173), (7, iv z38765), (8, iv 1), (9, iv 1)]) (List.forall_mem_cons.mpr ⟨rfl, List.forall_mem_cons.mpr ⟨rfl, List.forall_mem_cons.mpr ⟨rfl, List.forall_mem_cons.mpr ⟨rfl, List.forall_mem_cons.mpr ⟨rfl, List.forall_mem_cons.mpr ⟨rfl, List.forall_mem_cons.mpr ⟨rfl, List.forall_mem_cons.mpr ⟨rfl, List.forall_mem_cons.mpr ⟨rfl, fun _ h => absurd h List.not_mem_nil⟩⟩⟩⟩⟩⟩⟩⟩⟩) ?_
              exact L39124 8 z36176 1 1 μ38787 T38788 mF.refl h36179 (rW (c := 0) (d := 1) (rR (x := 1)) rfl) (rW (c := 1) (d := 7) (rR (x := 1)) rfl) (vc_X12_tries_85 h36186 h36187 h36331 h38764 h36180 h36179) (quOK.keep R36188 hw ((mF.call mF.refl F38789 rfl) : mF [188999] w μ36177 μ38787) rfl) (F38789.f (A_190 hw) rfl q38766) vc_X12_tries_71
          refine mr_lvS (lv' := [(0, .ref 106), (1, iv p1), (3, iv 1), (4, iv 0), (5, iv (-99999999)), (6, iv 0)]) (List.forall_mem_cons.mpr ⟨rfl, List.forall_mem_cons.mpr ⟨rfl, List.forall_mem_cons.mpr ⟨rfl, List.forall_mem_cons.mpr ⟨rfl, List.forall_mem_cons.mpr ⟨rfl, List.forall_mem_cons.mpr ⟨rfl, fun _ h => absurd h List.not_mem_nil⟩⟩⟩⟩⟩⟩) ?_
          exact L36178 46658 1 0 (-99999999) 0 μ23974 T23976 mF.refl (rW (c := 1) (d := 46656) (rR (x := 1)) rfl) (rW (c := 0) (d := 46656) (rR (x := 0)) rfl) (rW (c := (-2147483648)) (d := 2147483647) (rR (x := (-99999999))) rfl) (rW (c := 0) (d := 46656) (rR (x := 0)) rfl) vc_X12_tries_127 vc_X12_tries_128 Q23977 vc_X12_tries_27
        have h39234 : 0 ≤ z23952 ∧ z23952 ≤ 46655 := (vc_X12_tries_129 h23969 h27.1 h23955)
        refine sv_aload_n (pc := 23) dX12_tries_23 rfl rfl ?_
        refine gf_X12_123 (pc := 24) dX12_tries_24 wF_X12_530 (A_106 hw) T23956 ?_
        refine mr_iload_n (pc := 27) (z := z23952) dX12_tries_27 rfl rfl ?_
        refine mr_iconst (pc := 28) (z := (-1)) dX12_tries_28 ?_
        refine ss_189 (pc := 29) dX12_tries_29 (A_189 hw) T23956 (rIx (n := 46656) h39234 rfl) (rW (c := (-2147483648)) (d := 2147483647) (rR (x := (-1))) rfl) fun μ39235 u39236 T39237 => ?_
        refine sv_aload_n (pc := 30) dX12_tries_30 rfl rfl ?_
        refine gf_X12_125 (pc := 31) dX12_tries_31 wF_X12_536 (A_106 hw) T39237 ?_
        refine mr_iload_n (pc := 34) (z := z23952) dX12_tries_34 rfl rfl ?_
        refine mr_iconst (pc := 35) (z := 0) dX12_tries_35 ?_
        refine ss_191 (pc := 36) dX12_tries_36 (A_191 hw) T39237 (rIx (n := 46656) h39234 rfl) (rW (c := 0) (d := 1) (rR (x := 0)) rfl) fun μ39238 u39239 T39240 => ?_
        refine mr_iinc (pc := 37) (lv' := [(3, iv (z23952 + 1)), (0, .ref 106), (1, iv p1), (2, iv z14)]) dX12_tries_37 rfl (by decide) rfl ?_
        refine sv_goto (pc := 40) (tgt := 18) dX12_tries_40 (by decide) ?_
        refine mr_lvS (lv' := [(0, .ref 106), (1, iv p1), (2, iv z14), (3, iv (z23952 + 1))]) (List.forall_mem_cons.mpr ⟨rfl, List.forall_mem_cons.mpr ⟨rfl, List.forall_mem_cons.mpr ⟨rfl, List.forall_mem_cons.mpr ⟨rfl, fun _ h => absurd h List.not_mem_nil⟩⟩⟩⟩) ?_
        exact ih23960 (z23952 + 1) μ39238 T39240 (mF.up (mF.up (mF.call mF.refl F23957 rfl) (A_189 hw) u39236 rfl) (A_191 hw) u39239 rfl) (rW (c := 0) (d := 46656) (rAdd (e := 1) (f := 46656) h39234 (rR (x := 1)) rfl) rfl) (vc_X12_tries_130 (nS h23959) h23969 h27.1 h39234)
    refine mr_lvS (lv' := [(0, .ref 106), (1, iv p1), (2, iv z14), (3, iv 0)]) (List.forall_mem_cons.mpr ⟨rfl, List.forall_mem_cons.mpr ⟨rfl, List.forall_mem_cons.mpr ⟨rfl, List.forall_mem_cons.mpr ⟨rfl, fun _ h => absurd h List.not_mem_nil⟩⟩⟩⟩) ?_
    exact L23954 46658 0 μ10 T11 mF.refl (rW (c := 0) (d := 46656) (rR (x := 0)) rfl) vc_X12_tries_27
  have h39241 : 0 ≤ z5 ∧ z5 ≤ 0 := (vc_X12_tries_131 h6 h4.2.1 h4.2.2.1 hp1 h4.1)
  have h39242 : p1 < (0 : Int) ∨ (3 : Int) < p1 := (h4.2.2.1 (vc_X12_tries_132 h4.2.1 h4.2.2.1 h6 hp1 h39241))
  refine mr_iconst (pc := 9) (z := (-1)) dX12_tries_9 ?_
  exact mr_iret dX12_tries_10 rfl (le_t rfl) (le_t rfl) hT mF.refl ⟨(rW (c := (-2147483648)) (d := 2147483647) (rR (x := (-1))) rfl), trivial⟩
