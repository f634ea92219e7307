section
theorem vc_X12_states_r_29 {z40 : Int} (h0 : 1 ≤ z40 ∧ z40 ≤ 7776) : 0 < z40 := by omega
theorem vc_X12_states_r_30 {z31 : Int} (h0 : 1 ≤ z31 ∧ z31 ≤ 1296) : 0 < z31 := by omega
theorem vc_X12_states_r_31 {z22 : Int} (h0 : 1 ≤ z22 ∧ z22 ≤ 216) : 0 < z22 := by omega
theorem vc_X12_states_r_32 {z13 : Int} (h0 : 1 ≤ z13 ∧ z13 ≤ 36) : 0 < z13 := by omega
theorem vc_X12_states_r_33 {z4 : Int} (h0 : 0 ≤ z4 ∧ z4 ≤ 5) : 0 < (1 * (z4 + 1)) := by omega
theorem vc_X12_states_r_34  : (0 : Int) < ((1 : Int) : Int) := by omega
set_option maxRecDepth 4000 in
set_option maxHeartbeats 4000000 in
theorem c_X12_states_r {l : Launch} {D : va_G} {c : Nat → ClassId} {H0 : Heap} {sa : Nat × Nat × (Nat → Int32)} {w : mW} {μ : mM} (hw : mWF w) (hT : mT w μ) : sC (gG l D c H0 sa) mX12_states 1 0 0 [.ref 106] (mk w μ) (qI w [187999] μ (fun z μ1 => ∃ o_w1 o_w2 o_w3 o_w4 o_w5 o_w6 : Int, μ1 187 ((1 : Int).toNat) = o_w1 ∧ μ1 187 ((2 : Int).toNat) = o_w2 ∧ μ1 187 ((3 : Int).toNat) = o_w3 ∧ μ1 187 ((4 : Int).toNat) = o_w4 ∧ μ1 187 ((5 : Int).toNat) = o_w5 ∧ μ1 187 ((6 : Int).toNat) = o_w6 ∧ (1 ≤ z ∧ z ≤ 46656) ∧ (1 ≤ o_w1) ∧ (1 ≤ o_w2) ∧ (1 ≤ o_w3) ∧ (1 ≤ o_w4) ∧ (1 ≤ o_w5) ∧ (1 ≤ o_w6) ∧ (radix μ1 187 184 z) ∧ True)) := by
  refine sC.of rfl (by decide) (le_t rfl) ?_
  refine mr_lvE (lv' := [(0, .ref 106)]) rfl ?_
  refine mr_iconst (pc := 0) (z := 1) dX12_states_0 ?_
  refine mr_istore_n (pc := 1) (lv' := [(1, iv 1), (0, .ref 106)]) dX12_states_1 rfl (by decide) rfl ?_
  refine mr_bipush (pc := 2) (z := 6) dX12_states_2 (by decide) ?_
  refine mr_istore_n (pc := 4) (lv' := [(2, iv 6), (1, iv 1), (0, .ref 106)]) dX12_states_4 rfl (by decide) rfl ?_
  refine mr_iload_n (pc := 5) (z := 6) dX12_states_5 rfl rfl ?_
  refine mr_iconst (pc := 6) (z := 1) dX12_states_6 ?_
  refine mr_icmp_lt (pc := 7) (tgt := 34) dX12_states_7 (by decide) (r32 (rR (x := 6)) rfl) (r32 (rR (x := 1)) rfl) (fun h => ((vc_X12_states_1 h)).elim) (fun _ => ?_)
  refine sv_aload_n (pc := 10) dX12_states_10 rfl rfl ?_
  refine gf_X12_121 (pc := 11) dX12_states_11 wF_X12_523 (A_106 hw) hT ?_
  refine mr_iload_n (pc := 14) (z := 6) dX12_states_14 rfl rfl ?_
  refine mr_iload_n (pc := 15) (z := 1) dX12_states_15 rfl rfl ?_
  refine ss_187 (pc := 16) dX12_states_16 (A_187 hw) hT (rIx (n := 8) (rR (x := 6)) rfl) (rW (c := 0) (d := 46656) (rR (x := 1)) rfl) fun μ1 u2 T3 => ?_
  refine mr_iload_n (pc := 17) (z := 1) dX12_states_17 rfl rfl ?_
  refine sv_aload_n (pc := 18) dX12_states_18 rfl rfl ?_
  refine gf_X12_118 (pc := 19) dX12_states_19 wF_X12_514 (A_106 hw) T3 ?_
  refine mr_iload_n (pc := 22) (z := 6) dX12_states_22 rfl rfl ?_
  refine la_184 (pc := 23) dX12_states_23 (A_184 hw) T3 (rIx (n := 7) (rR (x := 6)) rfl) fun z4 q5 h6 => ?_
  refine mr_iconst (pc := 24) (z := 1) dX12_states_24 ?_
  refine mr_iadd (pc := 25) (x := z4) (y := 1) dX12_states_25 ?_
  refine mr_imul (pc := 26) (x := 1) (y := (z4 + 1)) dX12_states_26 ?_
  refine mr_istore_n (pc := 27) (lv' := [(1, iv (1 * (z4 + 1))), (2, iv 6), (0, .ref 106)]) dX12_states_27 rfl (by decide) rfl ?_
  refine mr_iinc (pc := 28) (lv' := [(2, iv 5), (1, iv (1 * (z4 + 1))), (0, .ref 106)]) dX12_states_28 rfl (by decide) rfl ?_
  refine sv_goto (pc := 31) (tgt := 5) dX12_states_31 (by decide) ?_
  refine mr_iload_n (pc := 5) (z := 5) dX12_states_5 rfl rfl ?_
  refine mr_iconst (pc := 6) (z := 1) dX12_states_6 ?_
  refine mr_icmp_lt (pc := 7) (tgt := 34) dX12_states_7 (by decide) (r32 (rR (x := 5)) rfl) (r32 (rR (x := 1)) rfl) (fun h => ((vc_X12_states_2 h)).elim) (fun _ => ?_)
  refine sv_aload_n (pc := 10) dX12_states_10 rfl rfl ?_
  refine gf_X12_121 (pc := 11) dX12_states_11 wF_X12_523 (A_106 hw) T3 ?_
  refine mr_iload_n (pc := 14) (z := 5) dX12_states_14 rfl rfl ?_
  refine mr_iload_n (pc := 15) (z := (1 * (z4 + 1))) dX12_states_15 rfl rfl ?_
  refine ss_187 (pc := 16) dX12_states_16 (A_187 hw) T3 (rIx (n := 8) (rR (x := 5)) rfl) (rW (c := 0) (d := 46656) (rMulL (n := 1) (e := 1) (f := 6) (rAdd (e := 1) (f := 6) h6 (rR (x := 1)) rfl) rfl) rfl) fun μ7 u8 T9 => ?_
  refine mr_iload_n (pc := 17) (z := (1 * (z4 + 1))) dX12_states_17 rfl rfl ?_
  refine sv_aload_n (pc := 18) dX12_states_18 rfl rfl ?_
  refine gf_X12_118 (pc := 19) dX12_states_19 wF_X12_514 (A_106 hw) T9 ?_
  refine mr_iload_n (pc := 22) (z := 5) dX12_states_22 rfl rfl ?_
  refine la_184 (pc := 23) dX12_states_23 (A_184 hw) T9 (rIx (n := 7) (rR (x := 5)) rfl) fun z10 q11 h12 => ?_
  refine mr_iconst (pc := 24) (z := 1) dX12_states_24 ?_
  refine mr_iadd (pc := 25) (x := z10) (y := 1) dX12_states_25 ?_
  refine mr_imul (pc := 26) (x := (1 * (z4 + 1))) (y := (z10 + 1)) dX12_states_26 ?_
  refine mr_gen (P := fun z => 1 ≤ z ∧ z ≤ 36) (rMulP (rMulL (n := 1) (e := 1) (f := 6) (rAdd (e := 1) (f := 6) h6 (rR (x := 1)) rfl) rfl) (rAdd (e := 1) (f := 6) h12 (rR (x := 1)) rfl) rfl) fun z13 q14 h15 => ?_
  refine mr_istore_n (pc := 27) (lv' := [(1, iv z13), (2, iv 5), (0, .ref 106)]) dX12_states_27 rfl (by decide) rfl ?_
  refine mr_iinc (pc := 28) (lv' := [(2, iv 4), (1, iv z13), (0, .ref 106)]) dX12_states_28 rfl (by decide) rfl ?_
  refine sv_goto (pc := 31) (tgt := 5) dX12_states_31 (by decide) ?_
  refine mr_iload_n (pc := 5) (z := 4) dX12_states_5 rfl rfl ?_
  refine mr_iconst (pc := 6) (z := 1) dX12_states_6 ?_
  refine mr_icmp_lt (pc := 7) (tgt := 34) dX12_states_7 (by decide) (r32 (rR (x := 4)) rfl) (r32 (rR (x := 1)) rfl) (fun h => ((vc_X12_states_3 h)).elim) (fun _ => ?_)
  refine sv_aload_n (pc := 10) dX12_states_10 rfl rfl ?_
  refine gf_X12_121 (pc := 11) dX12_states_11 wF_X12_523 (A_106 hw) T9 ?_
  refine mr_iload_n (pc := 14) (z := 4) dX12_states_14 rfl rfl ?_
  refine mr_iload_n (pc := 15) (z := z13) dX12_states_15 rfl rfl ?_
  refine ss_187 (pc := 16) dX12_states_16 (A_187 hw) T9 (rIx (n := 8) (rR (x := 4)) rfl) (rW (c := 0) (d := 46656) h15 rfl) fun μ16 u17 T18 => ?_
  refine mr_iload_n (pc := 17) (z := z13) dX12_states_17 rfl rfl ?_
  refine sv_aload_n (pc := 18) dX12_states_18 rfl rfl ?_
  refine gf_X12_118 (pc := 19) dX12_states_19 wF_X12_514 (A_106 hw) T18 ?_
  refine mr_iload_n (pc := 22) (z := 4) dX12_states_22 rfl rfl ?_
  refine la_184 (pc := 23) dX12_states_23 (A_184 hw) T18 (rIx (n := 7) (rR (x := 4)) rfl) fun z19 q20 h21 => ?_
  refine mr_iconst (pc := 24) (z := 1) dX12_states_24 ?_
  refine mr_iadd (pc := 25) (x := z19) (y := 1) dX12_states_25 ?_
  refine mr_imul (pc := 26) (x := z13) (y := (z19 + 1)) dX12_states_26 ?_
  refine mr_gen (P := fun z => 1 ≤ z ∧ z ≤ 216) (rMulP h15 (rAdd (e := 1) (f := 6) h21 (rR (x := 1)) rfl) rfl) fun z22 q23 h24 => ?_
  refine mr_istore_n (pc := 27) (lv' := [(1, iv z22), (2, iv 4), (0, .ref 106)]) dX12_states_27 rfl (by decide) rfl ?_
  refine mr_iinc (pc := 28) (lv' := [(2, iv 3), (1, iv z22), (0, .ref 106)]) dX12_states_28 rfl (by decide) rfl ?_
  refine sv_goto (pc := 31) (tgt := 5) dX12_states_31 (by decide) ?_
  refine mr_iload_n (pc := 5) (z := 3) dX12_states_5 rfl rfl ?_
  refine mr_iconst (pc := 6) (z := 1) dX12_states_6 ?_
  refine mr_icmp_lt (pc := 7) (tgt := 34) dX12_states_7 (by decide) (r32 (rR (x := 3)) rfl) (r32 (rR (x := 1)) rfl) (fun h => ((vc_X12_states_4 h)).elim) (fun _ => ?_)
  refine sv_aload_n (pc := 10) dX12_states_10 rfl rfl ?_
  refine gf_X12_121 (pc := 11) dX12_states_11 wF_X12_523 (A_106 hw) T18 ?_
  refine mr_iload_n (pc := 14) (z := 3) dX12_states_14 rfl rfl ?_
  refine mr_iload_n (pc := 15) (z := z22) dX12_states_15 rfl rfl ?_
  refine ss_187 (pc := 16) dX12_states_16 (A_187 hw) T18 (rIx (n := 8) (rR (x := 3)) rfl) (rW (c := 0) (d := 46656) h24 rfl) fun μ25 u26 T27 => ?_
  refine mr_iload_n (pc := 17) (z := z22) dX12_states_17 rfl rfl ?_
  refine sv_aload_n (pc := 18) dX12_states_18 rfl rfl ?_
  refine gf_X12_118 (pc := 19) dX12_states_19 wF_X12_514 (A_106 hw) T27 ?_
  refine mr_iload_n (pc := 22) (z := 3) dX12_states_22 rfl rfl ?_
  refine la_184 (pc := 23) dX12_states_23 (A_184 hw) T27 (rIx (n := 7) (rR (x := 3)) rfl) fun z28 q29 h30 => ?_
  refine mr_iconst (pc := 24) (z := 1) dX12_states_24 ?_
  refine mr_iadd (pc := 25) (x := z28) (y := 1) dX12_states_25 ?_
  refine mr_imul (pc := 26) (x := z22) (y := (z28 + 1)) dX12_states_26 ?_
  refine mr_gen (P := fun z => 1 ≤ z ∧ z ≤ 1296) (rMulP h24 (rAdd (e := 1) (f := 6) h30 (rR (x := 1)) rfl) rfl) fun z31 q32 h33 => ?_
  refine mr_istore_n (pc := 27) (lv' := [(1, iv z31), (2, iv 3), (0, .ref 106)]) dX12_states_27 rfl (by decide) rfl ?_
  refine mr_iinc (pc := 28) (lv' := [(2, iv 2), (1, iv z31), (0, .ref 106)]) dX12_states_28 rfl (by decide) rfl ?_
  refine sv_goto (pc := 31) (tgt := 5) dX12_states_31 (by decide) ?_
  refine mr_iload_n (pc := 5) (z := 2) dX12_states_5 rfl rfl ?_
  refine mr_iconst (pc := 6) (z := 1) dX12_states_6 ?_
  refine mr_icmp_lt (pc := 7) (tgt := 34) dX12_states_7 (by decide) (r32 (rR (x := 2)) rfl) (r32 (rR (x := 1)) rfl) (fun h => ((vc_X12_states_5 h)).elim) (fun _ => ?_)
  refine sv_aload_n (pc := 10) dX12_states_10 rfl rfl ?_
  refine gf_X12_121 (pc := 11) dX12_states_11 wF_X12_523 (A_106 hw) T27 ?_
  refine mr_iload_n (pc := 14) (z := 2) dX12_states_14 rfl rfl ?_
  refine mr_iload_n (pc := 15) (z := z31) dX12_states_15 rfl rfl ?_
  refine ss_187 (pc := 16) dX12_states_16 (A_187 hw) T27 (rIx (n := 8) (rR (x := 2)) rfl) (rW (c := 0) (d := 46656) h33 rfl) fun μ34 u35 T36 => ?_
  refine mr_iload_n (pc := 17) (z := z31) dX12_states_17 rfl rfl ?_
  refine sv_aload_n (pc := 18) dX12_states_18 rfl rfl ?_
  refine gf_X12_118 (pc := 19) dX12_states_19 wF_X12_514 (A_106 hw) T36 ?_
  refine mr_iload_n (pc := 22) (z := 2) dX12_states_22 rfl rfl ?_
  refine la_184 (pc := 23) dX12_states_23 (A_184 hw) T36 (rIx (n := 7) (rR (x := 2)) rfl) fun z37 q38 h39 => ?_
  refine mr_iconst (pc := 24) (z := 1) dX12_states_24 ?_
  refine mr_iadd (pc := 25) (x := z37) (y := 1) dX12_states_25 ?_
  refine mr_imul (pc := 26) (x := z31) (y := (z37 + 1)) dX12_states_26 ?_
  refine mr_gen (P := fun z => 1 ≤ z ∧ z ≤ 7776) (rMulP h33 (rAdd (e := 1) (f := 6) h39 (rR (x := 1)) rfl) rfl) fun z40 q41 h42 => ?_
  refine mr_istore_n (pc := 27) (lv' := [(1, iv z40), (2, iv 2), (0, .ref 106)]) dX12_states_27 rfl (by decide) rfl ?_
  refine mr_iinc (pc := 28) (lv' := [(2, iv 1), (1, iv z40), (0, .ref 106)]) dX12_states_28 rfl (by decide) rfl ?_
  refine sv_goto (pc := 31) (tgt := 5) dX12_states_31 (by decide) ?_
  refine mr_iload_n (pc := 5) (z := 1) dX12_states_5 rfl rfl ?_
  refine mr_iconst (pc := 6) (z := 1) dX12_states_6 ?_
  refine mr_icmp_lt (pc := 7) (tgt := 34) dX12_states_7 (by decide) (r32 (rR (x := 1)) rfl) (r32 (rR (x := 1)) rfl) (fun h => ((vc_X12_states_6 h)).elim) (fun _ => ?_)
  refine sv_aload_n (pc := 10) dX12_states_10 rfl rfl ?_
  refine gf_X12_121 (pc := 11) dX12_states_11 wF_X12_523 (A_106 hw) T36 ?_
  refine mr_iload_n (pc := 14) (z := 1) dX12_states_14 rfl rfl ?_
  refine mr_iload_n (pc := 15) (z := z40) dX12_states_15 rfl rfl ?_
  refine ss_187 (pc := 16) dX12_states_16 (A_187 hw) T36 (rIx (n := 8) (rR (x := 1)) rfl) (rW (c := 0) (d := 46656) h42 rfl) fun μ43 u44 T45 => ?_
  refine mr_iload_n (pc := 17) (z := z40) dX12_states_17 rfl rfl ?_
  refine sv_aload_n (pc := 18) dX12_states_18 rfl rfl ?_
  refine gf_X12_118 (pc := 19) dX12_states_19 wF_X12_514 (A_106 hw) T45 ?_
  refine mr_iload_n (pc := 22) (z := 1) dX12_states_22 rfl rfl ?_
  refine la_184 (pc := 23) dX12_states_23 (A_184 hw) T45 (rIx (n := 7) (rR (x := 1)) rfl) fun z46 q47 h48 => ?_
  refine mr_iconst (pc := 24) (z := 1) dX12_states_24 ?_
  refine mr_iadd (pc := 25) (x := z46) (y := 1) dX12_states_25 ?_
  refine mr_imul (pc := 26) (x := z40) (y := (z46 + 1)) dX12_states_26 ?_
  refine mr_gen (P := fun z => 1 ≤ z ∧ z ≤ 46656) (rMulP h42 (rAdd (e := 1) (f := 6) h48 (rR (x := 1)) rfl) rfl) fun z49 q50 h51 => ?_
  refine mr_istore_n (pc := 27) (lv' := [(1, iv z49), (2, iv 1), (0, .ref 106)]) dX12_states_27 rfl (by decide) rfl ?_
  refine mr_iinc (pc := 28) (lv' := [(2, iv 0), (1, iv z49), (0, .ref 106)]) dX12_states_28 rfl (by decide) rfl ?_
  refine sv_goto (pc := 31) (tgt := 5) dX12_states_31 (by decide) ?_
  refine mr_iload_n (pc := 5) (z := 0) dX12_states_5 rfl rfl ?_
  refine mr_iconst (pc := 6) (z := 1) dX12_states_6 ?_
  refine mr_icmp_lt (pc := 7) (tgt := 34) dX12_states_7 (by decide) (r32 (rR (x := 0)) rfl) (r32 (rR (x := 1)) rfl) (fun _ => ?_) (fun h => ((vc_X12_states_7 h)).elim)
  refine mr_iload_n (pc := 34) (z := z49) dX12_states_34 rfl rfl ?_
  exact mr_iret dX12_states_35 rfl (le_t rfl) (le_t rfl) T45 (mF.up (mF.up (mF.up (mF.up (mF.up (mF.up mF.refl (A_187 hw) u2 rfl) (A_187 hw) u8 rfl) (A_187 hw) u17 rfl) (A_187 hw) u26 rfl) (A_187 hw) u35 rfl) (A_187 hw) u44 rfl) ⟨z40, z31, z22, z13, (1 * (z4 + 1)), 1, u44.1, (u44.f (Or.inr vc_X12_states_8) u35.1), (u44.f (Or.inr vc_X12_states_10) (u35.f (Or.inr vc_X12_states_9) u26.1)), (u44.f (Or.inr vc_X12_states_13) (u35.f (Or.inr vc_X12_states_12) (u26.f (Or.inr vc_X12_states_11) u17.1))), (u44.f (Or.inr vc_X12_states_17) (u35.f (Or.inr vc_X12_states_16) (u26.f (Or.inr vc_X12_states_15) (u17.f (Or.inr vc_X12_states_14) u8.1)))), (u44.f (Or.inr vc_X12_states_22) (u35.f (Or.inr vc_X12_states_21) (u26.f (Or.inr vc_X12_states_20) (u17.f (Or.inr vc_X12_states_19) (u8.f (Or.inr vc_X12_states_18) u2.1))))), h51, (vc_X12_states_23 h42), (vc_X12_states_24 h33), (vc_X12_states_25 h24), (vc_X12_states_26 h15), (vc_X12_states_27 h6), vc_X12_states_28, (radix.mk q47 (u44.f (Or.inl (mAt.ne (A_187 hw) (A_184 hw) rfl)) q38) (u44.f (Or.inl (mAt.ne (A_187 hw) (A_184 hw) rfl)) (u35.f (Or.inl (mAt.ne (A_187 hw) (A_184 hw) rfl)) q29)) (u44.f (Or.inl (mAt.ne (A_187 hw) (A_184 hw) rfl)) (u35.f (Or.inl (mAt.ne (A_187 hw) (A_184 hw) rfl)) (u26.f (Or.inl (mAt.ne (A_187 hw) (A_184 hw) rfl)) q20))) (u44.f (Or.inl (mAt.ne (A_187 hw) (A_184 hw) rfl)) (u35.f (Or.inl (mAt.ne (A_187 hw) (A_184 hw) rfl)) (u26.f (Or.inl (mAt.ne (A_187 hw) (A_184 hw) rfl)) (u17.f (Or.inl (mAt.ne (A_187 hw) (A_184 hw) rfl)) q11)))) (u44.f (Or.inl (mAt.ne (A_187 hw) (A_184 hw) rfl)) (u35.f (Or.inl (mAt.ne (A_187 hw) (A_184 hw) rfl)) (u26.f (Or.inl (mAt.ne (A_187 hw) (A_184 hw) rfl)) (u17.f (Or.inl (mAt.ne (A_187 hw) (A_184 hw) rfl)) (u8.f (Or.inl (mAt.ne (A_187 hw) (A_184 hw) rfl)) q5))))) u44.1 (u44.f (Or.inr vc_X12_states_8) u35.1) (u44.f (Or.inr vc_X12_states_10) (u35.f (Or.inr vc_X12_states_9) u26.1)) (u44.f (Or.inr vc_X12_states_13) (u35.f (Or.inr vc_X12_states_12) (u26.f (Or.inr vc_X12_states_11) u17.1))) (u44.f (Or.inr vc_X12_states_17) (u35.f (Or.inr vc_X12_states_16) (u26.f (Or.inr vc_X12_states_15) (u17.f (Or.inr vc_X12_states_14) u8.1)))) (u44.f (Or.inr vc_X12_states_22) (u35.f (Or.inr vc_X12_states_21) (u26.f (Or.inr vc_X12_states_20) (u17.f (Or.inr vc_X12_states_19) (u8.f (Or.inr vc_X12_states_18) u2.1))))) (vc_X12_states_r_29 h42) (vc_X12_states_r_30 h33) (vc_X12_states_r_31 h24) (vc_X12_states_r_32 h15) (vc_X12_states_r_33 h6) vc_X12_states_r_34 rfl q14.symm q23.symm q32.symm q41.symm q50.symm), trivial⟩
set_option maxRecDepth 4000 in
set_option maxHeartbeats 4000000 in
theorem c_X12_open_r {l : Launch} {D : va_G} {c : Nat → ClassId} {H0 : Heap} {sa : Nat × Nat × (Nat → Int32)} {w : mW} {μ : mM} (hw : mWF w) (hT : mT w μ) {p1 : Int} (hp1 : 0 ≤ p1 ∧ p1 ≤ 46655) {f_w1 : Int} (q_f_w1 : μ 187 ((1 : Int).toNat) = f_w1) {f_w2 : Int} (q_f_w2 : μ 187 ((2 : Int).toNat) = f_w2) {f_w3 : Int} (q_f_w3 : μ 187 ((3 : Int).toNat) = f_w3) {f_w4 : Int} (q_f_w4 : μ 187 ((4 : Int).toNat) = f_w4) {f_w5 : Int} (q_f_w5 : μ 187 ((5 : Int).toNat) = f_w5) {f_w6 : Int} (q_f_w6 : μ 187 ((6 : Int).toNat) = f_w6) {f_v1 : Int} (q_f_v1 : μ 184 ((1 : Int).toNat) = f_v1) {f_v2 : Int} (q_f_v2 : μ 184 ((2 : Int).toNat) = f_v2) {f_v3 : Int} (q_f_v3 : μ 184 ((3 : Int).toNat) = f_v3) {f_v4 : Int} (q_f_v4 : μ 184 ((4 : Int).toNat) = f_v4) {f_v5 : Int} (q_f_v5 : μ 184 ((5 : Int).toNat) = f_v5) {f_v6 : Int} (q_f_v6 : μ 184 ((6 : Int).toNat) = f_v6) (hq0 : 1 ≤ f_w1) (hq1 : 1 ≤ f_w2) (hq2 : 1 ≤ f_w3) (hq3 : 1 ≤ f_w4) (hq4 : 1 ≤ f_w5) (hq5 : 1 ≤ f_w6) : sC (gG l D c H0 sa) mX12_open 1 0 0 [.ref 106, iv p1] (mk w μ) (qV w [188999] μ (fun μ1 => ∃ o_h1 o_h2 o_h3 o_h4 o_h5 o_h6 : Int, μ1 188 ((1 : Int).toNat) = o_h1 ∧ μ1 188 ((2 : Int).toNat) = o_h2 ∧ μ1 188 ((3 : Int).toNat) = o_h3 ∧ μ1 188 ((4 : Int).toNat) = o_h4 ∧ μ1 188 ((5 : Int).toNat) = o_h5 ∧ μ1 188 ((6 : Int).toNat) = o_h6 ∧ (o_h1 ≤ f_v1) ∧ (o_h2 ≤ f_v2) ∧ (o_h3 ≤ f_v3) ∧ (o_h4 ≤ f_v4) ∧ (o_h5 ≤ f_v5) ∧ (o_h6 ≤ f_v6) ∧ (digs μ1 188 187 184 p1) ∧ True)) := by
  refine sC.of rfl (by decide) (le_t rfl) ?_
  have ht_f_w1 : (0 ≤ f_w1 ∧ f_w1 ≤ 46656) := by rw [← q_f_w1]; exact hT 187 187 (A_187 hw) ((1 : Int).toNat)
  have ht_f_w2 : (0 ≤ f_w2 ∧ f_w2 ≤ 46656) := by rw [← q_f_w2]; exact hT 187 187 (A_187 hw) ((2 : Int).toNat)
  have ht_f_w3 : (0 ≤ f_w3 ∧ f_w3 ≤ 46656) := by rw [← q_f_w3]; exact hT 187 187 (A_187 hw) ((3 : Int).toNat)
  have ht_f_w4 : (0 ≤ f_w4 ∧ f_w4 ≤ 46656) := by rw [← q_f_w4]; exact hT 187 187 (A_187 hw) ((4 : Int).toNat)
  have ht_f_w5 : (0 ≤ f_w5 ∧ f_w5 ≤ 46656) := by rw [← q_f_w5]; exact hT 187 187 (A_187 hw) ((5 : Int).toNat)
  have ht_f_w6 : (0 ≤ f_w6 ∧ f_w6 ≤ 46656) := by rw [← q_f_w6]; exact hT 187 187 (A_187 hw) ((6 : Int).toNat)
  have ht_f_v1 : (0 ≤ f_v1 ∧ f_v1 ≤ 5) := by rw [← q_f_v1]; exact hT 184 184 (A_184 hw) ((1 : Int).toNat)
  have ht_f_v2 : (0 ≤ f_v2 ∧ f_v2 ≤ 5) := by rw [← q_f_v2]; exact hT 184 184 (A_184 hw) ((2 : Int).toNat)
  have ht_f_v3 : (0 ≤ f_v3 ∧ f_v3 ≤ 5) := by rw [← q_f_v3]; exact hT 184 184 (A_184 hw) ((3 : Int).toNat)
  have ht_f_v4 : (0 ≤ f_v4 ∧ f_v4 ≤ 5) := by rw [← q_f_v4]; exact hT 184 184 (A_184 hw) ((4 : Int).toNat)
  have ht_f_v5 : (0 ≤ f_v5 ∧ f_v5 ≤ 5) := by rw [← q_f_v5]; exact hT 184 184 (A_184 hw) ((5 : Int).toNat)
  have ht_f_v6 : (0 ≤ f_v6 ∧ f_v6 ≤ 5) := by rw [← q_f_v6]; exact hT 184 184 (A_184 hw) ((6 : Int).toNat)
  have h1 : 1 ≤ f_w1 ∧ f_w1 ≤ 46656 := (vc_X12_open_1 hq0 ht_f_w1)
  have h2 : 1 ≤ f_w2 ∧ f_w2 ≤ 46656 := (vc_X12_open_1 hq1 ht_f_w2)
  have h3 : 1 ≤ f_w3 ∧ f_w3 ≤ 46656 := (vc_X12_open_1 hq2 ht_f_w3)
  have h4 : 1 ≤ f_w4 ∧ f_w4 ≤ 46656 := (vc_X12_open_1 hq3 ht_f_w4)
  have h5 : 1 ≤ f_w5 ∧ f_w5 ≤ 46656 := (vc_X12_open_1 hq4 ht_f_w5)
  have h6 : 1 ≤ f_w6 ∧ f_w6 ≤ 46656 := (vc_X12_open_1 hq5 ht_f_w6)
  refine mr_lvE (lv' := [(0, .ref 106), (1, iv p1)]) rfl ?_
  refine mr_iconst (pc := 0) (z := 1) dX12_open_0 ?_
  refine mr_istore_n (pc := 1) (lv' := [(2, iv 1), (0, .ref 106), (1, iv p1)]) dX12_open_1 rfl (by decide) rfl ?_
  refine mr_iload_n (pc := 2) (z := 1) dX12_open_2 rfl rfl ?_
  refine mr_bipush (pc := 3) (z := 6) dX12_open_3 (by decide) ?_
  refine mr_icmp_gt (pc := 5) (tgt := 37) dX12_open_5 (by decide) (r32 (rR (x := 1)) rfl) (r32 (rR (x := 6)) rfl) (fun h => ((vc_X12_states_1 h)).elim) (fun _ => ?_)
  refine sv_aload_n (pc := 8) dX12_open_8 rfl rfl ?_
  refine gf_X12_122 (pc := 9) dX12_open_9 wF_X12_526 (A_106 hw) hT ?_
  refine mr_iload_n (pc := 12) (z := 1) dX12_open_12 rfl rfl ?_
  refine mr_iload_n (pc := 13) (z := p1) dX12_open_13 rfl rfl ?_
  refine sv_aload_n (pc := 14) dX12_open_14 rfl rfl ?_
  refine gf_X12_121 (pc := 15) dX12_open_15 wF_X12_523 (A_106 hw) hT ?_
  refine mr_iload_n (pc := 18) (z := 1) dX12_open_18 rfl rfl ?_
  refine lk_187 (pc := 19) dX12_open_19 (A_187 hw) (rIx (n := 8) (rR (x := 1)) rfl) q_f_w1 ?_
  refine mr_idiv (pc := 20) (x := p1) (y := f_w1) dX12_open_20 (rW (c := 0) (d := 2147483647) hp1 rfl) (vc_X12_open_8 hq0 h1) ?_
  refine mr_gen (P := fun z => 0 ≤ z ∧ z ≤ 46655) (rDivV hp1 (vc_X12_open_8 hq0 h1) rfl) fun z169 q170 h171 => ?_
  refine sv_aload_n (pc := 21) dX12_open_21 rfl rfl ?_
  refine gf_X12_118 (pc := 22) dX12_open_22 wF_X12_514 (A_106 hw) hT ?_
  refine mr_iload_n (pc := 25) (z := 1) dX12_open_25 rfl rfl ?_
  refine lk_184 (pc := 26) dX12_open_26 (A_184 hw) (rIx (n := 7) (rR (x := 1)) rfl) q_f_v1 ?_
  refine mr_iconst (pc := 27) (z := 1) dX12_open_27 ?_
  refine mr_iadd (pc := 28) (x := f_v1) (y := 1) dX12_open_28 ?_
  refine mr_irem (pc := 29) (x := z169) (y := (f_v1 + 1)) dX12_open_29 (rW (c := 0) (d := 2147483647) h171 rfl) (vc_X12_open_9 ht_f_v1) ?_
  refine mr_gen (P := fun z => 0 ≤ z ∧ z ≤ 5) (rModV (rAdd (e := 1) (f := 6) ht_f_v1 (rR (x := 1)) rfl) (vc_X12_open_9 ht_f_v1) rfl) fun z172 q173 h174 => ?_
  refine ss_188 (pc := 30) dX12_open_30 (A_188 hw) hT (rIx (n := 7) (rR (x := 1)) rfl) h174 fun μ175 u176 T177 => ?_
  refine mr_iinc (pc := 31) (lv' := [(2, iv 2), (0, .ref 106), (1, iv p1)]) dX12_open_31 rfl (by decide) rfl ?_
  refine sv_goto (pc := 34) (tgt := 2) dX12_open_34 (by decide) ?_
  refine mr_iload_n (pc := 2) (z := 2) dX12_open_2 rfl rfl ?_
  refine mr_bipush (pc := 3) (z := 6) dX12_open_3 (by decide) ?_
  refine mr_icmp_gt (pc := 5) (tgt := 37) dX12_open_5 (by decide) (r32 (rR (x := 2)) rfl) (r32 (rR (x := 6)) rfl) (fun h => ((vc_X12_open_10 h)).elim) (fun _ => ?_)
  refine sv_aload_n (pc := 8) dX12_open_8 rfl rfl ?_
  refine gf_X12_122 (pc := 9) dX12_open_9 wF_X12_526 (A_106 hw) T177 ?_
  refine mr_iload_n (pc := 12) (z := 2) dX12_open_12 rfl rfl ?_
  refine mr_iload_n (pc := 13) (z := p1) dX12_open_13 rfl rfl ?_
  refine sv_aload_n (pc := 14) dX12_open_14 rfl rfl ?_
  refine gf_X12_121 (pc := 15) dX12_open_15 wF_X12_523 (A_106 hw) T177 ?_
  refine mr_iload_n (pc := 18) (z := 2) dX12_open_18 rfl rfl ?_
  refine lk_187 (pc := 19) dX12_open_19 (A_187 hw) (rIx (n := 8) (rR (x := 2)) rfl) (u176.f (Or.inl (mAt.ne (A_188 hw) (A_187 hw) rfl)) q_f_w2) ?_
  refine mr_idiv (pc := 20) (x := p1) (y := f_w2) dX12_open_20 (rW (c := 0) (d := 2147483647) hp1 rfl) (vc_X12_open_8 hq1 h2) ?_
  refine mr_gen (P := fun z => 0 ≤ z ∧ z ≤ 46655) (rDivV hp1 (vc_X12_open_8 hq1 h2) rfl) fun z178 q179 h180 => ?_
  refine sv_aload_n (pc := 21) dX12_open_21 rfl rfl ?_
  refine gf_X12_118 (pc := 22) dX12_open_22 wF_X12_514 (A_106 hw) T177 ?_
  refine mr_iload_n (pc := 25) (z := 2) dX12_open_25 rfl rfl ?_
  refine lk_184 (pc := 26) dX12_open_26 (A_184 hw) (rIx (n := 7) (rR (x := 2)) rfl) (u176.f (Or.inl (mAt.ne (A_188 hw) (A_184 hw) rfl)) q_f_v2) ?_
  refine mr_iconst (pc := 27) (z := 1) dX12_open_27 ?_
  refine mr_iadd (pc := 28) (x := f_v2) (y := 1) dX12_open_28 ?_
  refine mr_irem (pc := 29) (x := z178) (y := (f_v2 + 1)) dX12_open_29 (rW (c := 0) (d := 2147483647) h180 rfl) (vc_X12_open_9 ht_f_v2) ?_
  refine mr_gen (P := fun z => 0 ≤ z ∧ z ≤ 5) (rModV (rAdd (e := 1) (f := 6) ht_f_v2 (rR (x := 1)) rfl) (vc_X12_open_9 ht_f_v2) rfl) fun z181 q182 h183 => ?_
  refine ss_188 (pc := 30) dX12_open_30 (A_188 hw) T177 (rIx (n := 7) (rR (x := 2)) rfl) h183 fun μ184 u185 T186 => ?_
  refine mr_iinc (pc := 31) (lv' := [(2, iv 3), (0, .ref 106), (1, iv p1)]) dX12_open_31 rfl (by decide) rfl ?_
  refine sv_goto (pc := 34) (tgt := 2) dX12_open_34 (by decide) ?_
  refine mr_iload_n (pc := 2) (z := 3) dX12_open_2 rfl rfl ?_
  refine mr_bipush (pc := 3) (z := 6) dX12_open_3 (by decide) ?_
  refine mr_icmp_gt (pc := 5) (tgt := 37) dX12_open_5 (by decide) (r32 (rR (x := 3)) rfl) (r32 (rR (x := 6)) rfl) (fun h => ((vc_X12_open_13 h)).elim) (fun _ => ?_)
  refine sv_aload_n (pc := 8) dX12_open_8 rfl rfl ?_
  refine gf_X12_122 (pc := 9) dX12_open_9 wF_X12_526 (A_106 hw) T186 ?_
  refine mr_iload_n (pc := 12) (z := 3) dX12_open_12 rfl rfl ?_
  refine mr_iload_n (pc := 13) (z := p1) dX12_open_13 rfl rfl ?_
  refine sv_aload_n (pc := 14) dX12_open_14 rfl rfl ?_
  refine gf_X12_121 (pc := 15) dX12_open_15 wF_X12_523 (A_106 hw) T186 ?_
  refine mr_iload_n (pc := 18) (z := 3) dX12_open_18 rfl rfl ?_
  refine lk_187 (pc := 19) dX12_open_19 (A_187 hw) (rIx (n := 8) (rR (x := 3)) rfl) (u185.f (Or.inl (mAt.ne (A_188 hw) (A_187 hw) rfl)) (u176.f (Or.inl (mAt.ne (A_188 hw) (A_187 hw) rfl)) q_f_w3)) ?_
  refine mr_idiv (pc := 20) (x := p1) (y := f_w3) dX12_open_20 (rW (c := 0) (d := 2147483647) hp1 rfl) (vc_X12_open_8 hq2 h3) ?_
  refine mr_gen (P := fun z => 0 ≤ z ∧ z ≤ 46655) (rDivV hp1 (vc_X12_open_8 hq2 h3) rfl) fun z187 q188 h189 => ?_
  refine sv_aload_n (pc := 21) dX12_open_21 rfl rfl ?_
  refine gf_X12_118 (pc := 22) dX12_open_22 wF_X12_514 (A_106 hw) T186 ?_
  refine mr_iload_n (pc := 25) (z := 3) dX12_open_25 rfl rfl ?_
  refine lk_184 (pc := 26) dX12_open_26 (A_184 hw) (rIx (n := 7) (rR (x := 3)) rfl) (u185.f (Or.inl (mAt.ne (A_188 hw) (A_184 hw) rfl)) (u176.f (Or.inl (mAt.ne (A_188 hw) (A_184 hw) rfl)) q_f_v3)) ?_
  refine mr_iconst (pc := 27) (z := 1) dX12_open_27 ?_
  refine mr_iadd (pc := 28) (x := f_v3) (y := 1) dX12_open_28 ?_
  refine mr_irem (pc := 29) (x := z187) (y := (f_v3 + 1)) dX12_open_29 (rW (c := 0) (d := 2147483647) h189 rfl) (vc_X12_open_9 ht_f_v3) ?_
  refine mr_gen (P := fun z => 0 ≤ z ∧ z ≤ 5) (rModV (rAdd (e := 1) (f := 6) ht_f_v3 (rR (x := 1)) rfl) (vc_X12_open_9 ht_f_v3) rfl) fun z190 q191 h192 => ?_
  refine ss_188 (pc := 30) dX12_open_30 (A_188 hw) T186 (rIx (n := 7) (rR (x := 3)) rfl) h192 fun μ193 u194 T195 => ?_
  refine mr_iinc (pc := 31) (lv' := [(2, iv 4), (0, .ref 106), (1, iv p1)]) dX12_open_31 rfl (by decide) rfl ?_
  refine sv_goto (pc := 34) (tgt := 2) dX12_open_34 (by decide) ?_
  refine mr_iload_n (pc := 2) (z := 4) dX12_open_2 rfl rfl ?_
  refine mr_bipush (pc := 3) (z := 6) dX12_open_3 (by decide) ?_
  refine mr_icmp_gt (pc := 5) (tgt := 37) dX12_open_5 (by decide) (r32 (rR (x := 4)) rfl) (r32 (rR (x := 6)) rfl) (fun h => ((vc_X12_open_16 h)).elim) (fun _ => ?_)
  refine sv_aload_n (pc := 8) dX12_open_8 rfl rfl ?_
  refine gf_X12_122 (pc := 9) dX12_open_9 wF_X12_526 (A_106 hw) T195 ?_
  refine mr_iload_n (pc := 12) (z := 4) dX12_open_12 rfl rfl ?_
  refine mr_iload_n (pc := 13) (z := p1) dX12_open_13 rfl rfl ?_
  refine sv_aload_n (pc := 14) dX12_open_14 rfl rfl ?_
  refine gf_X12_121 (pc := 15) dX12_open_15 wF_X12_523 (A_106 hw) T195 ?_
  refine mr_iload_n (pc := 18) (z := 4) dX12_open_18 rfl rfl ?_
  refine lk_187 (pc := 19) dX12_open_19 (A_187 hw) (rIx (n := 8) (rR (x := 4)) rfl) (u194.f (Or.inl (mAt.ne (A_188 hw) (A_187 hw) rfl)) (u185.f (Or.inl (mAt.ne (A_188 hw) (A_187 hw) rfl)) (u176.f (Or.inl (mAt.ne (A_188 hw) (A_187 hw) rfl)) q_f_w4))) ?_
  refine mr_idiv (pc := 20) (x := p1) (y := f_w4) dX12_open_20 (rW (c := 0) (d := 2147483647) hp1 rfl) (vc_X12_open_8 hq3 h4) ?_
  refine mr_gen (P := fun z => 0 ≤ z ∧ z ≤ 46655) (rDivV hp1 (vc_X12_open_8 hq3 h4) rfl) fun z196 q197 h198 => ?_
  refine sv_aload_n (pc := 21) dX12_open_21 rfl rfl ?_
  refine gf_X12_118 (pc := 22) dX12_open_22 wF_X12_514 (A_106 hw) T195 ?_
  refine mr_iload_n (pc := 25) (z := 4) dX12_open_25 rfl rfl ?_
  refine lk_184 (pc := 26) dX12_open_26 (A_184 hw) (rIx (n := 7) (rR (x := 4)) rfl) (u194.f (Or.inl (mAt.ne (A_188 hw) (A_184 hw) rfl)) (u185.f (Or.inl (mAt.ne (A_188 hw) (A_184 hw) rfl)) (u176.f (Or.inl (mAt.ne (A_188 hw) (A_184 hw) rfl)) q_f_v4))) ?_
  refine mr_iconst (pc := 27) (z := 1) dX12_open_27 ?_
  refine mr_iadd (pc := 28) (x := f_v4) (y := 1) dX12_open_28 ?_
  refine mr_irem (pc := 29) (x := z196) (y := (f_v4 + 1)) dX12_open_29 (rW (c := 0) (d := 2147483647) h198 rfl) (vc_X12_open_9 ht_f_v4) ?_
  refine mr_gen (P := fun z => 0 ≤ z ∧ z ≤ 5) (rModV (rAdd (e := 1) (f := 6) ht_f_v4 (rR (x := 1)) rfl) (vc_X12_open_9 ht_f_v4) rfl) fun z199 q200 h201 => ?_
  refine ss_188 (pc := 30) dX12_open_30 (A_188 hw) T195 (rIx (n := 7) (rR (x := 4)) rfl) h201 fun μ202 u203 T204 => ?_
  refine mr_iinc (pc := 31) (lv' := [(2, iv 5), (0, .ref 106), (1, iv p1)]) dX12_open_31 rfl (by decide) rfl ?_
  refine sv_goto (pc := 34) (tgt := 2) dX12_open_34 (by decide) ?_
  refine mr_iload_n (pc := 2) (z := 5) dX12_open_2 rfl rfl ?_
  refine mr_bipush (pc := 3) (z := 6) dX12_open_3 (by decide) ?_
  refine mr_icmp_gt (pc := 5) (tgt := 37) dX12_open_5 (by decide) (r32 (rR (x := 5)) rfl) (r32 (rR (x := 6)) rfl) (fun h => ((vc_X12_open_19 h)).elim) (fun _ => ?_)
  refine sv_aload_n (pc := 8) dX12_open_8 rfl rfl ?_
  refine gf_X12_122 (pc := 9) dX12_open_9 wF_X12_526 (A_106 hw) T204 ?_
  refine mr_iload_n (pc := 12) (z := 5) dX12_open_12 rfl rfl ?_
  refine mr_iload_n (pc := 13) (z := p1) dX12_open_13 rfl rfl ?_
  refine sv_aload_n (pc := 14) dX12_open_14 rfl rfl ?_
  refine gf_X12_121 (pc := 15) dX12_open_15 wF_X12_523 (A_106 hw) T204 ?_
  refine mr_iload_n (pc := 18) (z := 5) dX12_open_18 rfl rfl ?_
  refine lk_187 (pc := 19) dX12_open_19 (A_187 hw) (rIx (n := 8) (rR (x := 5)) rfl) (u203.f (Or.inl (mAt.ne (A_188 hw) (A_187 hw) rfl)) (u194.f (Or.inl (mAt.ne (A_188 hw) (A_187 hw) rfl)) (u185.f (Or.inl (mAt.ne (A_188 hw) (A_187 hw) rfl)) (u176.f (Or.inl (mAt.ne (A_188 hw) (A_187 hw) rfl)) q_f_w5)))) ?_
  refine mr_idiv (pc := 20) (x := p1) (y := f_w5) dX12_open_20 (rW (c := 0) (d := 2147483647) hp1 rfl) (vc_X12_open_8 hq4 h5) ?_
  refine mr_gen (P := fun z => 0 ≤ z ∧ z ≤ 46655) (rDivV hp1 (vc_X12_open_8 hq4 h5) rfl) fun z205 q206 h207 => ?_
  refine sv_aload_n (pc := 21) dX12_open_21 rfl rfl ?_
  refine gf_X12_118 (pc := 22) dX12_open_22 wF_X12_514 (A_106 hw) T204 ?_
  refine mr_iload_n (pc := 25) (z := 5) dX12_open_25 rfl rfl ?_
  refine lk_184 (pc := 26) dX12_open_26 (A_184 hw) (rIx (n := 7) (rR (x := 5)) rfl) (u203.f (Or.inl (mAt.ne (A_188 hw) (A_184 hw) rfl)) (u194.f (Or.inl (mAt.ne (A_188 hw) (A_184 hw) rfl)) (u185.f (Or.inl (mAt.ne (A_188 hw) (A_184 hw) rfl)) (u176.f (Or.inl (mAt.ne (A_188 hw) (A_184 hw) rfl)) q_f_v5)))) ?_
  refine mr_iconst (pc := 27) (z := 1) dX12_open_27 ?_
  refine mr_iadd (pc := 28) (x := f_v5) (y := 1) dX12_open_28 ?_
  refine mr_irem (pc := 29) (x := z205) (y := (f_v5 + 1)) dX12_open_29 (rW (c := 0) (d := 2147483647) h207 rfl) (vc_X12_open_9 ht_f_v5) ?_
  refine mr_gen (P := fun z => 0 ≤ z ∧ z ≤ 5) (rModV (rAdd (e := 1) (f := 6) ht_f_v5 (rR (x := 1)) rfl) (vc_X12_open_9 ht_f_v5) rfl) fun z208 q209 h210 => ?_
  refine ss_188 (pc := 30) dX12_open_30 (A_188 hw) T204 (rIx (n := 7) (rR (x := 5)) rfl) h210 fun μ211 u212 T213 => ?_
  refine mr_iinc (pc := 31) (lv' := [(2, iv 6), (0, .ref 106), (1, iv p1)]) dX12_open_31 rfl (by decide) rfl ?_
  refine sv_goto (pc := 34) (tgt := 2) dX12_open_34 (by decide) ?_
  refine mr_iload_n (pc := 2) (z := 6) dX12_open_2 rfl rfl ?_
  refine mr_bipush (pc := 3) (z := 6) dX12_open_3 (by decide) ?_
  refine mr_icmp_gt (pc := 5) (tgt := 37) dX12_open_5 (by decide) (r32 (rR (x := 6)) rfl) (r32 (rR (x := 6)) rfl) (fun h => ((vc_X12_open_22 h)).elim) (fun _ => ?_)
  refine sv_aload_n (pc := 8) dX12_open_8 rfl rfl ?_
  refine gf_X12_122 (pc := 9) dX12_open_9 wF_X12_526 (A_106 hw) T213 ?_
  refine mr_iload_n (pc := 12) (z := 6) dX12_open_12 rfl rfl ?_
  refine mr_iload_n (pc := 13) (z := p1) dX12_open_13 rfl rfl ?_
  refine sv_aload_n (pc := 14) dX12_open_14 rfl rfl ?_
  refine gf_X12_121 (pc := 15) dX12_open_15 wF_X12_523 (A_106 hw) T213 ?_
  refine mr_iload_n (pc := 18) (z := 6) dX12_open_18 rfl rfl ?_
  refine lk_187 (pc := 19) dX12_open_19 (A_187 hw) (rIx (n := 8) (rR (x := 6)) rfl) (u212.f (Or.inl (mAt.ne (A_188 hw) (A_187 hw) rfl)) (u203.f (Or.inl (mAt.ne (A_188 hw) (A_187 hw) rfl)) (u194.f (Or.inl (mAt.ne (A_188 hw) (A_187 hw) rfl)) (u185.f (Or.inl (mAt.ne (A_188 hw) (A_187 hw) rfl)) (u176.f (Or.inl (mAt.ne (A_188 hw) (A_187 hw) rfl)) q_f_w6))))) ?_
  refine mr_idiv (pc := 20) (x := p1) (y := f_w6) dX12_open_20 (rW (c := 0) (d := 2147483647) hp1 rfl) (vc_X12_open_8 hq5 h6) ?_
  refine mr_gen (P := fun z => 0 ≤ z ∧ z ≤ 46655) (rDivV hp1 (vc_X12_open_8 hq5 h6) rfl) fun z214 q215 h216 => ?_
  refine sv_aload_n (pc := 21) dX12_open_21 rfl rfl ?_
  refine gf_X12_118 (pc := 22) dX12_open_22 wF_X12_514 (A_106 hw) T213 ?_
  refine mr_iload_n (pc := 25) (z := 6) dX12_open_25 rfl rfl ?_
  refine lk_184 (pc := 26) dX12_open_26 (A_184 hw) (rIx (n := 7) (rR (x := 6)) rfl) (u212.f (Or.inl (mAt.ne (A_188 hw) (A_184 hw) rfl)) (u203.f (Or.inl (mAt.ne (A_188 hw) (A_184 hw) rfl)) (u194.f (Or.inl (mAt.ne (A_188 hw) (A_184 hw) rfl)) (u185.f (Or.inl (mAt.ne (A_188 hw) (A_184 hw) rfl)) (u176.f (Or.inl (mAt.ne (A_188 hw) (A_184 hw) rfl)) q_f_v6))))) ?_
  refine mr_iconst (pc := 27) (z := 1) dX12_open_27 ?_
  refine mr_iadd (pc := 28) (x := f_v6) (y := 1) dX12_open_28 ?_
  refine mr_irem (pc := 29) (x := z214) (y := (f_v6 + 1)) dX12_open_29 (rW (c := 0) (d := 2147483647) h216 rfl) (vc_X12_open_9 ht_f_v6) ?_
  refine mr_gen (P := fun z => 0 ≤ z ∧ z ≤ 5) (rModV (rAdd (e := 1) (f := 6) ht_f_v6 (rR (x := 1)) rfl) (vc_X12_open_9 ht_f_v6) rfl) fun z217 q218 h219 => ?_
  refine ss_188 (pc := 30) dX12_open_30 (A_188 hw) T213 (rIx (n := 7) (rR (x := 6)) rfl) h219 fun μ220 u221 T222 => ?_
  refine mr_iinc (pc := 31) (lv' := [(2, iv 7), (0, .ref 106), (1, iv p1)]) dX12_open_31 rfl (by decide) rfl ?_
  refine sv_goto (pc := 34) (tgt := 2) dX12_open_34 (by decide) ?_
  refine mr_iload_n (pc := 2) (z := 7) dX12_open_2 rfl rfl ?_
  refine mr_bipush (pc := 3) (z := 6) dX12_open_3 (by decide) ?_
  refine mr_icmp_gt (pc := 5) (tgt := 37) dX12_open_5 (by decide) (r32 (rR (x := 7)) rfl) (r32 (rR (x := 6)) rfl) (fun _ => ?_) (fun h => ((vc_X12_open_25 h)).elim)
  exact mr_vret dX12_open_37 rfl (le_t rfl) (le_t rfl) T222 (mF.up (mF.up (mF.up (mF.up (mF.up (mF.up mF.refl (A_188 hw) u176 rfl) (A_188 hw) u185 rfl) (A_188 hw) u194 rfl) (A_188 hw) u203 rfl) (A_188 hw) u212 rfl) (A_188 hw) u221 rfl) ⟨z172, z181, z190, z199, z208, z217, (u221.f (Or.inr vc_X12_open_30) (u212.f (Or.inr vc_X12_open_29) (u203.f (Or.inr vc_X12_open_28) (u194.f (Or.inr vc_X12_open_27) (u185.f (Or.inr vc_X12_open_26) u176.1))))), (u221.f (Or.inr vc_X12_open_34) (u212.f (Or.inr vc_X12_open_33) (u203.f (Or.inr vc_X12_open_32) (u194.f (Or.inr vc_X12_open_31) u185.1)))), (u221.f (Or.inr vc_X12_open_37) (u212.f (Or.inr vc_X12_open_36) (u203.f (Or.inr vc_X12_open_35) u194.1))), (u221.f (Or.inr vc_X12_open_39) (u212.f (Or.inr vc_X12_open_38) u203.1)), (u221.f (Or.inr vc_X12_open_40) u212.1), u221.1, (vc_X12_open_41 (q173 ▸ Int.emod_lt_of_pos z169 (vc_X12_open_9 ht_f_v1).1) ht_f_v1 h174), (vc_X12_open_41 (q182 ▸ Int.emod_lt_of_pos z178 (vc_X12_open_9 ht_f_v2).1) ht_f_v2 h183), (vc_X12_open_41 (q191 ▸ Int.emod_lt_of_pos z187 (vc_X12_open_9 ht_f_v3).1) ht_f_v3 h192), (vc_X12_open_41 (q200 ▸ Int.emod_lt_of_pos z196 (vc_X12_open_9 ht_f_v4).1) ht_f_v4 h201), (vc_X12_open_41 (q209 ▸ Int.emod_lt_of_pos z205 (vc_X12_open_9 ht_f_v5).1) ht_f_v5 h210), (vc_X12_open_41 (q218 ▸ Int.emod_lt_of_pos z214 (vc_X12_open_9 ht_f_v6).1) ht_f_v6 h219), ⟨dig.mk (u221.f (Or.inr vc_X12_open_30) (u212.f (Or.inr vc_X12_open_29) (u203.f (Or.inr vc_X12_open_28) (u194.f (Or.inr vc_X12_open_27) (u185.f (Or.inr vc_X12_open_26) u176.1))))) (u221.f (Or.inl (mAt.ne (A_188 hw) (A_187 hw) rfl)) (u212.f (Or.inl (mAt.ne (A_188 hw) (A_187 hw) rfl)) (u203.f (Or.inl (mAt.ne (A_188 hw) (A_187 hw) rfl)) (u194.f (Or.inl (mAt.ne (A_188 hw) (A_187 hw) rfl)) (u185.f (Or.inl (mAt.ne (A_188 hw) (A_187 hw) rfl)) (u176.f (Or.inl (mAt.ne (A_188 hw) (A_187 hw) rfl)) q_f_w1)))))) (u221.f (Or.inl (mAt.ne (A_188 hw) (A_184 hw) rfl)) (u212.f (Or.inl (mAt.ne (A_188 hw) (A_184 hw) rfl)) (u203.f (Or.inl (mAt.ne (A_188 hw) (A_184 hw) rfl)) (u194.f (Or.inl (mAt.ne (A_188 hw) (A_184 hw) rfl)) (u185.f (Or.inl (mAt.ne (A_188 hw) (A_184 hw) rfl)) (u176.f (Or.inl (mAt.ne (A_188 hw) (A_184 hw) rfl)) q_f_v1)))))) q170 q173, dig.mk (u221.f (Or.inr vc_X12_open_34) (u212.f (Or.inr vc_X12_open_33) (u203.f (Or.inr vc_X12_open_32) (u194.f (Or.inr vc_X12_open_31) u185.1)))) (u221.f (Or.inl (mAt.ne (A_188 hw) (A_187 hw) rfl)) (u212.f (Or.inl (mAt.ne (A_188 hw) (A_187 hw) rfl)) (u203.f (Or.inl (mAt.ne (A_188 hw) (A_187 hw) rfl)) (u194.f (Or.inl (mAt.ne (A_188 hw) (A_187 hw) rfl)) (u185.f (Or.inl (mAt.ne (A_188 hw) (A_187 hw) rfl)) (u176.f (Or.inl (mAt.ne (A_188 hw) (A_187 hw) rfl)) q_f_w2)))))) (u221.f (Or.inl (mAt.ne (A_188 hw) (A_184 hw) rfl)) (u212.f (Or.inl (mAt.ne (A_188 hw) (A_184 hw) rfl)) (u203.f (Or.inl (mAt.ne (A_188 hw) (A_184 hw) rfl)) (u194.f (Or.inl (mAt.ne (A_188 hw) (A_184 hw) rfl)) (u185.f (Or.inl (mAt.ne (A_188 hw) (A_184 hw) rfl)) (u176.f (Or.inl (mAt.ne (A_188 hw) (A_184 hw) rfl)) q_f_v2)))))) q179 q182, dig.mk (u221.f (Or.inr vc_X12_open_37) (u212.f (Or.inr vc_X12_open_36) (u203.f (Or.inr vc_X12_open_35) u194.1))) (u221.f (Or.inl (mAt.ne (A_188 hw) (A_187 hw) rfl)) (u212.f (Or.inl (mAt.ne (A_188 hw) (A_187 hw) rfl)) (u203.f (Or.inl (mAt.ne (A_188 hw) (A_187 hw) rfl)) (u194.f (Or.inl (mAt.ne (A_188 hw) (A_187 hw) rfl)) (u185.f (Or.inl (mAt.ne (A_188 hw) (A_187 hw) rfl)) (u176.f (Or.inl (mAt.ne (A_188 hw) (A_187 hw) rfl)) q_f_w3)))))) (u221.f (Or.inl (mAt.ne (A_188 hw) (A_184 hw) rfl)) (u212.f (Or.inl (mAt.ne (A_188 hw) (A_184 hw) rfl)) (u203.f (Or.inl (mAt.ne (A_188 hw) (A_184 hw) rfl)) (u194.f (Or.inl (mAt.ne (A_188 hw) (A_184 hw) rfl)) (u185.f (Or.inl (mAt.ne (A_188 hw) (A_184 hw) rfl)) (u176.f (Or.inl (mAt.ne (A_188 hw) (A_184 hw) rfl)) q_f_v3)))))) q188 q191, dig.mk (u221.f (Or.inr vc_X12_open_39) (u212.f (Or.inr vc_X12_open_38) u203.1)) (u221.f (Or.inl (mAt.ne (A_188 hw) (A_187 hw) rfl)) (u212.f (Or.inl (mAt.ne (A_188 hw) (A_187 hw) rfl)) (u203.f (Or.inl (mAt.ne (A_188 hw) (A_187 hw) rfl)) (u194.f (Or.inl (mAt.ne (A_188 hw) (A_187 hw) rfl)) (u185.f (Or.inl (mAt.ne (A_188 hw) (A_187 hw) rfl)) (u176.f (Or.inl (mAt.ne (A_188 hw) (A_187 hw) rfl)) q_f_w4)))))) (u221.f (Or.inl (mAt.ne (A_188 hw) (A_184 hw) rfl)) (u212.f (Or.inl (mAt.ne (A_188 hw) (A_184 hw) rfl)) (u203.f (Or.inl (mAt.ne (A_188 hw) (A_184 hw) rfl)) (u194.f (Or.inl (mAt.ne (A_188 hw) (A_184 hw) rfl)) (u185.f (Or.inl (mAt.ne (A_188 hw) (A_184 hw) rfl)) (u176.f (Or.inl (mAt.ne (A_188 hw) (A_184 hw) rfl)) q_f_v4)))))) q197 q200, dig.mk (u221.f (Or.inr vc_X12_open_40) u212.1) (u221.f (Or.inl (mAt.ne (A_188 hw) (A_187 hw) rfl)) (u212.f (Or.inl (mAt.ne (A_188 hw) (A_187 hw) rfl)) (u203.f (Or.inl (mAt.ne (A_188 hw) (A_187 hw) rfl)) (u194.f (Or.inl (mAt.ne (A_188 hw) (A_187 hw) rfl)) (u185.f (Or.inl (mAt.ne (A_188 hw) (A_187 hw) rfl)) (u176.f (Or.inl (mAt.ne (A_188 hw) (A_187 hw) rfl)) q_f_w5)))))) (u221.f (Or.inl (mAt.ne (A_188 hw) (A_184 hw) rfl)) (u212.f (Or.inl (mAt.ne (A_188 hw) (A_184 hw) rfl)) (u203.f (Or.inl (mAt.ne (A_188 hw) (A_184 hw) rfl)) (u194.f (Or.inl (mAt.ne (A_188 hw) (A_184 hw) rfl)) (u185.f (Or.inl (mAt.ne (A_188 hw) (A_184 hw) rfl)) (u176.f (Or.inl (mAt.ne (A_188 hw) (A_184 hw) rfl)) q_f_v5)))))) q206 q209, dig.mk u221.1 (u221.f (Or.inl (mAt.ne (A_188 hw) (A_187 hw) rfl)) (u212.f (Or.inl (mAt.ne (A_188 hw) (A_187 hw) rfl)) (u203.f (Or.inl (mAt.ne (A_188 hw) (A_187 hw) rfl)) (u194.f (Or.inl (mAt.ne (A_188 hw) (A_187 hw) rfl)) (u185.f (Or.inl (mAt.ne (A_188 hw) (A_187 hw) rfl)) (u176.f (Or.inl (mAt.ne (A_188 hw) (A_187 hw) rfl)) q_f_w6)))))) (u221.f (Or.inl (mAt.ne (A_188 hw) (A_184 hw) rfl)) (u212.f (Or.inl (mAt.ne (A_188 hw) (A_184 hw) rfl)) (u203.f (Or.inl (mAt.ne (A_188 hw) (A_184 hw) rfl)) (u194.f (Or.inl (mAt.ne (A_188 hw) (A_184 hw) rfl)) (u185.f (Or.inl (mAt.ne (A_188 hw) (A_184 hw) rfl)) (u176.f (Or.inl (mAt.ne (A_188 hw) (A_184 hw) rfl)) q_f_v6)))))) q215 q218⟩, trivial⟩
theorem vc_X12_acted_v_2 {f_vp z141 : Int} (h0 : f_vp ≤ z141) (h1 : 0 ≤ f_vp ∧ f_vp ≤ 5) (h2 : 0 ≤ z141 ∧ z141 ≤ 5) : f_vp ≤ f_vp := by omega
theorem vc_X12_acted_v_14 {f_vp z141 : Int} (h0 : z141 < f_vp) (h1 : 1 ≤ f_vp ∧ f_vp ≤ 5) (h2 : 0 ≤ z141 ∧ z141 ≤ 4) : z141 ≤ f_vp := by omega
set_option maxRecDepth 4000 in
set_option maxHeartbeats 4000000 in
theorem c_X12_acted_v {l : Launch} {D : va_G} {c : Nat → ClassId} {H0 : Heap} {sa : Nat × Nat × (Nat → Int32)} {w : mW} {μ : mM} (hw : mWF w) (hT : mT w μ) {p1 : Int} (hp1 : 1 ≤ p1 ∧ p1 ≤ 6) {f_h1 : Int} (q_f_h1 : μ 188 ((1 : Int).toNat) = f_h1) {f_h2 : Int} (q_f_h2 : μ 188 ((2 : Int).toNat) = f_h2) {f_h3 : Int} (q_f_h3 : μ 188 ((3 : Int).toNat) = f_h3) {f_h4 : Int} (q_f_h4 : μ 188 ((4 : Int).toNat) = f_h4) {f_h5 : Int} (q_f_h5 : μ 188 ((5 : Int).toNat) = f_h5) {f_h6 : Int} (q_f_h6 : μ 188 ((6 : Int).toNat) = f_h6) {f_v1 : Int} (q_f_v1 : μ 184 ((1 : Int).toNat) = f_v1) {f_v2 : Int} (q_f_v2 : μ 184 ((2 : Int).toNat) = f_v2) {f_v3 : Int} (q_f_v3 : μ 184 ((3 : Int).toNat) = f_v3) {f_v4 : Int} (q_f_v4 : μ 184 ((4 : Int).toNat) = f_v4) {f_v5 : Int} (q_f_v5 : μ 184 ((5 : Int).toNat) = f_v5) {f_v6 : Int} (q_f_v6 : μ 184 ((6 : Int).toNat) = f_v6) {f_vp : Int} (q_f_vp : μ 184 (p1.toNat) = f_vp) (hq0 : f_h1 ≤ f_v1) (hq1 : f_h2 ≤ f_v2) (hq2 : f_h3 ≤ f_v3) (hq3 : f_h4 ≤ f_v4) (hq4 : f_h5 ≤ f_v5) (hq5 : f_h6 ≤ f_v6) : sC (gG l D c H0 sa) mX12_acted 2 0 0 [.ref 106, iv p1] (mk w μ) (qP w μ (fun z => (0 ≤ z ∧ z ≤ 5) ∧ (z ≤ f_vp) ∧ True)) := by
  refine sC.of rfl (by decide) (le_t rfl) ?_
  have ht_f_h1 : (0 ≤ f_h1 ∧ f_h1 ≤ 5) := by rw [← q_f_h1]; exact hT 188 188 (A_188 hw) ((1 : Int).toNat)
  have ht_f_h2 : (0 ≤ f_h2 ∧ f_h2 ≤ 5) := by rw [← q_f_h2]; exact hT 188 188 (A_188 hw) ((2 : Int).toNat)
  have ht_f_h3 : (0 ≤ f_h3 ∧ f_h3 ≤ 5) := by rw [← q_f_h3]; exact hT 188 188 (A_188 hw) ((3 : Int).toNat)
  have ht_f_h4 : (0 ≤ f_h4 ∧ f_h4 ≤ 5) := by rw [← q_f_h4]; exact hT 188 188 (A_188 hw) ((4 : Int).toNat)
  have ht_f_h5 : (0 ≤ f_h5 ∧ f_h5 ≤ 5) := by rw [← q_f_h5]; exact hT 188 188 (A_188 hw) ((5 : Int).toNat)
  have ht_f_h6 : (0 ≤ f_h6 ∧ f_h6 ≤ 5) := by rw [← q_f_h6]; exact hT 188 188 (A_188 hw) ((6 : Int).toNat)
  have ht_f_v1 : (0 ≤ f_v1 ∧ f_v1 ≤ 5) := by rw [← q_f_v1]; exact hT 184 184 (A_184 hw) ((1 : Int).toNat)
  have ht_f_v2 : (0 ≤ f_v2 ∧ f_v2 ≤ 5) := by rw [← q_f_v2]; exact hT 184 184 (A_184 hw) ((2 : Int).toNat)
  have ht_f_v3 : (0 ≤ f_v3 ∧ f_v3 ≤ 5) := by rw [← q_f_v3]; exact hT 184 184 (A_184 hw) ((3 : Int).toNat)
  have ht_f_v4 : (0 ≤ f_v4 ∧ f_v4 ≤ 5) := by rw [← q_f_v4]; exact hT 184 184 (A_184 hw) ((4 : Int).toNat)
  have ht_f_v5 : (0 ≤ f_v5 ∧ f_v5 ≤ 5) := by rw [← q_f_v5]; exact hT 184 184 (A_184 hw) ((5 : Int).toNat)
  have ht_f_v6 : (0 ≤ f_v6 ∧ f_v6 ≤ 5) := by rw [← q_f_v6]; exact hT 184 184 (A_184 hw) ((6 : Int).toNat)
  have ht_f_vp : (0 ≤ f_vp ∧ f_vp ≤ 5) := by rw [← q_f_vp]; exact hT 184 184 (A_184 hw) (p1.toNat)
  refine mr_lvE (lv' := [(0, .ref 106), (1, iv p1)]) rfl ?_
  refine mr_iconst (pc := 0) (z := 0) dX12_acted_0 ?_
  refine mr_istore_n (pc := 1) (lv' := [(2, iv 0), (0, .ref 106), (1, iv p1)]) dX12_acted_1 rfl (by decide) rfl ?_
  have L142 : ∀ (nL142 : Nat) (z141 : Int), True → (0 ≤ z141 ∧ z141 ≤ 5) → (6 - z141) < (nL142 : Int) → sV (gG l D c H0 sa) mX12_acted (sRm 2 0 0) (sZ (gG l D c H0 sa) 0 0 (qP w μ (fun z => (0 ≤ z ∧ z ≤ 5) ∧ (z ≤ f_vp) ∧ True))) 2 [(0, .ref 106), (1, iv p1), (2, iv z141)] [] (mk w μ) 0 0 := by
    intro nL142
    induction nL142 with
    | zero => intro z141 _ h143 h147; exact ((vc_X12_acted_1 h147 h143)).elim
    | succ nL142 ih148 =>
      intro z141 _ h143 h147
      refine mr_iload_n (pc := 2) (z := z141) dX12_acted_2 rfl rfl ?_
      refine sv_aload_n (pc := 3) dX12_acted_3 rfl rfl ?_
      refine gf_X12_118 (pc := 4) dX12_acted_4 wF_X12_514 (A_106 hw) hT ?_
      refine mr_iload_n (pc := 7) (z := p1) dX12_acted_7 rfl rfl ?_
      refine lk_184 (pc := 8) dX12_acted_8 (A_184 hw) (rIx (n := 7) hp1 rfl) q_f_vp ?_
      refine mr_icmp_ge (pc := 9) (tgt := 32) dX12_acted_9 (by decide) (r32 h143 rfl) (r32 ht_f_vp rfl) (fun h149 => ?_) (fun h149 => ?_)
      · refine sv_aload_n (pc := 32) dX12_acted_32 rfl rfl ?_
        refine gf_X12_118 (pc := 33) dX12_acted_33 wF_X12_514 (A_106 hw) hT ?_
        refine mr_iload_n (pc := 36) (z := p1) dX12_acted_36 rfl rfl ?_
        refine lk_184 (pc := 37) dX12_acted_37 (A_184 hw) (rIx (n := 7) hp1 rfl) q_f_vp ?_
        exact mr_iretP dX12_acted_38 rfl (le_t rfl) (le_t rfl) ⟨ht_f_vp, (vc_X12_acted_v_2 h149 ht_f_vp h143), trivial⟩
      have h150 : 0 ≤ z141 ∧ z141 ≤ 4 := (vc_X4_actOf_2 h149 ht_f_vp h143)
      have h151 : 1 ≤ f_vp ∧ f_vp ≤ 5 := (vc_X4_actOf_3 h149 ht_f_vp h150)
      refine sv_aload_n (pc := 12) dX12_acted_12 rfl rfl ?_
      refine mr_iconst (pc := 13) (z := 5) dX12_acted_13 ?_
      refine mr_iload_n (pc := 14) (z := p1) dX12_acted_14 rfl rfl ?_
      refine mr_imul (pc := 15) (x := 5) (y := p1) dX12_acted_15 ?_
      refine mr_iload_n (pc := 16) (z := z141) dX12_acted_16 rfl rfl ?_
      refine mr_iadd (pc := 17) (x := (5 * p1)) (y := z141) dX12_acted_17 ?_
      refine mr_cVP (pc := 18) (c_X12_isOffered hw hT (rAdd (e := 5) (f := 34) (rMulL (n := 5) (e := 5) (f := 30) hp1 rfl) h150 rfl) q_f_h1 q_f_h2 q_f_h3 q_f_h4 q_f_h5 q_f_h6 q_f_v1 q_f_v2 q_f_v3 q_f_v4 q_f_v5 q_f_v6 (vc_X12_acted_4 hq0 ht_f_h1 ht_f_v1) (vc_X12_acted_4 hq1 ht_f_h2 ht_f_v2) (vc_X12_acted_4 hq2 ht_f_h3 ht_f_v3) (vc_X12_acted_4 hq3 ht_f_h4 ht_f_v4) (vc_X12_acted_4 hq4 ht_f_h5 ht_f_v5) (vc_X12_acted_4 hq5 ht_f_h6 ht_f_v6)) (gOk _ _ _ _ _) dX12_acted_18 (tX12_isOffered _ _ _ _ _) ⟨wV_X12_isOffered, wL_X12_isOffered⟩ wM_X12_719 (gCX12 _ _ _ _ _) rfl (A_106 hw) rfl ⟨le_t rfl, le_t rfl⟩ ⟨le_t rfl, le_t rfl⟩ rfl (le_t rfl) fun z156 h155 => ?_
      refine mr_if_eq (pc := 21) (tgt := 26) dX12_acted_21 (by decide) (r32 h155.1 rfl) (fun h157 => ?_) (fun h157 => ?_)
      · have h158 : 0 ≤ z156 ∧ z156 ≤ 0 := (vc_X12_ring_22 h157 h155.1)
        refine mr_iinc (pc := 26) (lv' := [(2, iv (z141 + 1)), (0, .ref 106), (1, iv p1)]) dX12_acted_26 rfl (by decide) rfl ?_
        refine sv_goto (pc := 29) (tgt := 2) dX12_acted_29 (by decide) ?_
        refine mr_lvS (lv' := [(0, .ref 106), (1, iv p1), (2, iv (z141 + 1))]) (List.forall_mem_cons.mpr ⟨rfl, List.forall_mem_cons.mpr ⟨rfl, List.forall_mem_cons.mpr ⟨rfl, fun _ h => absurd h List.not_mem_nil⟩⟩⟩) ?_
        exact ih148 (z141 + 1) trivial (rW (c := 0) (d := 5) (rAdd (e := 1) (f := 5) h150 (rR (x := 1)) rfl) rfl) (vc_X4_actOf_6 (nS h147) h149 h151 h150)
      have h159 : 1 ≤ z156 ∧ z156 ≤ 1 := (vc_X12_ring_24 h157 h155.1)
      refine mr_iload_n (pc := 24) (z := z141) dX12_acted_24 rfl rfl ?_
      exact mr_iretP dX12_acted_25 rfl (le_t rfl) (le_t rfl) ⟨(rW (c := 0) (d := 5) h150 rfl), (vc_X12_acted_v_14 h149 h151 h150), trivial⟩
  refine mr_lvS (lv' := [(0, .ref 106), (1, iv p1), (2, iv 0)]) (List.forall_mem_cons.mpr ⟨rfl, List.forall_mem_cons.mpr ⟨rfl, List.forall_mem_cons.mpr ⟨rfl, fun _ h => absurd h List.not_mem_nil⟩⟩⟩) ?_
  exact L142 7 0 trivial (rW (c := 0) (d := 5) (rR (x := 0)) rfl) vc_X12_acted_13
theorem vc_X12_tries_1 {p1 z5 : Int} (h0 : ¬ z5 = 0) (h1 : (z5 = 1 → (0 : Int) ≤ p1 ∧ p1 ≤ (3 : Int))) (h2 : (z5 = 0 → p1 < (0 : Int) ∨ (3 : Int) < p1)) (h3 : (-2147483648) ≤ p1 ∧ p1 ≤ 2147483647) (h4 : 0 ≤ z5 ∧ z5 ≤ 1) : 1 ≤ z5 ∧ z5 ≤ 1 := by omega
theorem vc_X12_tries_2 {p1 z5 : Int} (h0 : (z5 = 1 → (0 : Int) ≤ p1 ∧ p1 ≤ (3 : Int))) (h1 : (z5 = 0 → p1 < (0 : Int) ∨ (3 : Int) < p1)) (h2 : ¬ z5 = 0) (h3 : (-2147483648) ≤ p1 ∧ p1 ≤ 2147483647) (h4 : 1 ≤ z5 ∧ z5 ≤ 1) : z5 = 1 := by omega
theorem vc_X12_tries_3 {p1 z5 : Int} (h0 : (0 : Int) ≤ p1 ∧ p1 ≤ (3 : Int)) (h1 : (z5 = 1 → (0 : Int) ≤ p1 ∧ p1 ≤ (3 : Int))) (h2 : (z5 = 0 → p1 < (0 : Int) ∨ (3 : Int) < p1)) (h3 : (-2147483648) ≤ p1 ∧ p1 ≤ 2147483647) (h4 : 1 ≤ z5 ∧ z5 ≤ 1) : 0 ≤ p1 ∧ p1 ≤ 3 := by omega
theorem vc_X12_tries_12 {z14 z23952 : Int} (h0 : z14 ≤ z23952) (h1 : 1 ≤ z14 ∧ z14 ≤ 46656) (h2 : 1 ≤ z23952 ∧ z23952 ≤ 46656) : (z14 - 1) = z14 - 1 := by omega
theorem vc_X12_tries_13 {z14 z23952 : Int} (h0 : z14 ≤ z23952) (h1 : 1 ≤ z14 ∧ z14 ≤ 46656) (h2 : 1 ≤ z23952 ∧ z23952 ≤ 46656) : 1 ≤ z14 := by omega
theorem vc_X12_tries_14 {z36173 z36175 z36176 : Int} (h0 : (46657 - z36173) < ((0 : Nat) : Int)) (h1 : z36175 ≤ z36173) (h2 : z36173 ≤ z36176) (h3 : 0 ≤ z36173 ∧ z36173 ≤ 46656) (h4 : 0 ≤ z36175 ∧ z36175 ≤ 46656) (h5 : 1 ≤ z36176 ∧ z36176 ≤ 46656) : False := by omega
theorem vc_X12_tries_15 {z36173 z36175 z36176 : Int} (h0 : z36176 ≤ z36173) (h1 : z36175 ≤ z36173) (h2 : z36173 ≤ z36176) (h3 : 0 ≤ z36173 ∧ z36173 ≤ 46656) (h4 : 0 ≤ z36175 ∧ z36175 ≤ 46656) (h5 : 1 ≤ z36176 ∧ z36176 ≤ 46656) : 1 ≤ z36173 ∧ z36173 ≤ 46656 := by omega
theorem vc_X12_tries_16 {p1 z5 : Int} (h0 : ¬ p1 = 0) (h1 : (z5 = 1 → (0 : Int) ≤ p1 ∧ p1 ≤ (3 : Int))) (h2 : (z5 = 0 → p1 < (0 : Int) ∨ (3 : Int) < p1)) (h3 : (0 : Int) ≤ p1 ∧ p1 ≤ (3 : Int)) (h4 : 0 ≤ p1 ∧ p1 ≤ 3) (h5 : 1 ≤ z5 ∧ z5 ≤ 1) : 1 ≤ p1 ∧ p1 ≤ 3 := by omega
theorem vc_X12_tries_17 {p1 z5 : Int} (h0 : ¬ p1 = 1) (h1 : (z5 = 1 → (0 : Int) ≤ p1 ∧ p1 ≤ (3 : Int))) (h2 : (z5 = 0 → p1 < (0 : Int) ∨ (3 : Int) < p1)) (h3 : (0 : Int) ≤ p1 ∧ p1 ≤ (3 : Int)) (h4 : ¬ p1 = 0) (h5 : 1 ≤ p1 ∧ p1 ≤ 3) (h6 : 1 ≤ z5 ∧ z5 ≤ 1) : 2 ≤ p1 ∧ p1 ≤ 3 := by omega
theorem vc_X12_tries_18 {p1 z5 : Int} (h0 : ¬ p1 = 3) (h1 : (z5 = 1 → (0 : Int) ≤ p1 ∧ p1 ≤ (3 : Int))) (h2 : (z5 = 0 → p1 < (0 : Int) ∨ (3 : Int) < p1)) (h3 : (0 : Int) ≤ p1 ∧ p1 ≤ (3 : Int)) (h4 : ¬ p1 = 0) (h5 : ¬ p1 = 1) (h6 : 2 ≤ p1 ∧ p1 ≤ 3) (h7 : 1 ≤ z5 ∧ z5 ≤ 1) : 2 ≤ p1 ∧ p1 ≤ 2 := by omega
theorem vc_X12_tries_19 {f_k z37188 : Int} (h0 : ((2 * (46656 - f_k)) + z37188) < ((0 : Nat) : Int)) (h1 : 0 ≤ f_k ∧ f_k ≤ 46656) (h2 : 0 ≤ z37188 ∧ z37188 ≤ 1) : False := by omega
theorem vc_X12_tries_22 {z36173 z36176 z37685 : Int} (h0 : z36176 ≤ z37685) (h1 : z36173 ≤ z36176) (h2 : z36176 ≤ z36173) (h3 : 1 ≤ z36173 ∧ z36173 ≤ 46656) (h4 : 1 ≤ z36176 ∧ z36176 ≤ 46656) (h5 : 0 ≤ z37685 ∧ z37685 ≤ 46656) : 1 ≤ z37685 ∧ z37685 ≤ 46656 := by omega
theorem vc_X12_tries_23 {z36173 z36176 z37685 : Int} (h0 : z37685 < z36176) (h1 : z36173 ≤ z36176) (h2 : z36176 ≤ z36173) (h3 : 1 ≤ z36173 ∧ z36173 ≤ 46656) (h4 : 1 ≤ z36176 ∧ z36176 ≤ 46656) (h5 : 0 ≤ z37685 ∧ z37685 ≤ 46656) : 0 ≤ z37685 ∧ z37685 ≤ 46655 := by omega
theorem vc_X12_tries_25 {N z36173 z36176 z37685 : Int} (h0 : (46657 - z37685) < N + 1) (h1 : z37685 < z36176) (h2 : z36173 ≤ z36176) (h3 : z36176 ≤ z36173) (h4 : 1 ≤ z36173 ∧ z36173 ≤ 46656) (h5 : 1 ≤ z36176 ∧ z36176 ≤ 46656) (h6 : 0 ≤ z37685 ∧ z37685 ≤ 46655) : (46657 - (z37685 + 1)) < N := by omega
theorem vc_X12_tries_29 {f_k f_k2 z36173 z36176 z38108 z38109 : Int} (h0 : (z38108 - (-2)) < ((0 : Nat) : Int)) (h1 : 0 ≤ f_k2 ∧ f_k2 ≤ 46656) (h2 : f_k ≤ f_k2) (h3 : z38109 = 0 ∨ f_k + 1 ≤ f_k2) (h4 : z38108 < z36176) (h5 : z36173 ≤ z36176) (h6 : z36176 ≤ z36173) (h7 : 0 ≤ f_k ∧ f_k ≤ 46656) (h8 : 1 ≤ z36173 ∧ z36173 ≤ 46656) (h9 : 1 ≤ z36176 ∧ z36176 ≤ 46656) (h10 : (-1) ≤ z38108 ∧ z38108 ≤ 46655) (h11 : 0 ≤ z38109 ∧ z38109 ≤ 1) : False := by omega
theorem vc_X12_tries_30 {z36176 z38108 : Int} (h0 : z38108 < 0) (h1 : z38108 < z36176) (h2 : 1 ≤ z36176 ∧ z36176 ≤ 46656) (h3 : (-1) ≤ z38108 ∧ z38108 ≤ 46655) : (-1) ≤ z38108 ∧ z38108 ≤ (-1) := by omega
theorem vc_X12_tries_31 {N f_k f_k2 z37188 z38109 : Int} (h0 : ((2 * (46656 - f_k)) + z37188) < N + 1) (h1 : ¬ z37188 = 0) (h2 : f_k ≤ f_k2) (h3 : z38109 = 0 ∨ f_k + 1 ≤ f_k2) (h4 : 0 ≤ f_k ∧ f_k ≤ 46656) (h5 : 0 ≤ f_k2 ∧ f_k2 ≤ 46656) (h6 : 1 ≤ z37188 ∧ z37188 ≤ 1) (h7 : 0 ≤ z38109 ∧ z38109 ≤ 1) : ((2 * (46656 - f_k2)) + z38109) < N := by omega
theorem vc_X12_tries_32 {z36176 z38108 : Int} (h0 : 0 ≤ z38108) (h1 : z38108 < z36176) (h2 : 1 ≤ z36176 ∧ z36176 ≤ 46656) (h3 : (-1) ≤ z38108 ∧ z38108 ≤ 46655) : 0 ≤ z38108 ∧ z38108 ≤ 46655 := by omega
theorem vc_X12_tries_33 {z36173 z36176 z38108 : Int} (h0 : z38108 < z36176) (h1 : 0 ≤ z38108) (h2 : z36173 ≤ z36176) (h3 : z36176 ≤ z36173) (h4 : 1 ≤ z36173 ∧ z36173 ≤ 46656) (h5 : 1 ≤ z36176 ∧ z36176 ≤ 46656) (h6 : 0 ≤ z38108 ∧ z38108 ≤ 46655) : 0 ≤ z38108 := by omega
theorem vc_X12_tries_34 {z36173 z36175 z36176 z38108 : Int} (h0 : z36173 ≤ z36176) (h1 : z36176 ≤ z36173) (h2 : z38108 < z36176) (h3 : 0 ≤ z38108) (h4 : z36175 ≤ z36173) (h5 : 1 ≤ z36173 ∧ z36173 ≤ 46656) (h6 : 0 ≤ z36175 ∧ z36175 ≤ 46656) (h7 : 1 ≤ z36176 ∧ z36176 ≤ 46656) (h8 : 0 ≤ z38108 ∧ z38108 ≤ 46655) : z38108 < z36176 := by omega
theorem vc_X12_tries_42 {f_hs f_k f_k2 f_k3 z38109 z38679 : Int} (h0 : (8 - z38679) < ((0 : Nat) : Int)) (h1 : 0 ≤ f_k3 ∧ f_k3 ≤ 46656) (h2 : f_k3 = f_k2 + f_hs) (h3 : f_k ≤ f_k2) (h4 : z38109 = 0 ∨ f_k + 1 ≤ f_k2) (h5 : 0 ≤ f_k ∧ f_k ≤ 46656) (h6 : 0 ≤ f_k2 ∧ f_k2 ≤ 46656) (h7 : 0 ≤ z38109 ∧ z38109 ≤ 1) (h8 : 1 ≤ z38679 ∧ z38679 ≤ 7) : False := by omega
theorem vc_X12_tries_43 {f_k f_k2 z38109 : Int} (h0 : ¬ z38109 = 0) (h1 : z38109 = 0 ∨ f_k + 1 ≤ f_k2) (h2 : 0 ≤ f_k ∧ f_k ≤ 46656) (h3 : 0 ≤ f_k2 ∧ f_k2 ≤ 46656) (h4 : 0 ≤ z38109 ∧ z38109 ≤ 1) : 1 ≤ z38109 ∧ z38109 ≤ 1 := by omega
theorem vc_X12_tries_44 {f_hs f_k f_k2 f_k3 z38109 : Int} (h0 : f_k ≤ f_k2) (h1 : z38109 = 0 ∨ f_k + 1 ≤ f_k2) (h2 : f_k3 = f_k2 + f_hs) (h3 : ¬ z38109 = 0) (h4 : 0 ≤ f_hs ∧ f_hs ≤ 1) (h5 : 0 ≤ f_k ∧ f_k ≤ 46656) (h6 : 0 ≤ f_k2 ∧ f_k2 ≤ 46656) (h7 : 0 ≤ f_k3 ∧ f_k3 ≤ 46656) (h8 : 1 ≤ z38109 ∧ z38109 ≤ 1) : f_k ≤ f_k3 := by omega
theorem vc_X12_tries_45 {f_hs f_k f_k2 f_k3 z38109 : Int} (h0 : f_k ≤ f_k2) (h1 : z38109 = 0 ∨ f_k + 1 ≤ f_k2) (h2 : f_k3 = f_k2 + f_hs) (h3 : ¬ z38109 = 0) (h4 : 0 ≤ f_hs ∧ f_hs ≤ 1) (h5 : 0 ≤ f_k ∧ f_k ≤ 46656) (h6 : 0 ≤ f_k2 ∧ f_k2 ≤ 46656) (h7 : 0 ≤ f_k3 ∧ f_k3 ≤ 46656) (h8 : 1 ≤ z38109 ∧ z38109 ≤ 1) : (1 : Int) = 0 ∨ f_k + 1 ≤ f_k3 := by omega
theorem vc_X12_tries_46 {z36173 z36175 z36176 z38108 : Int} (h0 : z36173 ≤ z36176) (h1 : z36176 ≤ z36173) (h2 : z38108 < z36176) (h3 : 0 ≤ z38108) (h4 : z36175 ≤ z36173) (h5 : 1 ≤ z36173 ∧ z36173 ≤ 46656) (h6 : 0 ≤ z36175 ∧ z36175 ≤ 46656) (h7 : 1 ≤ z36176 ∧ z36176 ≤ 46656) (h8 : 0 ≤ z38108 ∧ z38108 ≤ 46655) : (z38108 + (-1)) < z36176 := by omega
theorem vc_X12_tries_47 {N z36173 z36176 z38108 : Int} (h0 : (z38108 - (-2)) < N + 1) (h1 : z38108 < z36176) (h2 : 0 ≤ z38108) (h3 : z36173 ≤ z36176) (h4 : z36176 ≤ z36173) (h5 : 1 ≤ z36173 ∧ z36173 ≤ 46656) (h6 : 1 ≤ z36176 ∧ z36176 ≤ 46656) (h7 : 0 ≤ z38108 ∧ z38108 ≤ 46655) : ((z38108 + (-1)) - (-2)) < N := by omega
theorem vc_X12_tries_48 {f_k f_k2 z38109 : Int} (h0 : z38109 = 0) (h1 : z38109 = 0 ∨ f_k + 1 ≤ f_k2) (h2 : 0 ≤ f_k ∧ f_k ≤ 46656) (h3 : 0 ≤ f_k2 ∧ f_k2 ≤ 46656) (h4 : 0 ≤ z38109 ∧ z38109 ≤ 1) : 0 ≤ z38109 ∧ z38109 ≤ 0 := by omega
theorem vc_X12_tries_49 {f_hs f_k2 f_k3 : Int} (h0 : f_hs = 0) (h1 : f_k3 = f_k2 + f_hs) (h2 : 0 ≤ f_hs ∧ f_hs ≤ 1) (h3 : 0 ≤ f_k2 ∧ f_k2 ≤ 46656) (h4 : 0 ≤ f_k3 ∧ f_k3 ≤ 46656) : 0 ≤ f_hs ∧ f_hs ≤ 0 := by omega
theorem vc_X12_tries_50 {f_hs f_k f_k2 f_k3 z38109 : Int} (h0 : f_k ≤ f_k2) (h1 : z38109 = 0 ∨ f_k + 1 ≤ f_k2) (h2 : f_k3 = f_k2 + f_hs) (h3 : z38109 = 0) (h4 : f_hs = 0) (h5 : 0 ≤ f_hs ∧ f_hs ≤ 0) (h6 : 0 ≤ f_k ∧ f_k ≤ 46656) (h7 : 0 ≤ f_k2 ∧ f_k2 ≤ 46656) (h8 : 0 ≤ f_k3 ∧ f_k3 ≤ 46656) (h9 : 0 ≤ z38109 ∧ z38109 ≤ 0) : f_k ≤ f_k3 := by omega
theorem vc_X12_tries_51 {f_hs f_k f_k2 f_k3 z38109 : Int} (h0 : f_k ≤ f_k2) (h1 : z38109 = 0 ∨ f_k + 1 ≤ f_k2) (h2 : f_k3 = f_k2 + f_hs) (h3 : z38109 = 0) (h4 : f_hs = 0) (h5 : 0 ≤ f_hs ∧ f_hs ≤ 0) (h6 : 0 ≤ f_k ∧ f_k ≤ 46656) (h7 : 0 ≤ f_k2 ∧ f_k2 ≤ 46656) (h8 : 0 ≤ f_k3 ∧ f_k3 ≤ 46656) (h9 : 0 ≤ z38109 ∧ z38109 ≤ 0) : (0 : Int) = 0 ∨ f_k + 1 ≤ f_k3 := by omega
theorem vc_X12_tries_52 {f_hs f_k2 f_k3 : Int} (h0 : ¬ f_hs = 0) (h1 : f_k3 = f_k2 + f_hs) (h2 : 0 ≤ f_hs ∧ f_hs ≤ 1) (h3 : 0 ≤ f_k2 ∧ f_k2 ≤ 46656) (h4 : 0 ≤ f_k3 ∧ f_k3 ≤ 46656) : 1 ≤ f_hs ∧ f_hs ≤ 1 := by omega
theorem vc_X12_tries_53 {f_hs f_k f_k2 f_k3 z38109 : Int} (h0 : f_k ≤ f_k2) (h1 : z38109 = 0 ∨ f_k + 1 ≤ f_k2) (h2 : f_k3 = f_k2 + f_hs) (h3 : z38109 = 0) (h4 : ¬ f_hs = 0) (h5 : 1 ≤ f_hs ∧ f_hs ≤ 1) (h6 : 0 ≤ f_k ∧ f_k ≤ 46656) (h7 : 0 ≤ f_k2 ∧ f_k2 ≤ 46656) (h8 : 0 ≤ f_k3 ∧ f_k3 ≤ 46656) (h9 : 0 ≤ z38109 ∧ z38109 ≤ 0) : f_k ≤ f_k3 := by omega
theorem vc_X12_tries_54 {f_hs f_k f_k2 f_k3 z38109 : Int} (h0 : f_k ≤ f_k2) (h1 : z38109 = 0 ∨ f_k + 1 ≤ f_k2) (h2 : f_k3 = f_k2 + f_hs) (h3 : z38109 = 0) (h4 : ¬ f_hs = 0) (h5 : 1 ≤ f_hs ∧ f_hs ≤ 1) (h6 : 0 ≤ f_k ∧ f_k ≤ 46656) (h7 : 0 ≤ f_k2 ∧ f_k2 ≤ 46656) (h8 : 0 ≤ f_k3 ∧ f_k3 ≤ 46656) (h9 : 0 ≤ z38109 ∧ z38109 ≤ 0) : (1 : Int) = 0 ∨ f_k + 1 ≤ f_k3 := by omega
theorem vc_X12_tries_63 {z38679 : Int} (h0 : z38679 ≤ 6) (h1 : 1 ≤ z38679 ∧ z38679 ≤ 6) : 1 ≤ z38679 ∧ z38679 ≤ 6 := by omega
theorem vc_X12_tries_64 {z14 z23952 z38250 : Int} (h0 : z14 ≤ z23952) (h1 : 0 ≤ z38250 ∧ z38250 < z14) (h2 : 1 ≤ z14 ∧ z14 ≤ 46656) (h3 : 1 ≤ z23952 ∧ z23952 ≤ 46656) (h4 : 0 ≤ z38250 ∧ z38250 ≤ 46655) : 0 ≤ z38250 ∧ z38250 < z14 := by omega
theorem vc_X12_tries_65 {z38733 z38740 : Int} (h0 : z38740 ≤ z38733) (h1 : 0 ≤ z38733 ∧ z38733 ≤ 5) (h2 : 0 ≤ z38740 ∧ z38740 ≤ 5) : 0 ≤ z38733 := by omega
theorem vc_X12_tries_66 {z38733 z38740 : Int} (h0 : z38740 ≤ z38733) (h1 : 0 ≤ z38733 ∧ z38733 ≤ 5) (h2 : 0 ≤ z38740 ∧ z38740 ≤ 5) : 0 ≤ z38740 ∧ z38740 ≤ z38733 := by omega
theorem vc_X12_tries_67 {z14 z23952 z38250 z38747 : Int} (h0 : 0 ≤ z38250 ∧ z38250 < z14) (h1 : 0 ≤ (z38250 + z38747) ∧ (z38250 + z38747) < z14) (h2 : z14 ≤ z23952) (h3 : 1 ≤ z14 ∧ z14 ≤ 46656) (h4 : 1 ≤ z23952 ∧ z23952 ≤ 46656) (h5 : 0 ≤ z38250 ∧ z38250 ≤ 46655) (h6 : (-233280) ≤ z38747 ∧ z38747 ≤ 233280) : 0 ≤ (z38250 + z38747) ∧ (z38250 + z38747) < 46656 := by omega
theorem vc_X12_tries_68 {f_hs f_k f_k2 f_k3 z38109 z38751 : Int} (h0 : f_k ≤ f_k2) (h1 : z38109 = 0 ∨ f_k + 1 ≤ f_k2) (h2 : f_k3 = f_k2 + f_hs) (h3 : f_hs = 0) (h4 : 0 ≤ f_hs ∧ f_hs ≤ 0) (h5 : 0 ≤ f_k ∧ f_k ≤ 46656) (h6 : 0 ≤ f_k2 ∧ f_k2 ≤ 46656) (h7 : 0 ≤ f_k3 ∧ f_k3 ≤ 46656) (h8 : 0 ≤ z38109 ∧ z38109 ≤ 1) (h9 : 0 ≤ z38751 ∧ z38751 ≤ 1) : ((f_k3 + z38751) - f_hs) = f_k2 + z38751 := by omega
theorem vc_X12_tries_70 {f_k f_k2 z38109 z38254 : Int} (h0 : f_k ≤ f_k2) (h1 : z38109 = 0 ∨ f_k + 1 ≤ f_k2) (h2 : z38254 = 0) (h3 : 0 ≤ f_k ∧ f_k ≤ 46656) (h4 : 0 ≤ f_k2 ∧ f_k2 ≤ 46656) (h5 : 0 ≤ z38109 ∧ z38109 ≤ 1) (h6 : 0 ≤ z38254 ∧ z38254 ≤ 0) : f_k2 = f_k2 + z38254 := by omega
theorem vc_X12_tries_73 {f_k f_k2 z38109 : Int} (h0 : f_k ≤ f_k2) (h1 : z38109 = 0 ∨ f_k + 1 ≤ f_k2) (h2 : 0 ≤ f_k ∧ f_k ≤ 46656) (h3 : 0 ≤ f_k2 ∧ f_k2 ≤ 46656) (h4 : 0 ≤ z38109 ∧ z38109 ≤ 1) : f_k ≤ f_k2 := by omega
theorem vc_X12_tries_74 {f_k f_k2 z38109 : Int} (h0 : f_k ≤ f_k2) (h1 : z38109 = 0 ∨ f_k + 1 ≤ f_k2) (h2 : 0 ≤ f_k ∧ f_k ≤ 46656) (h3 : 0 ≤ f_k2 ∧ f_k2 ≤ 46656) (h4 : 0 ≤ z38109 ∧ z38109 ≤ 1) : z38109 = 0 ∨ f_k + 1 ≤ f_k2 := by omega
theorem vc_X12_tries_75 {f_k : Int} (h0 : 0 ≤ f_k ∧ f_k ≤ 46656) : f_k ≤ f_k := by omega
theorem vc_X12_tries_76 {f_k : Int} (h0 : 0 ≤ f_k ∧ f_k ≤ 46656) : (0 : Int) = 0 ∨ f_k + 1 ≤ f_k := by omega
theorem vc_X12_tries_77 {z36173 z36175 z36176 : Int} (h0 : z36173 ≤ z36176) (h1 : z36176 ≤ z36173) (h2 : z36175 ≤ z36173) (h3 : 1 ≤ z36173 ∧ z36173 ≤ 46656) (h4 : 0 ≤ z36175 ∧ z36175 ≤ 46656) (h5 : 1 ≤ z36176 ∧ z36176 ≤ 46656) : (z36176 - 1) < z36176 := by omega
theorem vc_X12_tries_78 {z36173 z36175 z36176 : Int} (h0 : z36173 ≤ z36176) (h1 : z36176 ≤ z36173) (h2 : z36175 ≤ z36173) (h3 : 1 ≤ z36173 ∧ z36173 ≤ 46656) (h4 : 0 ≤ z36175 ∧ z36175 ≤ 46656) (h5 : 1 ≤ z36176 ∧ z36176 ≤ 46656) : ((z36176 - 1) - (-2)) < ((46658 : Nat) : Int) := by omega
theorem vc_X12_tries_79 {z38758 : Int} (h0 : 0 ≤ z38758 ∧ z38758 ≤ 46656) : ((2 * (46656 - z38758)) + 1) < ((93314 : Nat) : Int) := by omega
theorem vc_X12_tries_80 {p1 z5 : Int} (h0 : p1 = 3) (h1 : (z5 = 1 → (0 : Int) ≤ p1 ∧ p1 ≤ (3 : Int))) (h2 : (z5 = 0 → p1 < (0 : Int) ∨ (3 : Int) < p1)) (h3 : (0 : Int) ≤ p1 ∧ p1 ≤ (3 : Int)) (h4 : ¬ p1 = 0) (h5 : ¬ p1 = 1) (h6 : 2 ≤ p1 ∧ p1 ≤ 3) (h7 : 1 ≤ z5 ∧ z5 ≤ 1) : 3 ≤ p1 ∧ p1 ≤ 3 := by omega
theorem vc_X12_tries_81 {p1 z5 : Int} (h0 : p1 = 1) (h1 : (z5 = 1 → (0 : Int) ≤ p1 ∧ p1 ≤ (3 : Int))) (h2 : (z5 = 0 → p1 < (0 : Int) ∨ (3 : Int) < p1)) (h3 : (0 : Int) ≤ p1 ∧ p1 ≤ (3 : Int)) (h4 : ¬ p1 = 0) (h5 : 1 ≤ p1 ∧ p1 ≤ 3) (h6 : 1 ≤ z5 ∧ z5 ≤ 1) : 1 ≤ p1 ∧ p1 ≤ 1 := by omega
theorem vc_X12_tries_82 {p1 z5 : Int} (h0 : p1 = 0) (h1 : (z5 = 1 → (0 : Int) ≤ p1 ∧ p1 ≤ (3 : Int))) (h2 : (z5 = 0 → p1 < (0 : Int) ∨ (3 : Int) < p1)) (h3 : (0 : Int) ≤ p1 ∧ p1 ≤ (3 : Int)) (h4 : 0 ≤ p1 ∧ p1 ≤ 3) (h5 : 1 ≤ z5 ∧ z5 ≤ 1) : 0 ≤ p1 ∧ p1 ≤ 0 := by omega
theorem vc_X12_tries_83 {z36173 z36175 z36176 : Int} (h0 : z36173 < z36176) (h1 : z36175 ≤ z36173) (h2 : z36173 ≤ z36176) (h3 : 0 ≤ z36173 ∧ z36173 ≤ 46656) (h4 : 0 ≤ z36175 ∧ z36175 ≤ 46656) (h5 : 1 ≤ z36176 ∧ z36176 ≤ 46656) : 0 ≤ z36173 ∧ z36173 ≤ 46655 := by omega
theorem vc_X12_tries_84 {z36173 z36175 z36176 : Int} (h0 : z36175 ≤ z36173) (h1 : z36173 ≤ z36176) (h2 : z36173 < z36176) (h3 : 0 ≤ z36173 ∧ z36173 ≤ 46655) (h4 : 0 ≤ z36175 ∧ z36175 ≤ 46656) (h5 : 1 ≤ z36176 ∧ z36176 ≤ 46656) : 0 ≤ z36173 := by omega
theorem vc_X12_tries_85 {z36173 z36175 z36176 : Int} (h0 : z36175 ≤ z36173) (h1 : z36173 ≤ z36176) (h2 : z36173 < z36176) (h3 : 0 ≤ z36173 ∧ z36173 ≤ 46655) (h4 : 0 ≤ z36175 ∧ z36175 ≤ 46656) (h5 : 1 ≤ z36176 ∧ z36176 ≤ 46656) : z36173 < z36176 := by omega
theorem vc_X12_tries_89 {z36173 z36175 z36176 z39122 : Int} (h0 : z36175 ≤ z36173) (h1 : z36173 ≤ z36176) (h2 : z36173 < z36176) (h3 : z36173 < z39122) (h4 : 0 ≤ z36173 ∧ z36173 ≤ 46655) (h5 : 0 ≤ z36175 ∧ z36175 ≤ 46656) (h6 : 1 ≤ z36176 ∧ z36176 ≤ 46656) (h7 : 1 ≤ z39122 ∧ z39122 ≤ 46656) : z36175 ≤ (z36173 + 1) := by omega
theorem vc_X12_tries_90 {z36173 z36175 z36176 z39122 : Int} (h0 : z36175 ≤ z36173) (h1 : z36173 ≤ z36176) (h2 : z36173 < z36176) (h3 : z36173 < z39122) (h4 : 0 ≤ z36173 ∧ z36173 ≤ 46655) (h5 : 0 ≤ z36175 ∧ z36175 ≤ 46656) (h6 : 1 ≤ z36176 ∧ z36176 ≤ 46656) (h7 : 1 ≤ z39122 ∧ z39122 ≤ 46656) : (z36173 + 1) ≤ z39122 := by omega
theorem vc_X12_tries_91 {N z36173 z36175 z36176 z39122 : Int} (h0 : (46657 - z36173) < N + 1) (h1 : z36175 ≤ z36173) (h2 : z36173 ≤ z36176) (h3 : z36173 < z36176) (h4 : z36173 < z39122) (h5 : 0 ≤ z36173 ∧ z36173 ≤ 46655) (h6 : 0 ≤ z36175 ∧ z36175 ≤ 46656) (h7 : 1 ≤ z36176 ∧ z36176 ≤ 46656) (h8 : 1 ≤ z39122 ∧ z39122 ≤ 46656) : (46657 - (z36173 + 1)) < N := by omega
theorem vc_X12_tries_93 {z36173 z36175 z36176 z39122 : Int} (h0 : z36175 ≤ z36173) (h1 : z36173 ≤ z36176) (h2 : z36173 < z36176) (h3 : z36173 < z39122) (h4 : 0 ≤ z36173 ∧ z36173 ≤ 46655) (h5 : 0 ≤ z36175 ∧ z36175 ≤ 46656) (h6 : 1 ≤ z36176 ∧ z36176 ≤ 46656) (h7 : 1 ≤ z39122 ∧ z39122 ≤ 46656) : 0 ≤ (z36175 + 1) ∧ (z36175 + 1) ≤ 46656 := by omega
theorem vc_X12_tries_94 {z36173 z36175 z36176 z39122 : Int} (h0 : z36175 ≤ z36173) (h1 : z36173 ≤ z36176) (h2 : z36173 < z36176) (h3 : z36173 < z39122) (h4 : 0 ≤ z36173 ∧ z36173 ≤ 46655) (h5 : 0 ≤ z36175 ∧ z36175 ≤ 46656) (h6 : 1 ≤ z36176 ∧ z36176 ≤ 46656) (h7 : 1 ≤ z39122 ∧ z39122 ≤ 46656) : (z36175 + 1) ≤ (z36173 + 1) := by omega
theorem vc_X12_tries_105 {z39196 z39203 z39204 : Int} (h0 : z39203 ≤ z39196) (h1 : ¬ z39203 = z39204) (h2 : 0 ≤ z39196 ∧ z39196 ≤ 5) (h3 : 0 ≤ z39203 ∧ z39203 ≤ 5) (h4 : 0 ≤ z39204 ∧ z39204 ≤ 5) : 0 ≤ z39196 := by omega
theorem vc_X12_tries_106 {z39196 z39203 z39204 : Int} (h0 : z39203 ≤ z39196) (h1 : ¬ z39203 = z39204) (h2 : 0 ≤ z39196 ∧ z39196 ≤ 5) (h3 : 0 ≤ z39203 ∧ z39203 ≤ 5) (h4 : 0 ≤ z39204 ∧ z39204 ≤ 5) : 0 ≤ z39203 ∧ z39203 ≤ z39196 := by omega
theorem vc_X12_tries_109 {z36173 z36175 z36176 z39122 : Int} (h0 : z36175 ≤ z36173) (h1 : z36173 ≤ z36176) (h2 : z36173 < z36176) (h3 : z36173 < z39122) (h4 : 0 ≤ z36173 ∧ z36173 ≤ 46655) (h5 : 0 ≤ z36175 ∧ z36175 ≤ 46656) (h6 : 1 ≤ z36176 ∧ z36176 ≤ 46656) (h7 : 1 ≤ z39122 ∧ z39122 ≤ 46656) : z36173 < z39122 := by omega
theorem vc_X12_tries_112 {z36173 z36175 z36176 z39122 : Int} (h0 : z36173 < z39122) (h1 : z36175 ≤ z36173) (h2 : z36173 ≤ z36176) (h3 : z36173 < z36176) (h4 : 0 ≤ z36173 ∧ z36173 ≤ 46655) (h5 : 0 ≤ z36175 ∧ z36175 ≤ 46656) (h6 : 1 ≤ z36176 ∧ z36176 ≤ 46656) (h7 : 1 ≤ z39122 ∧ z39122 ≤ 46656) : 0 ≤ z39122 := by omega
theorem vc_X12_tries_113 {z14 z23952 z38765 z39211 : Int} (h0 : z14 ≤ z23952) (h1 : 0 ≤ z38765 ∧ z38765 < z14) (h2 : 0 ≤ (z38765 + z39211) ∧ (z38765 + z39211) < z14) (h3 : 1 ≤ z14 ∧ z14 ≤ 46656) (h4 : 1 ≤ z23952 ∧ z23952 ≤ 46656) (h5 : 0 ≤ z38765 ∧ z38765 ≤ 46655) (h6 : (-233280) ≤ z39211 ∧ z39211 ≤ 233280) : 0 ≤ (z38765 + z39211) ∧ (z38765 + z39211) < z14 := by omega
theorem vc_X12_tries_114 {z39215 : Int} (h0 : z39215 < 0) (h1 : (-2147483648) ≤ z39215 ∧ z39215 ≤ (-1)) : z39215 < 0 := by omega
theorem vc_X12_tries_115 {z14 z36173 z36175 z36176 z39122 : Int} (h0 : z36175 ≤ z36173) (h1 : z36173 ≤ z36176) (h2 : z36173 < z36176) (h3 : z36173 < z39122) (h4 : z39122 < z14) (h5 : 1 ≤ z14 ∧ z14 ≤ 46656) (h6 : 0 ≤ z36173 ∧ z36173 ≤ 46655) (h7 : 0 ≤ z36175 ∧ z36175 ≤ 46656) (h8 : 1 ≤ z36176 ∧ z36176 ≤ 46656) (h9 : 1 ≤ z39122 ∧ z39122 ≤ 46656) : 0 ≤ z36173 := by omega
theorem vc_X12_tries_116 {z14 z23952 z36173 z36175 z36176 z38765 z39122 z39211 : Int} (h0 : z36175 ≤ z36173) (h1 : z36173 ≤ z36176) (h2 : z36173 < z36176) (h3 : z36173 < z39122) (h4 : z39122 < z14) (h5 : z14 ≤ z23952) (h6 : 0 ≤ z38765 ∧ z38765 < z14) (h7 : 0 ≤ (z38765 + z39211) ∧ (z38765 + z39211) < z14) (h8 : 1 ≤ z14 ∧ z14 ≤ 46656) (h9 : 1 ≤ z23952 ∧ z23952 ≤ 46656) (h10 : 0 ≤ z36173 ∧ z36173 ≤ 46655) (h11 : 0 ≤ z36175 ∧ z36175 ≤ 46656) (h12 : 1 ≤ z36176 ∧ z36176 ≤ 46656) (h13 : 0 ≤ z38765 ∧ z38765 ≤ 46655) (h14 : 1 ≤ z39122 ∧ z39122 ≤ 46656) (h15 : (-233280) ≤ z39211 ∧ z39211 ≤ 233280) : z36173 < z39122 := by omega
theorem vc_X12_tries_117 {z14 z36173 z36175 z36176 z39122 z39222 : Int} (h0 : z36175 ≤ z36173) (h1 : z36173 ≤ z36176) (h2 : z36173 < z36176) (h3 : z36173 < z39122) (h4 : 0 ≤ z39222 ∧ z39222 ≤ z36173) (h5 : z39122 < z14) (h6 : 1 ≤ z14 ∧ z14 ≤ 46656) (h7 : 0 ≤ z36173 ∧ z36173 ≤ 46655) (h8 : 0 ≤ z36175 ∧ z36175 ≤ 46656) (h9 : 1 ≤ z36176 ∧ z36176 ≤ 46656) (h10 : 1 ≤ z39122 ∧ z39122 ≤ 46656) (h11 : (-2147483648) ≤ z39222 ∧ z39222 ≤ 2147483647) : 0 ≤ z39222 ∧ z39222 ≤ 46656 := by omega
theorem vc_X12_tries_118 {z14 z23952 z38765 z39122 z39211 : Int} (h0 : 0 ≤ z38765 ∧ z38765 < z14) (h1 : 0 ≤ (z38765 + z39211) ∧ (z38765 + z39211) < z14) (h2 : z14 ≤ z23952) (h3 : z39122 < z14) (h4 : 1 ≤ z14 ∧ z14 ≤ 46656) (h5 : 1 ≤ z23952 ∧ z23952 ≤ 46656) (h6 : 0 ≤ z38765 ∧ z38765 ≤ 46655) (h7 : 1 ≤ z39122 ∧ z39122 ≤ 46656) (h8 : (-233280) ≤ z39211 ∧ z39211 ≤ 233280) : 0 ≤ (z38765 + z39211) ∧ (z38765 + z39211) < 46656 := by omega
theorem vc_X12_tries_119 {z14 z23952 z36173 z36175 z36176 z38765 z39122 z39211 z39222 : Int} (h0 : z36173 < z39122) (h1 : z39122 < z14) (h2 : z14 ≤ z23952) (h3 : z36175 ≤ z36173) (h4 : z36173 ≤ z36176) (h5 : z36173 < z36176) (h6 : 0 ≤ z38765 ∧ z38765 < z14) (h7 : 0 ≤ (z38765 + z39211) ∧ (z38765 + z39211) < z14) (h8 : 0 ≤ z39222 ∧ z39222 ≤ z36173) (h9 : 1 ≤ z14 ∧ z14 ≤ 46656) (h10 : 1 ≤ z23952 ∧ z23952 ≤ 46656) (h11 : 0 ≤ z36173 ∧ z36173 ≤ 46655) (h12 : 0 ≤ z36175 ∧ z36175 ≤ 46656) (h13 : 1 ≤ z36176 ∧ z36176 ≤ 46656) (h14 : 0 ≤ z38765 ∧ z38765 ≤ 46655) (h15 : 1 ≤ z39122 ∧ z39122 ≤ 46656) (h16 : (-233280) ≤ z39211 ∧ z39211 ≤ 233280) (h17 : 0 ≤ z39222 ∧ z39222 ≤ 46656) : 0 ≤ z39122 ∧ z39122 < 46656 := by omega
theorem vc_X12_tries_120 {z14 z23952 z38765 z39122 z39211 : Int} (h0 : 0 ≤ z38765 ∧ z38765 < z14) (h1 : 0 ≤ (z38765 + z39211) ∧ (z38765 + z39211) < z14) (h2 : z14 ≤ z23952) (h3 : z39122 < z14) (h4 : 1 ≤ z14 ∧ z14 ≤ 46656) (h5 : 1 ≤ z23952 ∧ z23952 ≤ 46656) (h6 : 0 ≤ z38765 ∧ z38765 ≤ 46655) (h7 : 1 ≤ z39122 ∧ z39122 ≤ 46656) (h8 : (-233280) ≤ z39211 ∧ z39211 ≤ 233280) : 0 ≤ (z38765 + z39211) ∧ (z38765 + z39211) ≤ 46655 := by omega
theorem vc_X12_tries_121 {z14 z23952 z36173 z36175 z36176 z38765 z39122 z39211 z39222 : Int} (h0 : z36173 < z39122) (h1 : z39122 < z14) (h2 : z14 ≤ z23952) (h3 : z36175 ≤ z36173) (h4 : z36173 ≤ z36176) (h5 : z36173 < z36176) (h6 : 0 ≤ z38765 ∧ z38765 < z14) (h7 : 0 ≤ (z38765 + z39211) ∧ (z38765 + z39211) < z14) (h8 : 0 ≤ z39222 ∧ z39222 ≤ z36173) (h9 : 1 ≤ z14 ∧ z14 ≤ 46656) (h10 : 1 ≤ z23952 ∧ z23952 ≤ 46656) (h11 : 0 ≤ z36173 ∧ z36173 ≤ 46655) (h12 : 0 ≤ z36175 ∧ z36175 ≤ 46656) (h13 : 1 ≤ z36176 ∧ z36176 ≤ 46656) (h14 : 0 ≤ z38765 ∧ z38765 ≤ 46655) (h15 : 1 ≤ z39122 ∧ z39122 ≤ 46656) (h16 : (-233280) ≤ z39211 ∧ z39211 ≤ 233280) (h17 : 0 ≤ z39222 ∧ z39222 ≤ 46656) : 0 ≤ z39122 := by omega
theorem vc_X12_tries_122 {z14 z23952 z36173 z38765 z39122 z39211 : Int} (h0 : z14 ≤ z23952) (h1 : 0 ≤ z38765 ∧ z38765 < z14) (h2 : 0 ≤ (z38765 + z39211) ∧ (z38765 + z39211) < z14) (h3 : z39122 < z14) (h4 : z36173 < z39122) (h5 : 1 ≤ z14 ∧ z14 ≤ 46656) (h6 : 1 ≤ z23952 ∧ z23952 ≤ 46656) (h7 : 0 ≤ z36173 ∧ z36173 ≤ 46655) (h8 : 0 ≤ z38765 ∧ z38765 ≤ 46655) (h9 : 1 ≤ z39122 ∧ z39122 ≤ 46656) (h10 : (-233280) ≤ z39211 ∧ z39211 ≤ 233280) : 0 ≤ (z38765 + z39211) ∧ (z38765 + z39211) < z14 := by omega
theorem vc_X12_tries_123 {z14 z23952 z36173 z36175 z36176 z38765 z39122 z39211 z39222 : Int} (h0 : z36173 < z39122) (h1 : z39122 < z14) (h2 : 0 ≤ z39222 ∧ z39222 ≤ z36173) (h3 : z14 ≤ z23952) (h4 : z36175 ≤ z36173) (h5 : z36173 ≤ z36176) (h6 : z36173 < z36176) (h7 : 0 ≤ z38765 ∧ z38765 < z14) (h8 : 0 ≤ (z38765 + z39211) ∧ (z38765 + z39211) < z14) (h9 : 1 ≤ z14 ∧ z14 ≤ 46656) (h10 : 1 ≤ z23952 ∧ z23952 ≤ 46656) (h11 : 0 ≤ z36173 ∧ z36173 ≤ 46655) (h12 : 0 ≤ z36175 ∧ z36175 ≤ 46656) (h13 : 1 ≤ z36176 ∧ z36176 ≤ 46656) (h14 : 0 ≤ z38765 ∧ z38765 ≤ 46655) (h15 : 1 ≤ z39122 ∧ z39122 ≤ 46656) (h16 : (-233280) ≤ z39211 ∧ z39211 ≤ 233280) (h17 : 0 ≤ z39222 ∧ z39222 ≤ 46656) : 0 ≤ (z39222 + 1) ∧ (z39222 + 1) ≤ z39122 := by omega
theorem vc_X12_tries_124 {z14 z23952 z36173 z36175 z36176 z38765 z39122 z39211 z39222 : Int} (h0 : z36175 ≤ z36173) (h1 : z36173 ≤ z36176) (h2 : z36173 < z36176) (h3 : z36173 < z39122) (h4 : z39122 < z14) (h5 : 0 ≤ z39222 ∧ z39222 ≤ z36173) (h6 : z14 ≤ z23952) (h7 : 0 ≤ z38765 ∧ z38765 < z14) (h8 : 0 ≤ (z38765 + z39211) ∧ (z38765 + z39211) < z14) (h9 : 1 ≤ z14 ∧ z14 ≤ 46656) (h10 : 1 ≤ z23952 ∧ z23952 ≤ 46656) (h11 : 0 ≤ z36173 ∧ z36173 ≤ 46655) (h12 : 0 ≤ z36175 ∧ z36175 ≤ 46656) (h13 : 1 ≤ z36176 ∧ z36176 ≤ 46656) (h14 : 0 ≤ z38765 ∧ z38765 ≤ 46655) (h15 : 1 ≤ z39122 ∧ z39122 ≤ 46656) (h16 : (-233280) ≤ z39211 ∧ z39211 ≤ 233280) (h17 : 0 ≤ z39222 ∧ z39222 ≤ 46656) : z36173.toNat ≠ z39122.toNat := by omega
theorem vc_X12_tries_125 {z14 z23952 z36173 z36175 z36176 z38765 z39122 z39211 z39222 : Int} (h0 : z36173 < z39122) (h1 : z39122 < z14) (h2 : z14 ≤ z23952) (h3 : z36175 ≤ z36173) (h4 : z36173 ≤ z36176) (h5 : z36173 < z36176) (h6 : 0 ≤ z38765 ∧ z38765 < z14) (h7 : 0 ≤ (z38765 + z39211) ∧ (z38765 + z39211) < z14) (h8 : 0 ≤ z39222 ∧ z39222 ≤ z36173) (h9 : 1 ≤ z14 ∧ z14 ≤ 46656) (h10 : 1 ≤ z23952 ∧ z23952 ≤ 46656) (h11 : 0 ≤ z36173 ∧ z36173 ≤ 46655) (h12 : 0 ≤ z36175 ∧ z36175 ≤ 46656) (h13 : 1 ≤ z36176 ∧ z36176 ≤ 46656) (h14 : 0 ≤ z38765 ∧ z38765 ≤ 46655) (h15 : 1 ≤ z39122 ∧ z39122 ≤ 46656) (h16 : (-233280) ≤ z39211 ∧ z39211 ≤ 233280) (h17 : 0 ≤ z39222 ∧ z39222 ≤ 46656) : 1 ≤ (z39122 + 1) ∧ (z39122 + 1) ≤ 46656 := by omega
theorem vc_X12_tries_126 {z14 z23952 z36173 z36175 z36176 z38765 z39122 z39211 z39222 : Int} (h0 : z36175 ≤ z36173) (h1 : z36173 ≤ z36176) (h2 : z36173 < z36176) (h3 : z36173 < z39122) (h4 : z39122 < z14) (h5 : 0 ≤ z39222 ∧ z39222 ≤ z36173) (h6 : z14 ≤ z23952) (h7 : 0 ≤ z38765 ∧ z38765 < z14) (h8 : 0 ≤ (z38765 + z39211) ∧ (z38765 + z39211) < z14) (h9 : 1 ≤ z14 ∧ z14 ≤ 46656) (h10 : 1 ≤ z23952 ∧ z23952 ≤ 46656) (h11 : 0 ≤ z36173 ∧ z36173 ≤ 46655) (h12 : 0 ≤ z36175 ∧ z36175 ≤ 46656) (h13 : 1 ≤ z36176 ∧ z36176 ≤ 46656) (h14 : 0 ≤ z38765 ∧ z38765 ≤ 46655) (h15 : 1 ≤ z39122 ∧ z39122 ≤ 46656) (h16 : (-233280) ≤ z39211 ∧ z39211 ≤ 233280) (h17 : 0 ≤ z39222 ∧ z39222 ≤ 46656) : z36173 < (z39122 + 1) := by omega
theorem vc_X12_tries_128  : ((0 : Int) : Int) ≤ ((1 : Int) : Int) := by omega
theorem vc_X12_tries_131 {p1 z5 : Int} (h0 : z5 = 0) (h1 : (z5 = 1 → (0 : Int) ≤ p1 ∧ p1 ≤ (3 : Int))) (h2 : (z5 = 0 → p1 < (0 : Int) ∨ (3 : Int) < p1)) (h3 : (-2147483648) ≤ p1 ∧ p1 ≤ 2147483647) (h4 : 0 ≤ z5 ∧ z5 ≤ 1) : 0 ≤ z5 ∧ z5 ≤ 0 := by omega
theorem vc_X12_tries_132 {p1 z5 : Int} (h0 : (z5 = 1 → (0 : Int) ≤ p1 ∧ p1 ≤ (3 : Int))) (h1 : (z5 = 0 → p1 < (0 : Int) ∨ (3 : Int) < p1)) (h2 : z5 = 0) (h3 : (-2147483648) ≤ p1 ∧ p1 ≤ 2147483647) (h4 : 0 ≤ z5 ∧ z5 ≤ 0) : z5 = 0 := by omega
set_option maxRecDepth 4000 in
set_option maxHeartbeats 4000000 in
theorem c_X12_tries {l : Launch} {D : va_G} {c : Nat → ClassId} {H0 : Heap} {sa : Nat × Nat × (Nat → Int32)} {w : mW} {μ : mM} (hw : mWF w) (hT : mT w μ) {p1 : Int} (hp1 : (-2147483648) ≤ p1 ∧ p1 ≤ 2147483647) : sC (gG l D c H0 sa) mX12_tries 3 0 0 [.ref 106, iv p1] (mk w μ) (qI w [187999, 188999, 189999, 190999, 191999] μ (fun z μ1 => ((-2147483648) ≤ z ∧ z ≤ 2147483647) ∧ True)) := by
  refine sC.of rfl (by decide) (le_t rfl) ?_
  refine mr_lvE (lv' := [(0, .ref 106), (1, iv p1)]) rfl ?_
  refine mr_iload_n (pc := 0) (z := p1) dX12_tries_0 rfl rfl ?_
  refine mr_iconst (pc := 1) (z := 0) dX12_tries_1 ?_
  refine mr_iconst (pc := 2) (z := 3) dX12_tries_2 ?_
  refine mr_cSP (pc := 3) (c_X12_in hw hT hp1 (rW (c := (-2147483648)) (d := 2147483647) (rR (x := 0)) rfl) (rW (c := (-2147483648)) (d := 2147483647) (rR (x := 3)) rfl)) (gOk _ _ _ _ _) dX12_tries_3 (tX12_in _ _ _ _ _) wS_X12_in wM_X12_18 ⟨le_t rfl, le_t rfl⟩ ⟨le_t rfl, le_t rfl⟩ rfl (le_t rfl) fun z5 h4 => ?_
  refine mr_if_ne (pc := 6) (tgt := 11) dX12_tries_6 (by decide) (r32 h4.1 rfl) (fun h6 => ?_) (fun h6 => ?_)
  · have h7 : 1 ≤ z5 ∧ z5 ≤ 1 := (vc_X12_tries_1 h6 h4.2.1 h4.2.2.1 hp1 h4.1)
    have h8 : (0 : Int) ≤ p1 ∧ p1 ≤ (3 : Int) := (h4.2.1 (vc_X12_tries_2 h4.2.1 h4.2.2.1 h6 hp1 h7))
    have h9 : 0 ≤ p1 ∧ p1 ≤ 3 := (vc_X12_tries_3 h8 h4.2.1 h4.2.2.1 hp1 h7)
    refine sv_aload_n (pc := 11) dX12_tries_11 rfl rfl ?_
    refine mr_cVI (pc := 12) (c_X12_states_r hw hT) (gOk _ _ _ _ _) dX12_tries_12 (tX12_states _ _ _ _ _) ⟨wV_X12_states, wL_X12_states⟩ wM_X12_728 (gCX12 _ _ _ _ _) rfl (A_106 hw) rfl ⟨le_t rfl, le_t rfl⟩ ⟨le_t rfl, le_t rfl⟩ rfl (le_t rfl) fun z14 μ10 T11 F12 h13 => ?_
    obtain ⟨z15, z17, z19, z21, z23, z25, q16, q18, q20, q22, q24, q26, h27⟩ := h13
    have h28 : (0 ≤ z15 ∧ z15 ≤ 46656) := by rw [← q16]; exact T11 187 187 (A_187 hw) ((1 : Int).toNat)
    have h29 : (0 ≤ z17 ∧ z17 ≤ 46656) := by rw [← q18]; exact T11 187 187 (A_187 hw) ((2 : Int).toNat)
    have h30 : (0 ≤ z19 ∧ z19 ≤ 46656) := by rw [← q20]; exact T11 187 187 (A_187 hw) ((3 : Int).toNat)
    have h31 : (0 ≤ z21 ∧ z21 ≤ 46656) := by rw [← q22]; exact T11 187 187 (A_187 hw) ((4 : Int).toNat)
    have h32 : (0 ≤ z23 ∧ z23 ≤ 46656) := by rw [← q24]; exact T11 187 187 (A_187 hw) ((5 : Int).toNat)
    have h33 : (0 ≤ z25 ∧ z25 ≤ 46656) := by rw [← q26]; exact T11 187 187 (A_187 hw) ((6 : Int).toNat)
    have h34 : 1 ≤ z15 ∧ z15 ≤ 46656 := (vc_X12_open_1 h27.2.1 h28)
    have h35 : 1 ≤ z17 ∧ z17 ≤ 46656 := (vc_X12_open_1 h27.2.2.1 h29)
    have h36 : 1 ≤ z19 ∧ z19 ≤ 46656 := (vc_X12_open_1 h27.2.2.2.1 h30)
    have h37 : 1 ≤ z21 ∧ z21 ≤ 46656 := (vc_X12_open_1 h27.2.2.2.2.1 h31)
    have h38 : 1 ≤ z23 ∧ z23 ≤ 46656 := (vc_X12_open_1 h27.2.2.2.2.2.1 h32)
    have h39 : 1 ≤ z25 ∧ z25 ≤ 46656 := (vc_X12_open_1 h27.2.2.2.2.2.2.1 h33)
    refine mr_istore_n (pc := 15) (lv' := [(2, iv z14), (0, .ref 106), (1, iv p1)]) dX12_tries_15 rfl (by decide) rfl ?_
    refine mr_iconst (pc := 16) (z := 0) dX12_tries_16 ?_
    refine mr_istore_n (pc := 17) (lv' := [(3, iv 0), (2, iv z14), (0, .ref 106), (1, iv p1)]) dX12_tries_17 rfl (by decide) rfl ?_
    have L23954 : ∀ (nL23954 : Nat) (z23952 : Int) (μ23953 : mM), mT w μ23953 → mF [189999, 191999] w μ10 μ23953 → (0 ≤ z23952 ∧ z23952 ≤ 46656) → (46657 - z23952) < (nL23954 : Int) → sV (gG l D c H0 sa) mX12_tries (sRm 3 0 0) (sZ (gG l D c H0 sa) 0 0 (qI w [187999, 188999, 189999, 190999, 191999] μ (fun z μ1 => ((-2147483648) ≤ z ∧ z ≤ 2147483647) ∧ True))) 18 [(0, .ref 106), (1, iv p1), (2, iv z14), (3, iv z23952)] [] (mk w μ23953) 0 0 := by
      intro nL23954
      induction nL23954 with
      | zero => intro z23952 μ23953 T23956 F23957 h23955 h23959; exact ((vc_X12_rests_7 h23959 h23955)).elim
      | succ nL23954 ih23960 =>
        intro z23952 μ23953 T23956 F23957 h23955 h23959
        refine mr_iload_n (pc := 18) (z := z23952) dX12_tries_18 rfl rfl ?_
        refine mr_iload_n (pc := 19) (z := z14) dX12_tries_19 rfl rfl ?_
        refine mr_icmp_ge (pc := 20) (tgt := 43) dX12_tries_20 (by decide) (r32 h23955 rfl) (r32 h27.1 rfl) (fun h23969 => ?_) (fun h23969 => ?_)
        · have h23970 : 1 ≤ z23952 ∧ z23952 ≤ 46656 := (vc_X12_rest_13 h23969 h27.1 h23955)
          refine mr_iconst (pc := 43) (z := 0) dX12_tries_43 ?_
          refine mr_istore_n (pc := 44) (lv' := [(3, iv 0), (0, .ref 106), (1, iv p1), (2, iv z14)]) dX12_tries_44 rfl (by decide) rfl ?_
          refine sv_aload_n (pc := 45) dX12_tries_45 rfl rfl ?_
          refine gf_X12_124 (pc := 46) dX12_tries_46 wF_X12_533 (A_106 hw) T23956 ?_
          refine mr_iload_n (pc := 49) (z := 0) dX12_tries_49 rfl rfl ?_
          refine mr_iload_n (pc := 50) (z := z14) dX12_tries_50 rfl rfl ?_
          refine mr_iconst (pc := 51) (z := 1) dX12_tries_51 ?_
          refine mr_isub (pc := 52) (x := z14) (y := 1) dX12_tries_52 ?_
          refine ss_190 (pc := 53) dX12_tries_53 (A_190 hw) T23956 (rIx (n := 46656) (rR (x := 0)) rfl) (rSub (e := 0) (f := 46655) h27.1 (rR (x := 1)) rfl) fun μ23971 u23972 T23973 => ?_
          refine sv_aload_n (pc := 54) dX12_tries_54 rfl rfl ?_
          refine gf_X12_123 (pc := 55) dX12_tries_55 wF_X12_530 (A_106 hw) T23973 ?_
          refine mr_iload_n (pc := 58) (z := z14) dX12_tries_58 rfl rfl ?_
          refine mr_iconst (pc := 59) (z := 1) dX12_tries_59 ?_
          refine mr_isub (pc := 60) (x := z14) (y := 1) dX12_tries_60 ?_
          refine mr_iconst (pc := 61) (z := 0) dX12_tries_61 ?_
          refine ss_189 (pc := 62) dX12_tries_62 (A_189 hw) T23973 (rIx (n := 46656) (rSub (e := 0) (f := 46655) h27.1 (rR (x := 1)) rfl) rfl) (rW (c := (-2147483648)) (d := 2147483647) (rR (x := 0)) rfl) fun μ23974 u23975 T23976 => ?_
          have Q23977 : quOK μ23974 1 z14 := quOK.init (vc_X12_tries_12 h23969 h27.1 h23970) (vc_X12_tries_13 h23969 h27.1 h23970) u23972 u23975
          refine mr_iinc (pc := 63) (lv' := [(3, iv 1), (0, .ref 106), (1, iv p1), (2, iv z14)]) dX12_tries_63 rfl (by decide) rfl ?_
          refine mr_iconst (pc := 66) (z := 0) dX12_tries_66 ?_
          refine mr_istore (pc := 67) (lv' := [(4, iv 0), (3, iv 1), (0, .ref 106), (1, iv p1), (2, iv z14)]) dX12_tries_67 (by decide) rfl ?_
          refine mr_ldc (pc := 69) (z := (-99999999)) dX12_tries_69 wG_X12_29 (by decide) ?_
          refine mr_istore (pc := 71) (lv' := [(5, iv (-99999999)), (4, iv 0), (3, iv 1), (0, .ref 106), (1, iv p1), (2, iv z14)]) dX12_tries_71 (by decide) rfl ?_
          refine mr_iconst (pc := 73) (z := 0) dX12_tries_73 ?_
          refine mr_istore (pc := 74) (lv' := [(6, iv 0), (5, iv (-99999999)), (4, iv 0), (3, iv 1), (0, .ref 106), (1, iv p1), (2, iv z14)]) dX12_tries_74 (by decide) rfl ?_
          have L36178 : ∀ (nL36178 : Nat) (z36176 z36175 z36174 z36173 : Int) (μ36177 : mM), mT w μ36177 → mF [188999, 189999, 190999, 191999] w μ23974 μ36177 → (1 ≤ z36176 ∧ z36176 ≤ 46656) → (0 ≤ z36175 ∧ z36175 ≤ 46656) → ((-2147483648) ≤ z36174 ∧ z36174 ≤ 2147483647) → (0 ≤ z36173 ∧ z36173 ≤ 46656) → (z36175 ≤ z36173) → (z36173 ≤ z36176) → quOK μ36177 z36176 z14 → (46657 - z36173) < (nL36178 : Int) → sV (gG l D c H0 sa) mX12_tries (sRm 3 0 0) (sZ (gG l D c H0 sa) 0 0 (qI w [187999, 188999, 189999, 190999, 191999] μ (fun z μ1 => ((-2147483648) ≤ z ∧ z ≤ 2147483647) ∧ True))) 76 [(0, .ref 106), (1, iv p1), (3, iv z36176), (4, iv z36175), (5, iv z36174), (6, iv z36173)] [] (mk w μ36177) 0 0 := by
            intro nL36178
            induction nL36178 with
            | zero => intro z36176 z36175 z36174 z36173 μ36177 T36183 F36184 h36179 h36180 h36181 h36182 h36186 h36187 R36188 h36189; exact ((vc_X12_tries_14 h36189 h36186 h36187 h36182 h36180 h36179)).elim
            | succ nL36178 ih36190 =>
              intro z36176 z36175 z36174 z36173 μ36177 T36183 F36184 h36179 h36180 h36181 h36182 h36186 h36187 R36188 h36189
              refine mr_iload (pc := 76) (z := z36173) dX12_tries_76 rfl ?_
              refine mr_iload_n (pc := 78) (z := z36176) dX12_tries_78 rfl rfl ?_
              refine mr_icmp_ge (pc := 79) (tgt := 240) dX12_tries_79 (by decide) (r32 h36182 rfl) (r32 h36179 rfl) (fun h36331 => ?_) (fun h36331 => ?_)
              · have h36332 : 1 ≤ z36173 ∧ z36173 ≤ 46656 := (vc_X12_tries_15 h36331 h36186 h36187 h36182 h36180 h36179)
                refine mr_iload_n (pc := 240) (z := p1) dX12_tries_240 rfl rfl ?_
                refine mr_if_ne (pc := 241) (tgt := 246) dX12_tries_241 (by decide) (r32 h9 rfl) (fun h36333 => ?_) (fun h36333 => ?_)
                · have h36334 : 1 ≤ p1 ∧ p1 ≤ 3 := (vc_X12_tries_16 h36333 h4.2.1 h4.2.2.1 h8 h9 h7)
                  refine mr_iload_n (pc := 246) (z := p1) dX12_tries_246 rfl rfl ?_
                  refine mr_iconst (pc := 247) (z := 1) dX12_tries_247 ?_
                  refine mr_icmp_ne (pc := 248) (tgt := 254) dX12_tries_248 (by decide) (r32 h36334 rfl) (r32 (rR (x := 1)) rfl) (fun h36335 => ?_) (fun h36335 => ?_)
                  · have h36336 : 2 ≤ p1 ∧ p1 ≤ 3 := (vc_X12_tries_17 h36335 h4.2.1 h4.2.2.1 h8 h36333 h36334 h7)
                    refine mr_iload_n (pc := 254) (z := p1) dX12_tries_254 rfl rfl ?_
                    refine mr_iconst (pc := 255) (z := 3) dX12_tries_255 ?_
                    refine mr_icmp_ne (pc := 256) (tgt := 262) dX12_tries_256 (by decide) (r32 h36336 rfl) (r32 (rR (x := 3)) rfl) (fun h36337 => ?_) (fun h36337 => ?_)
                    · have h36338 : 2 ≤ p1 ∧ p1 ≤ 2 := (vc_X12_tries_18 h36337 h4.2.1 h4.2.2.1 h8 h36333 h36335 h36336 h7)
                      refine mr_iconst (pc := 262) (z := 1) dX12_tries_262 ?_
                      refine mr_istore (pc := 263) (lv' := [(6, iv 1), (0, .ref 106), (1, iv p1), (3, iv z36176), (4, iv z36175), (5, iv z36174)]) dX12_tries_263 (by decide) rfl ?_
                      have L37190 : ∀ (nL37190 : Nat) (z37188 : Int) (μ37189 : mM) (f_k : Int), mT w μ37189 → mF [188999, 191999] w μ36177 μ37189 → cnt μ37189 191 46656 = f_k → (0 ≤ z37188 ∧ z37188 ≤ 1) → ((2 * (46656 - f_k)) + z37188) < (nL37190 : Int) → sV (gG l D c H0 sa) mX12_tries (sRm 3 0 0) (sZ (gG l D c H0 sa) 0 0 (qI w [187999, 188999, 189999, 190999, 191999] μ (fun z μ1 => ((-2147483648) ≤ z ∧ z ≤ 2147483647) ∧ True))) 265 [(0, .ref 106), (3, iv z36176), (6, iv z37188)] [] (mk w μ37189) 0 0 := by
                        intro nL37190
                        induction nL37190 with
                        | zero => intro z37188 μ37189 f_k T37192 F37193 q37196 h37191 h37195; exact ((vc_X12_tries_19 h37195 (by rw [← q37196]; exact cnt_rng (fun i => T37192 191 191 (A_191 hw) i) 46656) h37191)).elim
                        | succ nL37190 ih37197 =>
                          intro z37188 μ37189 f_k T37192 F37193 q37196 h37191 h37195
                          have h37198 : 0 ≤ f_k ∧ f_k ≤ 46656 := by rw [← q37196]; exact cnt_rng (fun i => T37192 191 191 (A_191 hw) i) 46656
                          refine mr_iload (pc := 265) (z := z37188) dX12_tries_265 rfl ?_
                          refine mr_if_eq (pc := 267) (tgt := 405) dX12_tries_267 (by decide) (r32 h37191 rfl) (fun h37461 => ?_) (fun h37461 => ?_)
                          · have h37462 : 0 ≤ z37188 ∧ z37188 ≤ 0 := (vc_X12_ring_22 h37461 h37191)
                            refine mr_iconst (pc := 405) (z := 0) dX12_tries_405 ?_
                            refine mr_istore (pc := 406) (lv' := [(7, iv 0), (0, .ref 106), (3, iv z36176), (6, iv z37188)]) dX12_tries_406 (by decide) rfl ?_
                            refine mr_iconst (pc := 408) (z := 0) dX12_tries_408 ?_
                            refine mr_istore (pc := 409) (lv' := [(8, iv 0), (7, iv 0), (0, .ref 106), (3, iv z36176), (6, iv z37188)]) dX12_tries_409 (by decide) rfl ?_
                            have L37687 : ∀ (nL37687 : Nat) (z37686 z37685 : Int), True → ((-2147483648) ≤ z37686 ∧ z37686 ≤ 2147483647) → (0 ≤ z37685 ∧ z37685 ≤ 46656) → (46657 - z37685) < (nL37687 : Int) → sV (gG l D c H0 sa) mX12_tries (sRm 3 0 0) (sZ (gG l D c H0 sa) 0 0 (qI w [187999, 188999, 189999, 190999, 191999] μ (fun z μ1 => ((-2147483648) ≤ z ∧ z ≤ 2147483647) ∧ True))) 411 [(0, .ref 106), (3, iv z36176), (7, iv z37686), (8, iv z37685)] [] (mk w μ37189) 0 0 := by
                              intro nL37687
                              induction nL37687 with
                              | zero => intro z37686 z37685 _ h37688 h37689 h37693; exact ((vc_X12_rests_7 h37693 h37689)).elim
                              | succ nL37687 ih37694 =>
                                intro z37686 z37685 _ h37688 h37689 h37693
                                refine mr_iload (pc := 411) (z := z37685) dX12_tries_411 rfl ?_
                                refine mr_iload_n (pc := 413) (z := z36176) dX12_tries_413 rfl rfl ?_
                                refine mr_icmp_ge (pc := 414) (tgt := 448) dX12_tries_414 (by decide) (r32 h37689 rfl) (r32 h36179 rfl) (fun h37707 => ?_) (fun h37707 => ?_)
                                · have h37708 : 1 ≤ z37685 ∧ z37685 ≤ 46656 := (vc_X12_tries_22 h37707 h36187 h36331 h36332 h36179 h37689)
                                  refine mr_iload (pc := 448) (z := z37686) dX12_tries_448 rfl ?_
                                  exact mr_iret dX12_tries_450 rfl (le_t rfl) (le_t rfl) T37192 (mF.call (mF.call (mF.up (mF.up (mF.call (mF.call mF.refl F12 rfl) F23957 rfl) (A_190 hw) u23972 rfl) (A_189 hw) u23975 rfl) F36184 rfl) F37193 rfl) ⟨h37688, trivial⟩
                                have h37709 : 0 ≤ z37685 ∧ z37685 ≤ 46655 := (vc_X12_tries_23 h37707 h36187 h36331 h36332 h36179 h37689)
                                refine mr_iload (pc := 417) (z := z37686) dX12_tries_417 rfl ?_
                                refine sv_aload_n (pc := 419) dX12_tries_419 rfl rfl ?_
                                refine gf_X12_125 (pc := 420) dX12_tries_420 wF_X12_536 (A_106 hw) T37192 ?_
                                refine sv_aload_n (pc := 423) dX12_tries_423 rfl rfl ?_
                                refine gf_X12_124 (pc := 424) dX12_tries_424 wF_X12_533 (A_106 hw) T37192 ?_
                                refine mr_iload (pc := 427) (z := z37685) dX12_tries_427 rfl ?_
                                refine la_190 (pc := 429) dX12_tries_429 (A_190 hw) T37192 (rIx (n := 46656) h37709 rfl) fun z37710 q37711 h37712 => ?_
                                refine la_191 (pc := 430) dX12_tries_430 (A_191 hw) T37192 (rIx (n := 46656) h37712 rfl) fun z37713 q37714 h37715 => ?_
                                refine mr_if_eq (pc := 431) (tgt := 438) dX12_tries_431 (by decide) (r32 h37715 rfl) (fun h37718 => ?_) (fun h37718 => ?_)
                                · have h37719 : 0 ≤ z37713 ∧ z37713 ≤ 0 := (vc_X12_ring_22 h37718 h37715)
                                  refine mr_iconst (pc := 438) (z := 1) dX12_tries_438 ?_
                                  refine mr_iadd (pc := 439) (x := z37686) (y := 1) dX12_tries_439 ?_
                                  refine mr_wrap fun z37720 h37721 => ?_
                                  refine mr_istore (pc := 440) (lv' := [(7, iv z37720), (0, .ref 106), (3, iv z36176), (8, iv z37685)]) dX12_tries_440 (by decide) rfl ?_
                                  refine mr_iinc (pc := 442) (lv' := [(8, iv (z37685 + 1)), (7, iv z37720), (0, .ref 106), (3, iv z36176)]) dX12_tries_442 rfl (by decide) rfl ?_
                                  refine sv_goto (pc := 445) (tgt := 411) dX12_tries_445 (by decide) ?_
                                  refine mr_lvS (lv' := [(0, .ref 106), (3, iv z36176), (7, iv z37720), (8, iv (z37685 + 1))]) (List.forall_mem_cons.mpr ⟨rfl, List.forall_mem_cons.mpr ⟨rfl, List.forall_mem_cons.mpr ⟨rfl, List.forall_mem_cons.mpr ⟨rfl, fun _ h => absurd h List.not_mem_nil⟩⟩⟩⟩) ?_
                                  exact ih37694 z37720 (z37685 + 1) trivial h37721 (rW (c := 0) (d := 46656) (rAdd (e := 1) (f := 46656) h37709 (rR (x := 1)) rfl) rfl) (vc_X12_tries_25 (nS h37693) h37707 h36187 h36331 h36332 h36179 h37709)
                                have h37722 : 1 ≤ z37713 ∧ z37713 ≤ 1 := (vc_X12_ring_24 h37718 h37715)
                                refine mr_iconst (pc := 434) (z := 0) dX12_tries_434 ?_
                                refine sv_goto (pc := 435) (tgt := 439) dX12_tries_435 (by decide) ?_
                                refine mr_iadd (pc := 439) (x := z37686) (y := 0) dX12_tries_439 ?_
                                refine mr_istore (pc := 440) (lv' := [(7, iv (z37686 + 0)), (0, .ref 106), (3, iv z36176), (8, iv z37685)]) dX12_tries_440 (by decide) rfl ?_
                                refine mr_iinc (pc := 442) (lv' := [(8, iv (z37685 + 1)), (7, iv (z37686 + 0)), (0, .ref 106), (3, iv z36176)]) dX12_tries_442 rfl (by decide) rfl ?_
                                refine sv_goto (pc := 445) (tgt := 411) dX12_tries_445 (by decide) ?_
                                refine mr_lvS (lv' := [(0, .ref 106), (3, iv z36176), (7, iv (z37686 + 0)), (8, iv (z37685 + 1))]) (List.forall_mem_cons.mpr ⟨rfl, List.forall_mem_cons.mpr ⟨rfl, List.forall_mem_cons.mpr ⟨rfl, List.forall_mem_cons.mpr ⟨rfl, fun _ h => absurd h List.not_mem_nil⟩⟩⟩⟩) ?_
                                exact ih37694 (z37686 + 0) (z37685 + 1) trivial (rAdd (e := (-2147483648)) (f := 2147483647) h37688 (rR (x := 0)) rfl) (rW (c := 0) (d := 46656) (rAdd (e := 1) (f := 46656) h37709 (rR (x := 1)) rfl) rfl) (vc_X12_tries_25 (nS h37693) h37707 h36187 h36331 h36332 h36179 h37709)
                            refine mr_lvS (lv' := [(0, .ref 106), (3, iv z36176), (7, iv 0), (8, iv 0)]) (List.forall_mem_cons.mpr ⟨rfl, List.forall_mem_cons.mpr ⟨rfl, List.forall_mem_cons.mpr ⟨rfl, List.forall_mem_cons.mpr ⟨rfl, fun _ h => absurd h List.not_mem_nil⟩⟩⟩⟩) ?_
                            exact L37687 46658 0 0 trivial (rW (c := (-2147483648)) (d := 2147483647) (rR (x := 0)) rfl) (rW (c := 0) (d := 46656) (rR (x := 0)) rfl) vc_X12_rests_19
                          have h37723 : 1 ≤ z37188 ∧ z37188 ≤ 1 := (vc_X12_ring_24 h37461 h37191)
                          refine mr_iconst (pc := 270) (z := 0) dX12_tries_270 ?_
                          refine mr_istore (pc := 271) (lv' := [(6, iv 0), (0, .ref 106), (3, iv z36176)]) dX12_tries_271 (by decide) rfl ?_
                          refine mr_iload_n (pc := 273) (z := z36176) dX12_tries_273 rfl rfl ?_
                          refine mr_iconst (pc := 274) (z := 1) dX12_tries_274 ?_
                          refine mr_isub (pc := 275) (x := z36176) (y := 1) dX12_tries_275 ?_
                          refine mr_istore (pc := 276) (lv' := [(7, iv (z36176 - 1)), (6, iv 0), (0, .ref 106), (3, iv z36176)]) dX12_tries_276 (by decide) rfl ?_
                          have L38111 : ∀ (nL38111 : Nat) (z38109 z38108 : Int) (μ38110 : mM) (f_k2 : Int), mT w μ38110 → mF [188999, 191999] w μ37189 μ38110 → cnt μ38110 191 46656 = f_k2 → (0 ≤ z38109 ∧ z38109 ≤ 1) → ((-1) ≤ z38108 ∧ z38108 ≤ 46655) → (f_k ≤ f_k2) → (z38109 = 0 ∨ f_k + 1 ≤ f_k2) → (z38108 < z36176) → (z38108 - (-2)) < (nL38111 : Int) → sV (gG l D c H0 sa) mX12_tries (sRm 3 0 0) (sZ (gG l D c H0 sa) 0 0 (qI w [187999, 188999, 189999, 190999, 191999] μ (fun z μ1 => ((-2147483648) ≤ z ∧ z ≤ 2147483647) ∧ True))) 278 [(0, .ref 106), (3, iv z36176), (6, iv z38109), (7, iv z38108)] [] (mk w μ38110) 0 0 := by
                            intro nL38111
                            induction nL38111 with
                            | zero => intro z38109 z38108 μ38110 f_k2 T38114 F38115 q38121 h38112 h38113 h38117 h38118 h38119 h38120; exact ((vc_X12_tries_29 h38120 (by rw [← q38121]; exact cnt_rng (fun i => T38114 191 191 (A_191 hw) i) 46656) h38117 h38118 h38119 h36187 h36331 h37198 h36332 h36179 h38113 h38112)).elim
                            | succ nL38111 ih38122 =>
                              intro z38109 z38108 μ38110 f_k2 T38114 F38115 q38121 h38112 h38113 h38117 h38118 h38119 h38120
                              have h38123 : 0 ≤ f_k2 ∧ f_k2 ≤ 46656 := by rw [← q38121]; exact cnt_rng (fun i => T38114 191 191 (A_191 hw) i) 46656
                              refine mr_iload (pc := 278) (z := z38108) dX12_tries_278 rfl ?_
                              refine mr_if_lt (pc := 280) (tgt := 402) dX12_tries_280 (by decide) (r32 h38113 rfl) (fun h38247 => ?_) (fun h38247 => ?_)
                              · have h38248 : (-1) ≤ z38108 ∧ z38108 ≤ (-1) := (vc_X12_tries_30 h38247 h38119 h36179 h38113)
                                refine sv_goto (pc := 402) (tgt := 265) dX12_tries_402 (by decide) ?_
                                refine mr_lvS (lv' := [(0, .ref 106), (3, iv z36176), (6, iv z38109)]) (List.forall_mem_cons.mpr ⟨rfl, List.forall_mem_cons.mpr ⟨rfl, List.forall_mem_cons.mpr ⟨rfl, fun _ h => absurd h List.not_mem_nil⟩⟩⟩) ?_
                                exact ih37197 z38109 μ38110 f_k2 T38114 (mF.call (mF.call mF.refl F37193 rfl) F38115 rfl) q38121 h38112 (vc_X12_tries_31 (nS h37195) h37461 h38117 h38118 h37198 h38123 h37723 h38112)
                              have h38249 : 0 ≤ z38108 ∧ z38108 ≤ 46655 := (vc_X12_tries_32 h38247 h38119 h36179 h38113)
                              refine sv_aload_n (pc := 283) dX12_tries_283 rfl rfl ?_
                              refine gf_X12_124 (pc := 284) dX12_tries_284 wF_X12_533 (A_106 hw) T38114 ?_
                              refine mr_iload (pc := 287) (z := z38108) dX12_tries_287 rfl ?_
                              refine la_190 (pc := 289) dX12_tries_289 (A_190 hw) T38114 (rIx (n := 46656) h38249 rfl) fun z38250 q38251 h38252 => ?_
                              have h38253 : 0 ≤ z38250 ∧ z38250 < z14 := quOK.st (quOK.keep R36188 hw ((mF.call (mF.call mF.refl F37193 rfl) F38115 rfl) : mF [188999, 191999] w μ36177 μ38110) rfl) (vc_X12_tries_33 h38119 h38247 h36187 h36331 h36332 h36179 h38249) (vc_X12_tries_34 h36187 h36331 h38119 h38247 h36186 h36332 h36180 h36179 h38249) q38251
                              refine mr_istore (pc := 290) (lv' := [(8, iv z38250), (0, .ref 106), (3, iv z36176), (6, iv z38109), (7, iv z38108)]) dX12_tries_290 (by decide) rfl ?_
                              refine sv_aload_n (pc := 292) dX12_tries_292 rfl rfl ?_
                              refine gf_X12_125 (pc := 293) dX12_tries_293 wF_X12_536 (A_106 hw) T38114 ?_
                              refine mr_iload (pc := 296) (z := z38250) dX12_tries_296 rfl ?_
                              refine la_191 (pc := 298) dX12_tries_298 (A_191 hw) T38114 (rIx (n := 46656) h38252 rfl) fun z38254 q38255 h38256 => ?_
                              refine mr_if_eq (pc := 299) (tgt := 305) dX12_tries_299 (by decide) (r32 h38256 rfl) (fun h38372 => ?_) (fun h38372 => ?_)
                              · have h38373 : 0 ≤ z38254 ∧ z38254 ≤ 0 := (vc_X12_ring_22 h38372 h38256)
                                refine sv_aload_n (pc := 305) dX12_tries_305 rfl rfl ?_
                                refine mr_iload (pc := 306) (z := z38250) dX12_tries_306 rfl ?_
                                obtain ⟨z38374, q38375⟩ : ∃ z, μ38110 184 ((1 : Int).toNat) = z := ⟨_, rfl⟩
                                have h38376 : (0 ≤ z38374 ∧ z38374 ≤ 5) := by rw [← q38375]; exact T38114 184 184 (A_184 hw) ((1 : Int).toNat)
                                obtain ⟨z38377, q38378⟩ : ∃ z, μ38110 184 ((2 : Int).toNat) = z := ⟨_, rfl⟩
                                have h38379 : (0 ≤ z38377 ∧ z38377 ≤ 5) := by rw [← q38378]; exact T38114 184 184 (A_184 hw) ((2 : Int).toNat)
                                obtain ⟨z38380, q38381⟩ : ∃ z, μ38110 184 ((3 : Int).toNat) = z := ⟨_, rfl⟩
                                have h38382 : (0 ≤ z38380 ∧ z38380 ≤ 5) := by rw [← q38381]; exact T38114 184 184 (A_184 hw) ((3 : Int).toNat)
                                obtain ⟨z38383, q38384⟩ : ∃ z, μ38110 184 ((4 : Int).toNat) = z := ⟨_, rfl⟩
                                have h38385 : (0 ≤ z38383 ∧ z38383 ≤ 5) := by rw [← q38384]; exact T38114 184 184 (A_184 hw) ((4 : Int).toNat)
                                obtain ⟨z38386, q38387⟩ : ∃ z, μ38110 184 ((5 : Int).toNat) = z := ⟨_, rfl⟩
                                have h38388 : (0 ≤ z38386 ∧ z38386 ≤ 5) := by rw [← q38387]; exact T38114 184 184 (A_184 hw) ((5 : Int).toNat)
                                obtain ⟨z38389, q38390⟩ : ∃ z, μ38110 184 ((6 : Int).toNat) = z := ⟨_, rfl⟩
                                have h38391 : (0 ≤ z38389 ∧ z38389 ≤ 5) := by rw [← q38390]; exact T38114 184 184 (A_184 hw) ((6 : Int).toNat)
                                refine mr_cVV (pc := 308) (c_X12_open_r hw T38114 h38252 (F38115.f (A_187 hw) rfl (F37193.f (A_187 hw) rfl (F36184.f (A_187 hw) rfl (u23975.f (Or.inl (mAt.ne (A_189 hw) (A_187 hw) rfl)) (u23972.f (Or.inl (mAt.ne (A_190 hw) (A_187 hw) rfl)) (F23957.f (A_187 hw) rfl q16)))))) (F38115.f (A_187 hw) rfl (F37193.f (A_187 hw) rfl (F36184.f (A_187 hw) rfl (u23975.f (Or.inl (mAt.ne (A_189 hw) (A_187 hw) rfl)) (u23972.f (Or.inl (mAt.ne (A_190 hw) (A_187 hw) rfl)) (F23957.f (A_187 hw) rfl q18)))))) (F38115.f (A_187 hw) rfl (F37193.f (A_187 hw) rfl (F36184.f (A_187 hw) rfl (u23975.f (Or.inl (mAt.ne (A_189 hw) (A_187 hw) rfl)) (u23972.f (Or.inl (mAt.ne (A_190 hw) (A_187 hw) rfl)) (F23957.f (A_187 hw) rfl q20)))))) (F38115.f (A_187 hw) rfl (F37193.f (A_187 hw) rfl (F36184.f (A_187 hw) rfl (u23975.f (Or.inl (mAt.ne (A_189 hw) (A_187 hw) rfl)) (u23972.f (Or.inl (mAt.ne (A_190 hw) (A_187 hw) rfl)) (F23957.f (A_187 hw) rfl q22)))))) (F38115.f (A_187 hw) rfl (F37193.f (A_187 hw) rfl (F36184.f (A_187 hw) rfl (u23975.f (Or.inl (mAt.ne (A_189 hw) (A_187 hw) rfl)) (u23972.f (Or.inl (mAt.ne (A_190 hw) (A_187 hw) rfl)) (F23957.f (A_187 hw) rfl q24)))))) (F38115.f (A_187 hw) rfl (F37193.f (A_187 hw) rfl (F36184.f (A_187 hw) rfl (u23975.f (Or.inl (mAt.ne (A_189 hw) (A_187 hw) rfl)) (u23972.f (Or.inl (mAt.ne (A_190 hw) (A_187 hw) rfl)) (F23957.f (A_187 hw) rfl q26)))))) q38375 q38378 q38381 q38384 q38387 q38390 (vc_X12_isRest_7 h27.2.1 h34) (vc_X12_isRest_7 h27.2.2.1 h35) (vc_X12_isRest_7 h27.2.2.2.1 h36) (vc_X12_isRest_7 h27.2.2.2.2.1 h37) (vc_X12_isRest_7 h27.2.2.2.2.2.1 h38) (vc_X12_isRest_7 h27.2.2.2.2.2.2.1 h39)) (gOk _ _ _ _ _) dX12_tries_308 (tX12_open _ _ _ _ _) ⟨wV_X12_open, wL_X12_open⟩ wM_X12_722 (gCX12 _ _ _ _ _) rfl (A_106 hw) rfl ⟨le_t rfl, le_t rfl⟩ ⟨le_t rfl, le_t rfl⟩ rfl (le_t rfl) fun μ38392 T38393 F38394 h38395 => ?_
                                obtain ⟨z38396, z38398, z38400, z38402, z38404, z38406, q38397, q38399, q38401, q38403, q38405, q38407, h38408⟩ := h38395
                                have h38409 : (0 ≤ z38396 ∧ z38396 ≤ 5) := by rw [← q38397]; exact T38393 188 188 (A_188 hw) ((1 : Int).toNat)
                                have h38410 : (0 ≤ z38398 ∧ z38398 ≤ 5) := by rw [← q38399]; exact T38393 188 188 (A_188 hw) ((2 : Int).toNat)
                                have h38411 : (0 ≤ z38400 ∧ z38400 ≤ 5) := by rw [← q38401]; exact T38393 188 188 (A_188 hw) ((3 : Int).toNat)
                                have h38412 : (0 ≤ z38402 ∧ z38402 ≤ 5) := by rw [← q38403]; exact T38393 188 188 (A_188 hw) ((4 : Int).toNat)
                                have h38413 : (0 ≤ z38404 ∧ z38404 ≤ 5) := by rw [← q38405]; exact T38393 188 188 (A_188 hw) ((5 : Int).toNat)
                                have h38414 : (0 ≤ z38406 ∧ z38406 ≤ 5) := by rw [← q38407]; exact T38393 188 188 (A_188 hw) ((6 : Int).toNat)
                                refine mr_iconst (pc := 311) (z := 1) dX12_tries_311 ?_
                                refine mr_istore (pc := 312) (lv' := [(9, iv 1), (8, iv z38250), (0, .ref 106), (3, iv z36176), (6, iv z38109), (7, iv z38108)]) dX12_tries_312 (by decide) rfl ?_
                                have L38681 : ∀ (nL38681 : Nat) (z38679 : Int) (μ38680 : mM) (f_k3 : Int) (f_hs : Int), mT w μ38680 → mF [191999] w μ38392 μ38680 → cnt μ38680 191 46656 = f_k3 → μ38680 191 (z38250.toNat) = f_hs → (1 ≤ z38679 ∧ z38679 ≤ 7) → (f_k3 = f_k2 + f_hs) → (8 - z38679) < (nL38681 : Int) → sV (gG l D c H0 sa) mX12_tries (sRm 3 0 0) (sZ (gG l D c H0 sa) 0 0 (qI w [187999, 188999, 189999, 190999, 191999] μ (fun z μ1 => ((-2147483648) ≤ z ∧ z ≤ 2147483647) ∧ True))) 314 [(0, .ref 106), (3, iv z36176), (6, iv z38109), (7, iv z38108), (8, iv z38250), (9, iv z38679)] [] (mk w μ38680) 0 0 := by
                                  intro nL38681
                                  induction nL38681 with
                                  | zero => intro z38679 μ38680 f_k3 f_hs T38683 F38684 q38688 q38689 h38682 h38686 h38687; exact ((vc_X12_tries_42 h38687 (by rw [← q38688]; exact cnt_rng (fun i => T38683 191 191 (A_191 hw) i) 46656) h38686 h38117 h38118 h37198 h38123 h38112 h38682)).elim
                                  | succ nL38681 ih38690 =>
                                    intro z38679 μ38680 f_k3 f_hs T38683 F38684 q38688 q38689 h38682 h38686 h38687
                                    have h38691 : 0 ≤ f_k3 ∧ f_k3 ≤ 46656 := by rw [← q38688]; exact cnt_rng (fun i => T38683 191 191 (A_191 hw) i) 46656
                                    have h38692 : (0 ≤ f_hs ∧ f_hs ≤ 1) := by rw [← q38689]; exact T38683 191 191 (A_191 hw) (z38250.toNat)
                                    refine mr_iload (pc := 314) (z := z38679) dX12_tries_314 rfl ?_
                                    refine mr_bipush (pc := 316) (z := 6) dX12_tries_316 (by decide) ?_
                                    have J38720 : sV (gG l D c H0 sa) mX12_tries (sRm 3 0 0) (sZ (gG l D c H0 sa) 0 0 (qI w [187999, 188999, 189999, 190999, 191999] μ (fun z μ1 => ((-2147483648) ≤ z ∧ z ≤ 2147483647) ∧ True))) 374 [(0, .ref 106), (3, iv z36176), (6, iv z38109), (7, iv z38108), (8, iv z38250)] [] (mk w μ38680) 0 0 := by
                                      refine mr_iload (pc := 374) (z := z38109) dX12_tries_374 rfl ?_
                                      refine mr_if_ne (pc := 376) (tgt := 389) dX12_tries_376 (by decide) (r32 h38112 rfl) (fun h38721 => ?_) (fun h38721 => ?_)
                                      · have h38722 : 1 ≤ z38109 ∧ z38109 ≤ 1 := (vc_X12_tries_43 h38721 h38118 h37198 h38123 h38112)
                                        refine mr_iconst (pc := 389) (z := 1) dX12_tries_389 ?_
                                        refine sv_goto (pc := 390) (tgt := 394) dX12_tries_390 (by decide) ?_
                                        refine mr_istore (pc := 394) (lv' := [(6, iv 1), (0, .ref 106), (3, iv z36176), (7, iv z38108), (8, iv z38250)]) dX12_tries_394 (by decide) rfl ?_
                                        refine mr_iinc (pc := 396) (lv' := [(7, iv (z38108 + (-1))), (6, iv 1), (0, .ref 106), (3, iv z36176), (8, iv z38250)]) dX12_tries_396 rfl (by decide) rfl ?_
                                        refine sv_goto (pc := 399) (tgt := 278) dX12_tries_399 (by decide) ?_
                                        refine mr_lvS (lv' := [(0, .ref 106), (3, iv z36176), (6, iv 1), (7, iv (z38108 + (-1)))]) (List.forall_mem_cons.mpr ⟨rfl, List.forall_mem_cons.mpr ⟨rfl, List.forall_mem_cons.mpr ⟨rfl, List.forall_mem_cons.mpr ⟨rfl, fun _ h => absurd h List.not_mem_nil⟩⟩⟩⟩) ?_
                                        exact ih38122 1 (z38108 + (-1)) μ38680 f_k3 T38683 (mF.call (mF.call (mF.call mF.refl F38115 rfl) F38394 rfl) F38684 rfl) q38688 (rW (c := 0) (d := 1) (rR (x := 1)) rfl) (rW (c := (-1)) (d := 46655) (rAdd (e := (-1)) (f := 46654) h38249 (rR (x := (-1))) rfl) rfl) (vc_X12_tries_44 h38117 h38118 h38686 h38721 h38692 h37198 h38123 h38691 h38722) (vc_X12_tries_45 h38117 h38118 h38686 h38721 h38692 h37198 h38123 h38691 h38722) (vc_X12_tries_46 h36187 h36331 h38119 h38247 h36186 h36332 h36180 h36179 h38249) (vc_X12_tries_47 (nS h38120) h38119 h38247 h36187 h36331 h36332 h36179 h38249)
                                      have h38723 : 0 ≤ z38109 ∧ z38109 ≤ 0 := (vc_X12_tries_48 h38721 h38118 h37198 h38123 h38112)
                                      refine sv_aload_n (pc := 379) dX12_tries_379 rfl rfl ?_
                                      refine gf_X12_125 (pc := 380) dX12_tries_380 wF_X12_536 (A_106 hw) T38683 ?_
                                      refine mr_iload (pc := 383) (z := z38250) dX12_tries_383 rfl ?_
                                      refine lk_191 (pc := 385) dX12_tries_385 (A_191 hw) (rIx (n := 46656) h38252 rfl) q38689 ?_
                                      refine mr_if_eq (pc := 386) (tgt := 393) dX12_tries_386 (by decide) (r32 h38692 rfl) (fun h38724 => ?_) (fun h38724 => ?_)
                                      · have h38725 : 0 ≤ f_hs ∧ f_hs ≤ 0 := (vc_X12_tries_49 h38724 h38686 h38692 h38123 h38691)
                                        refine mr_iconst (pc := 393) (z := 0) dX12_tries_393 ?_
                                        refine mr_istore (pc := 394) (lv' := [(6, iv 0), (0, .ref 106), (3, iv z36176), (7, iv z38108), (8, iv z38250)]) dX12_tries_394 (by decide) rfl ?_
                                        refine mr_iinc (pc := 396) (lv' := [(7, iv (z38108 + (-1))), (6, iv 0), (0, .ref 106), (3, iv z36176), (8, iv z38250)]) dX12_tries_396 rfl (by decide) rfl ?_
                                        refine sv_goto (pc := 399) (tgt := 278) dX12_tries_399 (by decide) ?_
                                        refine mr_lvS (lv' := [(0, .ref 106), (3, iv z36176), (6, iv 0), (7, iv (z38108 + (-1)))]) (List.forall_mem_cons.mpr ⟨rfl, List.forall_mem_cons.mpr ⟨rfl, List.forall_mem_cons.mpr ⟨rfl, List.forall_mem_cons.mpr ⟨rfl, fun _ h => absurd h List.not_mem_nil⟩⟩⟩⟩) ?_
                                        exact ih38122 0 (z38108 + (-1)) μ38680 f_k3 T38683 (mF.call (mF.call (mF.call mF.refl F38115 rfl) F38394 rfl) F38684 rfl) q38688 (rW (c := 0) (d := 1) (rR (x := 0)) rfl) (rW (c := (-1)) (d := 46655) (rAdd (e := (-1)) (f := 46654) h38249 (rR (x := (-1))) rfl) rfl) (vc_X12_tries_50 h38117 h38118 h38686 h38721 h38724 h38725 h37198 h38123 h38691 h38723) (vc_X12_tries_51 h38117 h38118 h38686 h38721 h38724 h38725 h37198 h38123 h38691 h38723) (vc_X12_tries_46 h36187 h36331 h38119 h38247 h36186 h36332 h36180 h36179 h38249) (vc_X12_tries_47 (nS h38120) h38119 h38247 h36187 h36331 h36332 h36179 h38249)
                                      have h38726 : 1 ≤ f_hs ∧ f_hs ≤ 1 := (vc_X12_tries_52 h38724 h38686 h38692 h38123 h38691)
                                      refine mr_iconst (pc := 389) (z := 1) dX12_tries_389 ?_
                                      refine sv_goto (pc := 390) (tgt := 394) dX12_tries_390 (by decide) ?_
                                      refine mr_istore (pc := 394) (lv' := [(6, iv 1), (0, .ref 106), (3, iv z36176), (7, iv z38108), (8, iv z38250)]) dX12_tries_394 (by decide) rfl ?_
                                      refine mr_iinc (pc := 396) (lv' := [(7, iv (z38108 + (-1))), (6, iv 1), (0, .ref 106), (3, iv z36176), (8, iv z38250)]) dX12_tries_396 rfl (by decide) rfl ?_
                                      refine sv_goto (pc := 399) (tgt := 278) dX12_tries_399 (by decide) ?_
                                      refine mr_lvS (lv' := [(0, .ref 106), (3, iv z36176), (6, iv 1), (7, iv (z38108 + (-1)))]) (List.forall_mem_cons.mpr ⟨rfl, List.forall_mem_cons.mpr ⟨rfl, List.forall_mem_cons.mpr ⟨rfl, List.forall_mem_cons.mpr ⟨rfl, fun _ h => absurd h List.not_mem_nil⟩⟩⟩⟩) ?_
                                      exact ih38122 1 (z38108 + (-1)) μ38680 f_k3 T38683 (mF.call (mF.call (mF.call mF.refl F38115 rfl) F38394 rfl) F38684 rfl) q38688 (rW (c := 0) (d := 1) (rR (x := 1)) rfl) (rW (c := (-1)) (d := 46655) (rAdd (e := (-1)) (f := 46654) h38249 (rR (x := (-1))) rfl) rfl) (vc_X12_tries_53 h38117 h38118 h38686 h38721 h38724 h38726 h37198 h38123 h38691 h38723) (vc_X12_tries_54 h38117 h38118 h38686 h38721 h38724 h38726 h37198 h38123 h38691 h38723) (vc_X12_tries_46 h36187 h36331 h38119 h38247 h36186 h36332 h36180 h36179 h38249) (vc_X12_tries_47 (nS h38120) h38119 h38247 h36187 h36331 h36332 h36179 h38249)
                                    refine mr_icmp_gt (pc := 318) (tgt := 374) dX12_tries_318 (by decide) (r32 h38682 rfl) (r32 (rR (x := 6)) rfl) (fun h38727 => ?_) (fun h38727 => ?_)
                                    · have h38728 : 7 ≤ z38679 ∧ z38679 ≤ 7 := (vc_X12_clear_2 h38727 h38682)
                                      refine mr_lvS (lv' := [(0, .ref 106), (3, iv z36176), (6, iv z38109), (7, iv z38108), (8, iv z38250)]) (List.forall_mem_cons.mpr ⟨rfl, List.forall_mem_cons.mpr ⟨rfl, List.forall_mem_cons.mpr ⟨rfl, List.forall_mem_cons.mpr ⟨rfl, List.forall_mem_cons.mpr ⟨rfl, fun _ h => absurd h List.not_mem_nil⟩⟩⟩⟩⟩) ?_
                                      exact J38720 
                                    have h38729 : 1 ≤ z38679 ∧ z38679 ≤ 6 := (vc_X12_clear_3 h38727 h38682)
                                    refine sv_aload_n (pc := 321) dX12_tries_321 rfl rfl ?_
                                    refine gf_X12_125 (pc := 322) dX12_tries_322 wF_X12_536 (A_106 hw) T38683 ?_
                                    refine mr_iload (pc := 325) (z := z38250) dX12_tries_325 rfl ?_
                                    refine lk_191 (pc := 327) dX12_tries_327 (A_191 hw) (rIx (n := 46656) h38252 rfl) q38689 ?_
                                    refine mr_if_ne (pc := 328) (tgt := 374) dX12_tries_328 (by decide) (r32 h38692 rfl) (fun h38730 => ?_) (fun h38730 => ?_)
                                    · have h38731 : 1 ≤ f_hs ∧ f_hs ≤ 1 := (vc_X12_tries_52 h38730 h38686 h38692 h38123 h38691)
                                      refine mr_lvS (lv' := [(0, .ref 106), (3, iv z36176), (6, iv z38109), (7, iv z38108), (8, iv z38250)]) (List.forall_mem_cons.mpr ⟨rfl, List.forall_mem_cons.mpr ⟨rfl, List.forall_mem_cons.mpr ⟨rfl, List.forall_mem_cons.mpr ⟨rfl, List.forall_mem_cons.mpr ⟨rfl, fun _ h => absurd h List.not_mem_nil⟩⟩⟩⟩⟩) ?_
                                      exact J38720 
                                    have h38732 : 0 ≤ f_hs ∧ f_hs ≤ 0 := (vc_X12_tries_49 h38730 h38686 h38692 h38123 h38691)
                                    refine sv_aload_n (pc := 331) dX12_tries_331 rfl rfl ?_
                                    refine gf_X12_125 (pc := 332) dX12_tries_332 wF_X12_536 (A_106 hw) T38683 ?_
                                    refine mr_iload (pc := 335) (z := z38250) dX12_tries_335 rfl ?_
                                    refine sv_aload_n (pc := 337) dX12_tries_337 rfl rfl ?_
                                    refine gf_X12_125 (pc := 338) dX12_tries_338 wF_X12_536 (A_106 hw) T38683 ?_
                                    refine mr_iload (pc := 341) (z := z38250) dX12_tries_341 rfl ?_
                                    refine sv_aload_n (pc := 343) dX12_tries_343 rfl rfl ?_
                                    refine mr_iload (pc := 344) (z := z38679) dX12_tries_344 rfl ?_
                                    obtain ⟨z38733, q38734⟩ : ∃ z, μ38680 184 (z38679.toNat) = z := ⟨_, rfl⟩
                                    have h38735 : (0 ≤ z38733 ∧ z38733 ≤ 5) := by rw [← q38734]; exact T38683 184 184 (A_184 hw) (z38679.toNat)
                                    refine mr_cVP (pc := 346) (c_X12_acted_v hw T38683 h38729 (F38684.f (A_188 hw) rfl q38397) (F38684.f (A_188 hw) rfl q38399) (F38684.f (A_188 hw) rfl q38401) (F38684.f (A_188 hw) rfl q38403) (F38684.f (A_188 hw) rfl q38405) (F38684.f (A_188 hw) rfl q38407) (F38684.f (A_184 hw) rfl (F38394.f (A_184 hw) rfl q38375)) (F38684.f (A_184 hw) rfl (F38394.f (A_184 hw) rfl q38378)) (F38684.f (A_184 hw) rfl (F38394.f (A_184 hw) rfl q38381)) (F38684.f (A_184 hw) rfl (F38394.f (A_184 hw) rfl q38384)) (F38684.f (A_184 hw) rfl (F38394.f (A_184 hw) rfl q38387)) (F38684.f (A_184 hw) rfl (F38394.f (A_184 hw) rfl q38390)) q38734 (vc_X12_isRest_18 h38408.1 h38376 h38409) (vc_X12_isRest_18 h38408.2.1 h38379 h38410) (vc_X12_isRest_18 h38408.2.2.1 h38382 h38411) (vc_X12_isRest_18 h38408.2.2.2.1 h38385 h38412) (vc_X12_isRest_18 h38408.2.2.2.2.1 h38388 h38413) (vc_X12_isRest_18 h38408.2.2.2.2.2.1 h38391 h38414)) (gOk _ _ _ _ _) dX12_tries_346 (tX12_acted _ _ _ _ _) ⟨wV_X12_acted, wL_X12_acted⟩ wM_X12_725 (gCX12 _ _ _ _ _) rfl (A_106 hw) rfl ⟨le_t rfl, le_t rfl⟩ ⟨le_t rfl, le_t rfl⟩ rfl (le_t rfl) fun z38740 h38739 => ?_
                                    refine sv_aload_n (pc := 349) dX12_tries_349 rfl rfl ?_
                                    refine gf_X12_122 (pc := 350) dX12_tries_350 wF_X12_526 (A_106 hw) T38683 ?_
                                    refine mr_iload (pc := 353) (z := z38679) dX12_tries_353 rfl ?_
                                    refine la_188 (pc := 355) dX12_tries_355 (A_188 hw) T38683 (rIx (n := 7) h38729 rfl) fun z38741 q38742 h38743 => ?_
                                    refine mr_isub (pc := 356) (x := z38740) (y := z38741) dX12_tries_356 ?_
                                    refine sv_aload_n (pc := 357) dX12_tries_357 rfl rfl ?_
                                    refine gf_X12_121 (pc := 358) dX12_tries_358 wF_X12_523 (A_106 hw) T38683 ?_
                                    refine mr_iload (pc := 361) (z := z38679) dX12_tries_361 rfl ?_
                                    refine la_187 (pc := 363) dX12_tries_363 (A_187 hw) T38683 (rIx (n := 8) h38729 rfl) fun z38744 q38745 h38746 => ?_
                                    refine mr_imul (pc := 364) (x := (z38740 - z38741)) (y := z38744) dX12_tries_364 ?_
                                    refine mr_gen (P := fun z => (-233280) ≤ z ∧ z ≤ 233280) (rMulS (m := 5) (k := 46656) (e := 233280) (rSub (e := (-5)) (f := 5) h38739.1 h38743 rfl) h38746 (by decide) rfl) fun z38747 q38748 h38749 => ?_
                                    refine mr_iadd (pc := 365) (x := z38250) (y := z38747) dX12_tries_365 ?_
                                    have h38750 : 0 ≤ (z38250 + z38747) ∧ (z38250 + z38747) < z14 := net_t (radix.keep h27.2.2.2.2.2.2.2.1 ((mF.call (mF.call (mF.call (mF.call (mF.call (mF.up (mF.up (mF.call mF.refl F23957 rfl) (A_190 hw) u23972 rfl) (A_189 hw) u23975 rfl) F36184 rfl) F37193 rfl) F38115 rfl) F38394 rfl) F38684 rfl) : mF [188999, 189999, 190999, 191999] w μ10 μ38680) (A_187 hw) (A_184 hw) (fun _ => rfl) (fun _ => rfl)) (digs.keep h38408.2.2.2.2.2.2.1 ((mF.call mF.refl F38684 rfl) : mF [191999] w μ38392 μ38680) (A_188 hw) (A_187 hw) (A_184 hw) (fun _ => rfl) (fun _ => rfl) (fun _ => rfl)) (vc_X12_tries_63 h38727 h38729) (vc_X12_tries_64 h23969 h38253 h27.1 h23970 h38252) q38745 q38734 q38742 (vc_X12_tries_65 h38739.2.1 h38735 h38739.1) (vc_X12_tries_66 h38739.2.1 h38735 h38739.1) q38748
                                    refine la_191 (pc := 366) dX12_tries_366 (A_191 hw) T38683 (vc_X12_tries_67 h38253 h38750 h23969 h27.1 h23970 h38252 h38749) fun z38751 q38752 h38753 => ?_
                                    refine ss_191 (pc := 367) dX12_tries_367 (A_191 hw) T38683 (rIx (n := 46656) h38252 rfl) h38753 fun μ38754 u38755 T38756 => ?_
                                    refine mr_iinc (pc := 368) (lv' := [(9, iv (z38679 + 1)), (0, .ref 106), (3, iv z36176), (6, iv z38109), (7, iv z38108), (8, iv z38250)]) dX12_tries_368 rfl (by decide) rfl ?_
                                    refine sv_goto (pc := 371) (tgt := 314) dX12_tries_371 (by decide) ?_
                                    refine mr_lvS (lv' := [(0, .ref 106), (3, iv z36176), (6, iv z38109), (7, iv z38108), (8, iv z38250), (9, iv (z38679 + 1))]) (List.forall_mem_cons.mpr ⟨rfl, List.forall_mem_cons.mpr ⟨rfl, List.forall_mem_cons.mpr ⟨rfl, List.forall_mem_cons.mpr ⟨rfl, List.forall_mem_cons.mpr ⟨rfl, List.forall_mem_cons.mpr ⟨rfl, fun _ h => absurd h List.not_mem_nil⟩⟩⟩⟩⟩⟩) ?_
                                    exact ih38690 (z38679 + 1) μ38754 ((f_k3 + z38751) - f_hs) z38751 T38756 (mF.up (mF.call mF.refl F38684 rfl) (A_191 hw) u38755 rfl) (cntU u38755 (rIx (n := 46656) h38252 rfl) rfl q38688 q38689) u38755.1 (rW (c := 1) (d := 7) (rAdd (e := 2) (f := 7) h38729 (rR (x := 1)) rfl) rfl) (vc_X12_tries_68 h38117 h38118 h38686 h38730 h38732 h37198 h38123 h38691 h38112 h38753) (vc_X12_clear_4 (nS h38687) h38727 h38729)
                                refine mr_lvS (lv' := [(0, .ref 106), (3, iv z36176), (6, iv z38109), (7, iv z38108), (8, iv z38250), (9, iv 1)]) (List.forall_mem_cons.mpr ⟨rfl, List.forall_mem_cons.mpr ⟨rfl, List.forall_mem_cons.mpr ⟨rfl, List.forall_mem_cons.mpr ⟨rfl, List.forall_mem_cons.mpr ⟨rfl, List.forall_mem_cons.mpr ⟨rfl, fun _ h => absurd h List.not_mem_nil⟩⟩⟩⟩⟩⟩) ?_
                                exact L38681 8 1 μ38392 f_k2 z38254 T38393 mF.refl (cntF F38394 (A_191 hw) rfl rfl q38121) (F38394.f (A_191 hw) rfl q38255) (rW (c := 1) (d := 7) (rR (x := 1)) rfl) (vc_X12_tries_70 h38117 h38118 h38372 h37198 h38123 h38112 h38373) vc_X12_clear_5
                              have h38757 : 1 ≤ z38254 ∧ z38254 ≤ 1 := (vc_X12_ring_24 h38372 h38256)
                              refine sv_goto (pc := 302) (tgt := 396) dX12_tries_302 (by decide) ?_
                              refine mr_iinc (pc := 396) (lv' := [(7, iv (z38108 + (-1))), (8, iv z38250), (0, .ref 106), (3, iv z36176), (6, iv z38109)]) dX12_tries_396 rfl (by decide) rfl ?_
                              refine sv_goto (pc := 399) (tgt := 278) dX12_tries_399 (by decide) ?_
                              refine mr_lvS (lv' := [(0, .ref 106), (3, iv z36176), (6, iv z38109), (7, iv (z38108 + (-1)))]) (List.forall_mem_cons.mpr ⟨rfl, List.forall_mem_cons.mpr ⟨rfl, List.forall_mem_cons.mpr ⟨rfl, List.forall_mem_cons.mpr ⟨rfl, fun _ h => absurd h List.not_mem_nil⟩⟩⟩⟩) ?_
                              exact ih38122 z38109 (z38108 + (-1)) μ38110 f_k2 T38114 (mF.call mF.refl F38115 rfl) q38121 h38112 (rW (c := (-1)) (d := 46655) (rAdd (e := (-1)) (f := 46654) h38249 (rR (x := (-1))) rfl) rfl) (vc_X12_tries_73 h38117 h38118 h37198 h38123 h38112) (vc_X12_tries_74 h38117 h38118 h37198 h38123 h38112) (vc_X12_tries_46 h36187 h36331 h38119 h38247 h36186 h36332 h36180 h36179 h38249) (vc_X12_tries_47 (nS h38120) h38119 h38247 h36187 h36331 h36332 h36179 h38249)
                          refine mr_lvS (lv' := [(0, .ref 106), (3, iv z36176), (6, iv 0), (7, iv (z36176 - 1))]) (List.forall_mem_cons.mpr ⟨rfl, List.forall_mem_cons.mpr ⟨rfl, List.forall_mem_cons.mpr ⟨rfl, List.forall_mem_cons.mpr ⟨rfl, fun _ h => absurd h List.not_mem_nil⟩⟩⟩⟩) ?_
                          exact L38111 46658 0 (z36176 - 1) μ37189 f_k T37192 mF.refl q37196 (rW (c := 0) (d := 1) (rR (x := 0)) rfl) (rW (c := (-1)) (d := 46655) (rSub (e := 0) (f := 46655) h36179 (rR (x := 1)) rfl) rfl) (vc_X12_tries_75 h37198) (vc_X12_tries_76 h37198) (vc_X12_tries_77 h36187 h36331 h36186 h36332 h36180 h36179) (vc_X12_tries_78 h36187 h36331 h36186 h36332 h36180 h36179)
                      obtain ⟨z38758, q38759⟩ : ∃ z, cnt μ36177 191 46656 = z := ⟨_, rfl⟩
                      have h38760 : 0 ≤ z38758 ∧ z38758 ≤ 46656 := by rw [← q38759]; exact cnt_rng (fun i => T36183 191 191 (A_191 hw) i) 46656
                      refine mr_lvS (lv' := [(0, .ref 106), (3, iv z36176), (6, iv 1)]) (List.forall_mem_cons.mpr ⟨rfl, List.forall_mem_cons.mpr ⟨rfl, List.forall_mem_cons.mpr ⟨rfl, fun _ h => absurd h List.not_mem_nil⟩⟩⟩) ?_
                      exact L37190 93314 1 μ36177 z38758 T36183 mF.refl q38759 (rW (c := 0) (d := 1) (rR (x := 1)) rfl) (vc_X12_tries_79 h38760)
                    have h38761 : 3 ≤ p1 ∧ p1 ≤ 3 := (vc_X12_tries_80 h36337 h4.2.1 h4.2.2.1 h8 h36333 h36335 h36336 h7)
                    refine mr_iload (pc := 259) (z := z36174) dX12_tries_259 rfl ?_
                    exact mr_iret dX12_tries_261 rfl (le_t rfl) (le_t rfl) T36183 (mF.call (mF.up (mF.up (mF.call (mF.call mF.refl F12 rfl) F23957 rfl) (A_190 hw) u23972 rfl) (A_189 hw) u23975 rfl) F36184 rfl) ⟨h36181, trivial⟩
                  have h38762 : 1 ≤ p1 ∧ p1 ≤ 1 := (vc_X12_tries_81 h36335 h4.2.1 h4.2.2.1 h8 h36333 h36334 h7)
                  refine mr_iload (pc := 251) (z := z36175) dX12_tries_251 rfl ?_
                  exact mr_iret dX12_tries_253 rfl (le_t rfl) (le_t rfl) T36183 (mF.call (mF.up (mF.up (mF.call (mF.call mF.refl F12 rfl) F23957 rfl) (A_190 hw) u23972 rfl) (A_189 hw) u23975 rfl) F36184 rfl) ⟨(rW (c := (-2147483648)) (d := 2147483647) h36180 rfl), trivial⟩
                have h38763 : 0 ≤ p1 ∧ p1 ≤ 0 := (vc_X12_tries_82 h36333 h4.2.1 h4.2.2.1 h8 h9 h7)
                refine mr_iload_n (pc := 244) (z := z36176) dX12_tries_244 rfl rfl ?_
                exact mr_iret dX12_tries_245 rfl (le_t rfl) (le_t rfl) T36183 (mF.call (mF.up (mF.up (mF.call (mF.call mF.refl F12 rfl) F23957 rfl) (A_190 hw) u23972 rfl) (A_189 hw) u23975 rfl) F36184 rfl) ⟨(rW (c := (-2147483648)) (d := 2147483647) h36179 rfl), trivial⟩
              have h38764 : 0 ≤ z36173 ∧ z36173 ≤ 46655 := (vc_X12_tries_83 h36331 h36186 h36187 h36182 h36180 h36179)
              refine sv_aload_n (pc := 82) dX12_tries_82 rfl rfl ?_
              refine gf_X12_124 (pc := 83) dX12_tries_83 wF_X12_533 (A_106 hw) T36183 ?_
              refine mr_iload (pc := 86) (z := z36173) dX12_tries_86 rfl ?_
              refine la_190 (pc := 88) dX12_tries_88 (A_190 hw) T36183 (rIx (n := 46656) h38764 rfl) fun z38765 q38766 h38767 => ?_
              have h38768 : 0 ≤ z38765 ∧ z38765 < z14 := quOK.st R36188 (vc_X12_tries_84 h36186 h36187 h36331 h38764 h36180 h36179) (vc_X12_tries_85 h36186 h36187 h36331 h38764 h36180 h36179) q38766
              refine mr_istore (pc := 89) (lv' := [(7, iv z38765), (0, .ref 106), (1, iv p1), (3, iv z36176), (4, iv z36175), (5, iv z36174), (6, iv z36173)]) dX12_tries_89 (by decide) rfl ?_
              refine mr_iconst (pc := 91) (z := 1) dX12_tries_91 ?_
              refine mr_istore (pc := 92) (lv' := [(8, iv 1), (7, iv z38765), (0, .ref 106), (1, iv p1), (3, iv z36176), (4, iv z36175), (5, iv z36174), (6, iv z36173)]) dX12_tries_92 (by decide) rfl ?_
              refine sv_aload_n (pc := 94) dX12_tries_94 rfl rfl ?_
              refine mr_iload (pc := 95) (z := z38765) dX12_tries_95 rfl ?_
              obtain ⟨z38769, q38770⟩ : ∃ z, μ36177 184 ((1 : Int).toNat) = z := ⟨_, rfl⟩
              have h38771 : (0 ≤ z38769 ∧ z38769 ≤ 5) := by rw [← q38770]; exact T36183 184 184 (A_184 hw) ((1 : Int).toNat)
              obtain ⟨z38772, q38773⟩ : ∃ z, μ36177 184 ((2 : Int).toNat) = z := ⟨_, rfl⟩
              have h38774 : (0 ≤ z38772 ∧ z38772 ≤ 5) := by rw [← q38773]; exact T36183 184 184 (A_184 hw) ((2 : Int).toNat)
              obtain ⟨z38775, q38776⟩ : ∃ z, μ36177 184 ((3 : Int).toNat) = z := ⟨_, rfl⟩
              have h38777 : (0 ≤ z38775 ∧ z38775 ≤ 5) := by rw [← q38776]; exact T36183 184 184 (A_184 hw) ((3 : Int).toNat)
              obtain ⟨z38778, q38779⟩ : ∃ z, μ36177 184 ((4 : Int).toNat) = z := ⟨_, rfl⟩
              have h38780 : (0 ≤ z38778 ∧ z38778 ≤ 5) := by rw [← q38779]; exact T36183 184 184 (A_184 hw) ((4 : Int).toNat)
              obtain ⟨z38781, q38782⟩ : ∃ z, μ36177 184 ((5 : Int).toNat) = z := ⟨_, rfl⟩
              have h38783 : (0 ≤ z38781 ∧ z38781 ≤ 5) := by rw [← q38782]; exact T36183 184 184 (A_184 hw) ((5 : Int).toNat)
              obtain ⟨z38784, q38785⟩ : ∃ z, μ36177 184 ((6 : Int).toNat) = z := ⟨_, rfl⟩
              have h38786 : (0 ≤ z38784 ∧ z38784 ≤ 5) := by rw [← q38785]; exact T36183 184 184 (A_184 hw) ((6 : Int).toNat)
              refine mr_cVV (pc := 97) (c_X12_open_r hw T36183 h38767 (F36184.f (A_187 hw) rfl (u23975.f (Or.inl (mAt.ne (A_189 hw) (A_187 hw) rfl)) (u23972.f (Or.inl (mAt.ne (A_190 hw) (A_187 hw) rfl)) (F23957.f (A_187 hw) rfl q16)))) (F36184.f (A_187 hw) rfl (u23975.f (Or.inl (mAt.ne (A_189 hw) (A_187 hw) rfl)) (u23972.f (Or.inl (mAt.ne (A_190 hw) (A_187 hw) rfl)) (F23957.f (A_187 hw) rfl q18)))) (F36184.f (A_187 hw) rfl (u23975.f (Or.inl (mAt.ne (A_189 hw) (A_187 hw) rfl)) (u23972.f (Or.inl (mAt.ne (A_190 hw) (A_187 hw) rfl)) (F23957.f (A_187 hw) rfl q20)))) (F36184.f (A_187 hw) rfl (u23975.f (Or.inl (mAt.ne (A_189 hw) (A_187 hw) rfl)) (u23972.f (Or.inl (mAt.ne (A_190 hw) (A_187 hw) rfl)) (F23957.f (A_187 hw) rfl q22)))) (F36184.f (A_187 hw) rfl (u23975.f (Or.inl (mAt.ne (A_189 hw) (A_187 hw) rfl)) (u23972.f (Or.inl (mAt.ne (A_190 hw) (A_187 hw) rfl)) (F23957.f (A_187 hw) rfl q24)))) (F36184.f (A_187 hw) rfl (u23975.f (Or.inl (mAt.ne (A_189 hw) (A_187 hw) rfl)) (u23972.f (Or.inl (mAt.ne (A_190 hw) (A_187 hw) rfl)) (F23957.f (A_187 hw) rfl q26)))) q38770 q38773 q38776 q38779 q38782 q38785 (vc_X12_isRest_7 h27.2.1 h34) (vc_X12_isRest_7 h27.2.2.1 h35) (vc_X12_isRest_7 h27.2.2.2.1 h36) (vc_X12_isRest_7 h27.2.2.2.2.1 h37) (vc_X12_isRest_7 h27.2.2.2.2.2.1 h38) (vc_X12_isRest_7 h27.2.2.2.2.2.2.1 h39)) (gOk _ _ _ _ _) dX12_tries_97 (tX12_open _ _ _ _ _) ⟨wV_X12_open, wL_X12_open⟩ wM_X12_722 (gCX12 _ _ _ _ _) rfl (A_106 hw) rfl ⟨le_t rfl, le_t rfl⟩ ⟨le_t rfl, le_t rfl⟩ rfl (le_t rfl) fun μ38787 T38788 F38789 h38790 => ?_
              obtain ⟨z38791, z38793, z38795, z38797, z38799, z38801, q38792, q38794, q38796, q38798, q38800, q38802, h38803⟩ := h38790
              have h38804 : (0 ≤ z38791 ∧ z38791 ≤ 5) := by rw [← q38792]; exact T38788 188 188 (A_188 hw) ((1 : Int).toNat)
              have h38805 : (0 ≤ z38793 ∧ z38793 ≤ 5) := by rw [← q38794]; exact T38788 188 188 (A_188 hw) ((2 : Int).toNat)
              have h38806 : (0 ≤ z38795 ∧ z38795 ≤ 5) := by rw [← q38796]; exact T38788 188 188 (A_188 hw) ((3 : Int).toNat)
              have h38807 : (0 ≤ z38797 ∧ z38797 ≤ 5) := by rw [← q38798]; exact T38788 188 188 (A_188 hw) ((4 : Int).toNat)
              have h38808 : (0 ≤ z38799 ∧ z38799 ≤ 5) := by rw [← q38800]; exact T38788 188 188 (A_188 hw) ((5 : Int).toNat)
              have h38809 : (0 ≤ z38801 ∧ z38801 ≤ 5) := by rw [← q38802]; exact T38788 188 188 (A_188 hw) ((6 : Int).toNat)
              refine mr_iconst (pc := 100) (z := 1) dX12_tries_100 ?_
              refine mr_istore (pc := 101) (lv' := [(9, iv 1), (8, iv 1), (7, iv z38765), (0, .ref 106), (1, iv p1), (3, iv z36176), (4, iv z36175), (5, iv z36174), (6, iv z36173)]) dX12_tries_101 (by decide) rfl ?_
              have L39124 : ∀ (nL39124 : Nat) (z39122 z39121 z39120 : Int) (μ39123 : mM), mT w μ39123 → mF [189999, 190999] w μ38787 μ39123 → (1 ≤ z39122 ∧ z39122 ≤ 46656) → (0 ≤ z39121 ∧ z39121 ≤ 1) → (1 ≤ z39120 ∧ z39120 ≤ 7) → (z36173 < z39122) → quOK μ39123 z39122 z14 → μ39123 190 (z36173).toNat = z38765 → (8 - z39120) < (nL39124 : Int) → sV (gG l D c H0 sa) mX12_tries (sRm 3 0 0) (sZ (gG l D c H0 sa) 0 0 (qI w [187999, 188999, 189999, 190999, 191999] μ (fun z μ1 => ((-2147483648) ≤ z ∧ z ≤ 2147483647) ∧ True))) 103 [(0, .ref 106), (1, iv p1), (3, iv z39122), (4, iv z36175), (5, iv z36174), (6, iv z36173), (7, iv z38765), (8, iv z39121), (9, iv z39120)] [] (mk w μ39123) 0 0 := by
                intro nL39124
                induction nL39124 with
                | zero => intro z39122 z39121 z39120 μ39123 T39128 F39129 h39125 h39126 h39127 h39131 R39132 R39133 h39134; exact ((vc_X12_clear_1 h39134 h39127)).elim
                | succ nL39124 ih39135 =>
                  intro z39122 z39121 z39120 μ39123 T39128 F39129 h39125 h39126 h39127 h39131 R39132 R39133 h39134
                  refine mr_iload (pc := 103) (z := z39120) dX12_tries_103 rfl ?_
                  refine mr_bipush (pc := 105) (z := 6) dX12_tries_105 (by decide) ?_
                  refine mr_icmp_gt (pc := 107) (tgt := 202) dX12_tries_107 (by decide) (r32 h39127 rfl) (r32 (rR (x := 6)) rfl) (fun h39169 => ?_) (fun h39169 => ?_)
                  · have h39170 : 7 ≤ z39120 ∧ z39120 ≤ 7 := (vc_X12_clear_2 h39169 h39127)
                    refine mr_iload (pc := 202) (z := z39121) dX12_tries_202 rfl ?_
                    refine mr_if_eq (pc := 204) (tgt := 234) dX12_tries_204 (by decide) (r32 h39126 rfl) (fun h39180 => ?_) (fun h39180 => ?_)
                    · have h39181 : 0 ≤ z39121 ∧ z39121 ≤ 0 := (vc_X12_ring_22 h39180 h39126)
                      refine mr_iinc (pc := 234) (lv' := [(6, iv (z36173 + 1)), (0, .ref 106), (1, iv p1), (3, iv z39122), (4, iv z36175), (5, iv z36174), (7, iv z38765), (8, iv z39121), (9, iv z39120)]) dX12_tries_234 rfl (by decide) rfl ?_
                      refine sv_goto (pc := 237) (tgt := 76) dX12_tries_237 (by decide) ?_
                      refine mr_lvS (lv' := [(0, .ref 106), (1, iv p1), (3, iv z39122), (4, iv z36175), (5, iv z36174), (6, iv (z36173 + 1))]) (List.forall_mem_cons.mpr ⟨rfl, List.forall_mem_cons.mpr ⟨rfl, List.forall_mem_cons.mpr ⟨rfl, List.forall_mem_cons.mpr ⟨rfl, List.forall_mem_cons.mpr ⟨rfl, List.forall_mem_cons.mpr ⟨rfl, fun _ h => absurd h List.not_mem_nil⟩⟩⟩⟩⟩⟩) ?_
                      exact ih36190 z39122 z36175 z36174 (z36173 + 1) μ39123 T39128 (mF.call (mF.call (mF.call mF.refl F36184 rfl) F38789 rfl) F39129 rfl) h39125 h36180 h36181 (rW (c := 0) (d := 46656) (rAdd (e := 1) (f := 46656) h38764 (rR (x := 1)) rfl) rfl) (vc_X12_tries_89 h36186 h36187 h36331 h39131 h38764 h36180 h36179 h39125) (vc_X12_tries_90 h36186 h36187 h36331 h39131 h38764 h36180 h36179 h39125) R39132 (vc_X12_tries_91 (nS h36189) h36186 h36187 h36331 h39131 h38764 h36180 h36179 h39125)
                    have h39182 : 1 ≤ z39121 ∧ z39121 ≤ 1 := (vc_X12_ring_24 h39180 h39126)
                    refine mr_iinc (pc := 207) (lv' := [(4, iv (z36175 + 1)), (0, .ref 106), (1, iv p1), (3, iv z39122), (5, iv z36174), (6, iv z36173), (7, iv z38765), (8, iv z39121), (9, iv z39120)]) dX12_tries_207 rfl (by decide) rfl ?_
                    refine sv_aload_n (pc := 210) dX12_tries_210 rfl rfl ?_
                    refine gf_X12_125 (pc := 211) dX12_tries_211 wF_X12_536 (A_106 hw) T39128 ?_
                    refine mr_iload (pc := 214) (z := z38765) dX12_tries_214 rfl ?_
                    refine mr_iconst (pc := 216) (z := 1) dX12_tries_216 ?_
                    refine ss_191 (pc := 217) dX12_tries_217 (A_191 hw) T39128 (rIx (n := 46656) h38767 rfl) (rW (c := 0) (d := 1) (rR (x := 1)) rfl) fun μ39183 u39184 T39185 => ?_
                    refine mr_iload (pc := 218) (z := z36174) dX12_tries_218 rfl ?_
                    refine mr_ldc (pc := 220) (z := (-99999999)) dX12_tries_220 wG_X12_29 (by decide) ?_
                    refine mr_icmp_ne (pc := 222) (tgt := 234) dX12_tries_222 (by decide) h36181 (r32 (rR (x := (-99999999))) rfl) (fun h39190 => ?_) (fun h39190 => ?_)
                    · refine mr_iinc (pc := 234) (lv' := [(6, iv (z36173 + 1)), (4, iv (z36175 + 1)), (0, .ref 106), (1, iv p1), (3, iv z39122), (5, iv z36174), (7, iv z38765), (8, iv z39121), (9, iv z39120)]) dX12_tries_234 rfl (by decide) rfl ?_
                      refine sv_goto (pc := 237) (tgt := 76) dX12_tries_237 (by decide) ?_
                      refine mr_lvS (lv' := [(0, .ref 106), (1, iv p1), (3, iv z39122), (4, iv (z36175 + 1)), (5, iv z36174), (6, iv (z36173 + 1))]) (List.forall_mem_cons.mpr ⟨rfl, List.forall_mem_cons.mpr ⟨rfl, List.forall_mem_cons.mpr ⟨rfl, List.forall_mem_cons.mpr ⟨rfl, List.forall_mem_cons.mpr ⟨rfl, List.forall_mem_cons.mpr ⟨rfl, fun _ h => absurd h List.not_mem_nil⟩⟩⟩⟩⟩⟩) ?_
                      exact ih36190 z39122 (z36175 + 1) z36174 (z36173 + 1) μ39183 T39185 (mF.up (mF.call (mF.call (mF.call mF.refl F36184 rfl) F38789 rfl) F39129 rfl) (A_191 hw) u39184 rfl) h39125 (vc_X12_tries_93 h36186 h36187 h36331 h39131 h38764 h36180 h36179 h39125) h36181 (rW (c := 0) (d := 46656) (rAdd (e := 1) (f := 46656) h38764 (rR (x := 1)) rfl) rfl) (vc_X12_tries_94 h36186 h36187 h36331 h39131 h38764 h36180 h36179 h39125) (vc_X12_tries_90 h36186 h36187 h36331 h39131 h38764 h36180 h36179 h39125) (quOK.keep R39132 hw ((mF.up mF.refl (A_191 hw) u39184 rfl) : mF [191999] w μ39123 μ39183) rfl) (vc_X12_tries_91 (nS h36189) h36186 h36187 h36331 h39131 h38764 h36180 h36179 h39125)
                    have h39191 : (-99999999) ≤ z36174 ∧ z36174 ≤ (-99999999) := (vc_X12_judgedAnew_21 h39190 h36181)
                    refine sv_aload_n (pc := 225) dX12_tries_225 rfl rfl ?_
                    refine gf_X12_123 (pc := 226) dX12_tries_226 wF_X12_530 (A_106 hw) T39185 ?_
                    refine mr_iload (pc := 229) (z := z38765) dX12_tries_229 rfl ?_
                    refine la_189 (pc := 231) dX12_tries_231 (A_189 hw) T39185 (rIx (n := 46656) h38767 rfl) fun z39192 q39193 h39194 => ?_
                    refine mr_istore (pc := 232) (lv' := [(5, iv z39192), (4, iv (z36175 + 1)), (0, .ref 106), (1, iv p1), (3, iv z39122), (6, iv z36173), (7, iv z38765), (8, iv z39121), (9, iv z39120)]) dX12_tries_232 (by decide) rfl ?_
                    refine mr_iinc (pc := 234) (lv' := [(6, iv (z36173 + 1)), (5, iv z39192), (4, iv (z36175 + 1)), (0, .ref 106), (1, iv p1), (3, iv z39122), (7, iv z38765), (8, iv z39121), (9, iv z39120)]) dX12_tries_234 rfl (by decide) rfl ?_
                    refine sv_goto (pc := 237) (tgt := 76) dX12_tries_237 (by decide) ?_
                    refine mr_lvS (lv' := [(0, .ref 106), (1, iv p1), (3, iv z39122), (4, iv (z36175 + 1)), (5, iv z39192), (6, iv (z36173 + 1))]) (List.forall_mem_cons.mpr ⟨rfl, List.forall_mem_cons.mpr ⟨rfl, List.forall_mem_cons.mpr ⟨rfl, List.forall_mem_cons.mpr ⟨rfl, List.forall_mem_cons.mpr ⟨rfl, List.forall_mem_cons.mpr ⟨rfl, fun _ h => absurd h List.not_mem_nil⟩⟩⟩⟩⟩⟩) ?_
                    exact ih36190 z39122 (z36175 + 1) z39192 (z36173 + 1) μ39183 T39185 (mF.up (mF.call (mF.call (mF.call mF.refl F36184 rfl) F38789 rfl) F39129 rfl) (A_191 hw) u39184 rfl) h39125 (vc_X12_tries_93 h36186 h36187 h36331 h39131 h38764 h36180 h36179 h39125) h39194 (rW (c := 0) (d := 46656) (rAdd (e := 1) (f := 46656) h38764 (rR (x := 1)) rfl) rfl) (vc_X12_tries_94 h36186 h36187 h36331 h39131 h38764 h36180 h36179 h39125) (vc_X12_tries_90 h36186 h36187 h36331 h39131 h38764 h36180 h36179 h39125) (quOK.keep R39132 hw ((mF.up mF.refl (A_191 hw) u39184 rfl) : mF [191999] w μ39123 μ39183) rfl) (vc_X12_tries_91 (nS h36189) h36186 h36187 h36331 h39131 h38764 h36180 h36179 h39125)
                  have h39195 : 1 ≤ z39120 ∧ z39120 ≤ 6 := (vc_X12_clear_3 h39169 h39127)
                  refine sv_aload_n (pc := 110) dX12_tries_110 rfl rfl ?_
                  refine mr_iload (pc := 111) (z := z39120) dX12_tries_111 rfl ?_
                  obtain ⟨z39196, q39197⟩ : ∃ z, μ39123 184 (z39120.toNat) = z := ⟨_, rfl⟩
                  have h39198 : (0 ≤ z39196 ∧ z39196 ≤ 5) := by rw [← q39197]; exact T39128 184 184 (A_184 hw) (z39120.toNat)
                  refine mr_cVP (pc := 113) (c_X12_acted_v hw T39128 h39195 (F39129.f (A_188 hw) rfl q38792) (F39129.f (A_188 hw) rfl q38794) (F39129.f (A_188 hw) rfl q38796) (F39129.f (A_188 hw) rfl q38798) (F39129.f (A_188 hw) rfl q38800) (F39129.f (A_188 hw) rfl q38802) (F39129.f (A_184 hw) rfl (F38789.f (A_184 hw) rfl q38770)) (F39129.f (A_184 hw) rfl (F38789.f (A_184 hw) rfl q38773)) (F39129.f (A_184 hw) rfl (F38789.f (A_184 hw) rfl q38776)) (F39129.f (A_184 hw) rfl (F38789.f (A_184 hw) rfl q38779)) (F39129.f (A_184 hw) rfl (F38789.f (A_184 hw) rfl q38782)) (F39129.f (A_184 hw) rfl (F38789.f (A_184 hw) rfl q38785)) q39197 (vc_X12_isRest_18 h38803.1 h38771 h38804) (vc_X12_isRest_18 h38803.2.1 h38774 h38805) (vc_X12_isRest_18 h38803.2.2.1 h38777 h38806) (vc_X12_isRest_18 h38803.2.2.2.1 h38780 h38807) (vc_X12_isRest_18 h38803.2.2.2.2.1 h38783 h38808) (vc_X12_isRest_18 h38803.2.2.2.2.2.1 h38786 h38809)) (gOk _ _ _ _ _) dX12_tries_113 (tX12_acted _ _ _ _ _) ⟨wV_X12_acted, wL_X12_acted⟩ wM_X12_725 (gCX12 _ _ _ _ _) rfl (A_106 hw) rfl ⟨le_t rfl, le_t rfl⟩ ⟨le_t rfl, le_t rfl⟩ rfl (le_t rfl) fun z39203 h39202 => ?_
                  refine mr_istore (pc := 116) (lv' := [(10, iv z39203), (0, .ref 106), (1, iv p1), (3, iv z39122), (4, iv z36175), (5, iv z36174), (6, iv z36173), (7, iv z38765), (8, iv z39121), (9, iv z39120)]) dX12_tries_116 (by decide) rfl ?_
                  refine mr_iload (pc := 118) (z := z39203) dX12_tries_118 rfl ?_
                  refine sv_aload_n (pc := 120) dX12_tries_120 rfl rfl ?_
                  refine gf_X12_122 (pc := 121) dX12_tries_121 wF_X12_526 (A_106 hw) T39128 ?_
                  refine mr_iload (pc := 124) (z := z39120) dX12_tries_124 rfl ?_
                  refine la_188 (pc := 126) dX12_tries_126 (A_188 hw) T39128 (rIx (n := 7) h39195 rfl) fun z39204 q39205 h39206 => ?_
                  refine mr_icmp_ne (pc := 127) (tgt := 133) dX12_tries_127 (by decide) (r32 h39202.1 rfl) (r32 h39206 rfl) (fun h39207 => ?_) (fun h39207 => ?_)
                  · refine mr_iconst (pc := 133) (z := 0) dX12_tries_133 ?_
                    refine mr_istore (pc := 134) (lv' := [(8, iv 0), (10, iv z39203), (0, .ref 106), (1, iv p1), (3, iv z39122), (4, iv z36175), (5, iv z36174), (6, iv z36173), (7, iv z38765), (9, iv z39120)]) dX12_tries_134 (by decide) rfl ?_
                    refine mr_iload (pc := 136) (z := z38765) dX12_tries_136 rfl ?_
                    refine mr_iload (pc := 138) (z := z39203) dX12_tries_138 rfl ?_
                    refine sv_aload_n (pc := 140) dX12_tries_140 rfl rfl ?_
                    refine gf_X12_122 (pc := 141) dX12_tries_141 wF_X12_526 (A_106 hw) T39128 ?_
                    refine mr_iload (pc := 144) (z := z39120) dX12_tries_144 rfl ?_
                    refine lk_188 (pc := 146) dX12_tries_146 (A_188 hw) (rIx (n := 7) h39195 rfl) q39205 ?_
                    refine mr_isub (pc := 147) (x := z39203) (y := z39204) dX12_tries_147 ?_
                    refine sv_aload_n (pc := 148) dX12_tries_148 rfl rfl ?_
                    refine gf_X12_121 (pc := 149) dX12_tries_149 wF_X12_523 (A_106 hw) T39128 ?_
                    refine mr_iload (pc := 152) (z := z39120) dX12_tries_152 rfl ?_
                    refine la_187 (pc := 154) dX12_tries_154 (A_187 hw) T39128 (rIx (n := 8) h39195 rfl) fun z39208 q39209 h39210 => ?_
                    refine mr_imul (pc := 155) (x := (z39203 - z39204)) (y := z39208) dX12_tries_155 ?_
                    refine mr_gen (P := fun z => (-233280) ≤ z ∧ z ≤ 233280) (rMulS (m := 5) (k := 46656) (e := 233280) (rSub (e := (-5)) (f := 5) h39202.1 h39206 rfl) h39210 (by decide) rfl) fun z39211 q39212 h39213 => ?_
                    refine mr_iadd (pc := 156) (x := z38765) (y := z39211) dX12_tries_156 ?_
                    have h39214 : 0 ≤ (z38765 + z39211) ∧ (z38765 + z39211) < z14 := net_t (radix.keep h27.2.2.2.2.2.2.2.1 ((mF.call (mF.call (mF.call (mF.up (mF.up (mF.call mF.refl F23957 rfl) (A_190 hw) u23972 rfl) (A_189 hw) u23975 rfl) F36184 rfl) F38789 rfl) F39129 rfl) : mF [188999, 189999, 190999, 191999] w μ10 μ39123) (A_187 hw) (A_184 hw) (fun _ => rfl) (fun _ => rfl)) (digs.keep h38803.2.2.2.2.2.2.1 ((mF.call mF.refl F39129 rfl) : mF [189999, 190999] w μ38787 μ39123) (A_188 hw) (A_187 hw) (A_184 hw) (fun _ => rfl) (fun _ => rfl) (fun _ => rfl)) (vc_X12_tries_63 h39169 h39195) (vc_X12_tries_64 h23969 h38768 h27.1 h23970 h38767) q39209 q39197 q39205 (vc_X12_tries_105 h39202.2.1 h39207 h39198 h39202.1 h39206) (vc_X12_tries_106 h39202.2.1 h39207 h39198 h39202.1 h39206) q39212
                    refine mr_istore (pc := 157) (lv' := [(11, iv (z38765 + z39211)), (8, iv 0), (10, iv z39203), (0, .ref 106), (1, iv p1), (3, iv z39122), (4, iv z36175), (5, iv z36174), (6, iv z36173), (7, iv z38765), (9, iv z39120)]) dX12_tries_157 (by decide) rfl ?_
                    refine sv_aload_n (pc := 159) dX12_tries_159 rfl rfl ?_
                    refine gf_X12_123 (pc := 160) dX12_tries_160 wF_X12_530 (A_106 hw) T39128 ?_
                    refine mr_iload (pc := 163) (z := (z38765 + z39211)) dX12_tries_163 rfl ?_
                    refine la_189 (pc := 165) dX12_tries_165 (A_189 hw) T39128 (vc_X12_tries_67 h38768 h39214 h23969 h27.1 h23970 h38767 h39213) fun z39215 q39216 h39217 => ?_
                    refine mr_if_ge (pc := 166) (tgt := 196) dX12_tries_166 (by decide) h39217 (fun h39218 => ?_) (fun h39218 => ?_)
                    · have h39219 : 0 ≤ z39215 ∧ z39215 ≤ 2147483647 := (vc_X12_ring_1 h39218 h39217)
                      refine mr_iinc (pc := 196) (lv' := [(9, iv (z39120 + 1)), (11, iv (z38765 + z39211)), (8, iv 0), (10, iv z39203), (0, .ref 106), (1, iv p1), (3, iv z39122), (4, iv z36175), (5, iv z36174), (6, iv z36173), (7, iv z38765)]) dX12_tries_196 rfl (by decide) rfl ?_
                      refine sv_goto (pc := 199) (tgt := 103) dX12_tries_199 (by decide) ?_
                      refine mr_lvS (lv' := [(0, .ref 106), (1, iv p1), (3, iv z39122), (4, iv z36175), (5, iv z36174), (6, iv z36173), (7, iv z38765), (8, iv 0), (9, iv (z39120 + 1))]) (List.forall_mem_cons.mpr ⟨rfl, List.forall_mem_cons.mpr ⟨rfl, List.forall_mem_cons.mpr ⟨rfl, List.forall_mem_cons.mpr ⟨rfl, List.forall_mem_cons.mpr ⟨rfl, List.forall_mem_cons.mpr ⟨rfl, List.forall_mem_cons.mpr ⟨rfl, List.forall_mem_cons.mpr ⟨rfl, List.forall_mem_cons.mpr ⟨rfl, fun _ h => absurd h List.not_mem_nil⟩⟩⟩⟩⟩⟩⟩⟩⟩) ?_
                      exact ih39135 z39122 0 (z39120 + 1) μ39123 T39128 (mF.call mF.refl F39129 rfl) h39125 (rW (c := 0) (d := 1) (rR (x := 0)) rfl) (rW (c := 1) (d := 7) (rAdd (e := 2) (f := 7) h39195 (rR (x := 1)) rfl) rfl) (vc_X12_tries_109 h36186 h36187 h36331 h39131 h38764 h36180 h36179 h39125) R39132 R39133 (vc_X12_clear_4 (nS h39134) h39169 h39195)
                    have h39220 : (-2147483648) ≤ z39215 ∧ z39215 ≤ (-1) := (vc_X12_ring_60 h39218 h39217)
                    have h39221 : z39122 < z14 := quOK.room R39132 (vc_X12_tries_112 h39131 h36186 h36187 h36331 h38764 h36180 h36179 h39125) (vc_X12_tries_113 h23969 h38768 h39214 h27.1 h23970 h38767 h39213) q39216 (vc_X12_tries_114 h39218 h39220)
                    refine sv_aload_n (pc := 169) dX12_tries_169 rfl rfl ?_
                    refine gf_X12_123 (pc := 170) dX12_tries_170 wF_X12_530 (A_106 hw) T39128 ?_
                    refine mr_iload (pc := 173) (z := (z38765 + z39211)) dX12_tries_173 rfl ?_
                    refine sv_aload_n (pc := 175) dX12_tries_175 rfl rfl ?_
                    refine gf_X12_123 (pc := 176) dX12_tries_176 wF_X12_530 (A_106 hw) T39128 ?_
                    refine mr_iload (pc := 179) (z := z38765) dX12_tries_179 rfl ?_
                    refine la_189 (pc := 181) dX12_tries_181 (A_189 hw) T39128 (rIx (n := 46656) h38767 rfl) fun z39222 q39223 h39224 => ?_
                    have h39225 : 0 ≤ z39222 ∧ z39222 ≤ z36173 := quOK.rd R39132 (vc_X12_tries_115 h36186 h36187 h36331 h39131 h39221 h27.1 h38764 h36180 h36179 h39125) (vc_X12_tries_116 h36186 h36187 h36331 h39131 h39221 h23969 h38768 h39214 h27.1 h23970 h38764 h36180 h36179 h38767 h39125 h39213) R39133 q39223
                    have h39226 : 0 ≤ z39222 ∧ z39222 ≤ 46656 := (vc_X12_tries_117 h36186 h36187 h36331 h39131 h39225 h39221 h27.1 h38764 h36180 h36179 h39125 h39224)
                    refine mr_iconst (pc := 182) (z := 1) dX12_tries_182 ?_
                    refine mr_iadd (pc := 183) (x := z39222) (y := 1) dX12_tries_183 ?_
                    refine ss_189 (pc := 184) dX12_tries_184 (A_189 hw) T39128 (vc_X12_tries_118 h38768 h39214 h23969 h39221 h27.1 h23970 h38767 h39125 h39213) (rW (c := (-2147483648)) (d := 2147483647) (rAdd (e := 1) (f := 46657) h39226 (rR (x := 1)) rfl) rfl) fun μ39227 u39228 T39229 => ?_
                    refine sv_aload_n (pc := 185) dX12_tries_185 rfl rfl ?_
                    refine gf_X12_124 (pc := 186) dX12_tries_186 wF_X12_533 (A_106 hw) T39229 ?_
                    refine mr_iload_n (pc := 189) (z := z39122) dX12_tries_189 rfl rfl ?_
                    refine mr_iload (pc := 190) (z := (z38765 + z39211)) dX12_tries_190 rfl ?_
                    refine ss_190 (pc := 192) dX12_tries_192 (A_190 hw) T39229 (vc_X12_tries_119 h39131 h39221 h23969 h36186 h36187 h36331 h38768 h39214 h39225 h27.1 h23970 h38764 h36180 h36179 h38767 h39125 h39213 h39226) (vc_X12_tries_120 h38768 h39214 h23969 h39221 h27.1 h23970 h38767 h39125 h39213) fun μ39230 u39231 T39232 => ?_
                    have Q39233 : quOK μ39230 (z39122 + 1) z14 := quOK.push R39132 (vc_X12_tries_121 h39131 h39221 h23969 h36186 h36187 h36331 h38768 h39214 h39225 h27.1 h23970 h38764 h36180 h36179 h38767 h39125 h39213 h39226) (vc_X12_tries_122 h23969 h38768 h39214 h39221 h39131 h27.1 h23970 h38764 h38767 h39125 h39213) q39216 (vc_X12_tries_114 h39218 h39220) u39228 (vc_X12_tries_123 h39131 h39221 h39225 h23969 h36186 h36187 h36331 h38768 h39214 h27.1 h23970 h38764 h36180 h36179 h38767 h39125 h39213 h39226) u39231
                    refine mr_iinc (pc := 193) (lv' := [(3, iv (z39122 + 1)), (11, iv (z38765 + z39211)), (8, iv 0), (10, iv z39203), (0, .ref 106), (1, iv p1), (4, iv z36175), (5, iv z36174), (6, iv z36173), (7, iv z38765), (9, iv z39120)]) dX12_tries_193 rfl (by decide) rfl ?_
                    refine mr_iinc (pc := 196) (lv' := [(9, iv (z39120 + 1)), (3, iv (z39122 + 1)), (11, iv (z38765 + z39211)), (8, iv 0), (10, iv z39203), (0, .ref 106), (1, iv p1), (4, iv z36175), (5, iv z36174), (6, iv z36173), (7, iv z38765)]) dX12_tries_196 rfl (by decide) rfl ?_
                    refine sv_goto (pc := 199) (tgt := 103) dX12_tries_199 (by decide) ?_
                    refine mr_lvS (lv' := [(0, .ref 106), (1, iv p1), (3, iv (z39122 + 1)), (4, iv z36175), (5, iv z36174), (6, iv z36173), (7, iv z38765), (8, iv 0), (9, iv (z39120 + 1))]) (List.forall_mem_cons.mpr ⟨rfl, List.forall_mem_cons.mpr ⟨rfl, List.forall_mem_cons.mpr ⟨rfl, List.forall_mem_cons.mpr ⟨rfl, List.forall_mem_cons.mpr ⟨rfl, List.forall_mem_cons.mpr ⟨rfl, List.forall_mem_cons.mpr ⟨rfl, List.forall_mem_cons.mpr ⟨rfl, List.forall_mem_cons.mpr ⟨rfl, fun _ h => absurd h List.not_mem_nil⟩⟩⟩⟩⟩⟩⟩⟩⟩) ?_
                    exact ih39135 (z39122 + 1) 0 (z39120 + 1) μ39230 T39232 (mF.up (mF.up (mF.call mF.refl F39129 rfl) (A_189 hw) u39228 rfl) (A_190 hw) u39231 rfl) (vc_X12_tries_125 h39131 h39221 h23969 h36186 h36187 h36331 h38768 h39214 h39225 h27.1 h23970 h38764 h36180 h36179 h38767 h39125 h39213 h39226) (rW (c := 0) (d := 1) (rR (x := 0)) rfl) (rW (c := 1) (d := 7) (rAdd (e := 2) (f := 7) h39195 (rR (x := 1)) rfl) rfl) (vc_X12_tries_126 h36186 h36187 h36331 h39131 h39221 h39225 h23969 h38768 h39214 h27.1 h23970 h38764 h36180 h36179 h38767 h39125 h39213 h39226) Q39233 (mU.f u39231 (Or.inr (vc_X12_tries_124 h36186 h36187 h36331 h39131 h39221 h39225 h23969 h38768 h39214 h27.1 h23970 h38764 h36180 h36179 h38767 h39125 h39213 h39226)) (mU.f u39228 (Or.inl (by decide)) R39133)) (vc_X12_clear_4 (nS h39134) h39169 h39195)
                  refine sv_goto (pc := 130) (tgt := 196) dX12_tries_130 (by decide) ?_
                  refine mr_iinc (pc := 196) (lv' := [(9, iv (z39120 + 1)), (10, iv z39203), (0, .ref 106), (1, iv p1), (3, iv z39122), (4, iv z36175), (5, iv z36174), (6, iv z36173), (7, iv z38765), (8, iv z39121)]) dX12_tries_196 rfl (by decide) rfl ?_
                  refine sv_goto (pc := 199) (tgt := 103) dX12_tries_199 (by decide) ?_
                  refine mr_lvS (lv' := [(0, .ref 106), (1, iv p1), (3, iv z39122), (4, iv z36175), (5, iv z36174), (6, iv z36173), (7, iv z38765), (8, iv z39121), (9, iv (z39120 + 1))]) (List.forall_mem_cons.mpr ⟨rfl, List.forall_mem_cons.mpr ⟨rfl, List.forall_mem_cons.mpr ⟨rfl, List.forall_mem_cons.mpr ⟨rfl, List.forall_mem_cons.mpr ⟨rfl, List.forall_mem_cons.mpr ⟨rfl, List.forall_mem_cons.mpr ⟨rfl, List.forall_mem_cons.mpr ⟨rfl, List.forall_mem_cons.mpr ⟨rfl, fun _ h => absurd h List.not_mem_nil⟩⟩⟩⟩⟩⟩⟩⟩⟩) ?_
                  exact ih39135 z39122 z39121 (z39120 + 1) μ39123 T39128 (mF.call mF.refl F39129 rfl) h39125 h39126 (rW (c := 1) (d := 7) (rAdd (e := 2) (f := 7) h39195 (rR (x := 1)) rfl) rfl) (vc_X12_tries_109 h36186 h36187 h36331 h39131 h38764 h36180 h36179 h39125) R39132 R39133 (vc_X12_clear_4 (nS h39134) h39169 h39195)
              refine mr_lvS (lv' := [(0, .ref 106), (1, iv p1), (3, iv z36176), (4, iv z36175), (5, iv z36174), (6, iv z36173), (7, iv z38765), (8, iv 1), (9, iv 1)]) (List.forall_mem_cons.mpr ⟨rfl, List.forall_mem_cons.mpr ⟨rfl, List.forall_mem_cons.mpr ⟨rfl, List.forall_mem_cons.mpr ⟨rfl, List.forall_mem_cons.mpr ⟨rfl, List.forall_mem_cons.mpr ⟨rfl, List.forall_mem_cons.mpr ⟨rfl, List.forall_mem_cons.mpr ⟨rfl, List.forall_mem_cons.mpr ⟨rfl, fun _ h => absurd h List.not_mem_nil⟩⟩⟩⟩⟩⟩⟩⟩⟩) ?_
              exact L39124 8 z36176 1 1 μ38787 T38788 mF.refl h36179 (rW (c := 0) (d := 1) (rR (x := 1)) rfl) (rW (c := 1) (d := 7) (rR (x := 1)) rfl) (vc_X12_tries_85 h36186 h36187 h36331 h38764 h36180 h36179) (quOK.keep R36188 hw ((mF.call mF.refl F38789 rfl) : mF [188999] w μ36177 μ38787) rfl) (F38789.f (A_190 hw) rfl q38766) vc_X12_clear_5
          refine mr_lvS (lv' := [(0, .ref 106), (1, iv p1), (3, iv 1), (4, iv 0), (5, iv (-99999999)), (6, iv 0)]) (List.forall_mem_cons.mpr ⟨rfl, List.forall_mem_cons.mpr ⟨rfl, List.forall_mem_cons.mpr ⟨rfl, List.forall_mem_cons.mpr ⟨rfl, List.forall_mem_cons.mpr ⟨rfl, List.forall_mem_cons.mpr ⟨rfl, fun _ h => absurd h List.not_mem_nil⟩⟩⟩⟩⟩⟩) ?_
          exact L36178 46658 1 0 (-99999999) 0 μ23974 T23976 mF.refl (rW (c := 1) (d := 46656) (rR (x := 1)) rfl) (rW (c := 0) (d := 46656) (rR (x := 0)) rfl) (rW (c := (-2147483648)) (d := 2147483647) (rR (x := (-99999999))) rfl) (rW (c := 0) (d := 46656) (rR (x := 0)) rfl) vc_X12_dropMark_20 vc_X12_tries_128 Q23977 vc_X12_rests_19
        have h39234 : 0 ≤ z23952 ∧ z23952 ≤ 46655 := (vc_X12_rest_14 h23969 h27.1 h23955)
        refine sv_aload_n (pc := 23) dX12_tries_23 rfl rfl ?_
        refine gf_X12_123 (pc := 24) dX12_tries_24 wF_X12_530 (A_106 hw) T23956 ?_
        refine mr_iload_n (pc := 27) (z := z23952) dX12_tries_27 rfl rfl ?_
        refine mr_iconst (pc := 28) (z := (-1)) dX12_tries_28 ?_
        refine ss_189 (pc := 29) dX12_tries_29 (A_189 hw) T23956 (rIx (n := 46656) h39234 rfl) (rW (c := (-2147483648)) (d := 2147483647) (rR (x := (-1))) rfl) fun μ39235 u39236 T39237 => ?_
        refine sv_aload_n (pc := 30) dX12_tries_30 rfl rfl ?_
        refine gf_X12_125 (pc := 31) dX12_tries_31 wF_X12_536 (A_106 hw) T39237 ?_
        refine mr_iload_n (pc := 34) (z := z23952) dX12_tries_34 rfl rfl ?_
        refine mr_iconst (pc := 35) (z := 0) dX12_tries_35 ?_
        refine ss_191 (pc := 36) dX12_tries_36 (A_191 hw) T39237 (rIx (n := 46656) h39234 rfl) (rW (c := 0) (d := 1) (rR (x := 0)) rfl) fun μ39238 u39239 T39240 => ?_
        refine mr_iinc (pc := 37) (lv' := [(3, iv (z23952 + 1)), (0, .ref 106), (1, iv p1), (2, iv z14)]) dX12_tries_37 rfl (by decide) rfl ?_
        refine sv_goto (pc := 40) (tgt := 18) dX12_tries_40 (by decide) ?_
        refine mr_lvS (lv' := [(0, .ref 106), (1, iv p1), (2, iv z14), (3, iv (z23952 + 1))]) (List.forall_mem_cons.mpr ⟨rfl, List.forall_mem_cons.mpr ⟨rfl, List.forall_mem_cons.mpr ⟨rfl, List.forall_mem_cons.mpr ⟨rfl, fun _ h => absurd h List.not_mem_nil⟩⟩⟩⟩) ?_
        exact ih23960 (z23952 + 1) μ39238 T39240 (mF.up (mF.up (mF.call mF.refl F23957 rfl) (A_189 hw) u39236 rfl) (A_191 hw) u39239 rfl) (rW (c := 0) (d := 46656) (rAdd (e := 1) (f := 46656) h39234 (rR (x := 1)) rfl) rfl) (vc_X12_rest_23 (nS h23959) h23969 h27.1 h39234)
    refine mr_lvS (lv' := [(0, .ref 106), (1, iv p1), (2, iv z14), (3, iv 0)]) (List.forall_mem_cons.mpr ⟨rfl, List.forall_mem_cons.mpr ⟨rfl, List.forall_mem_cons.mpr ⟨rfl, List.forall_mem_cons.mpr ⟨rfl, fun _ h => absurd h List.not_mem_nil⟩⟩⟩⟩) ?_
    exact L23954 46658 0 μ10 T11 mF.refl (rW (c := 0) (d := 46656) (rR (x := 0)) rfl) vc_X12_rests_19
  have h39241 : 0 ≤ z5 ∧ z5 ≤ 0 := (vc_X12_tries_131 h6 h4.2.1 h4.2.2.1 hp1 h4.1)
  have h39242 : p1 < (0 : Int) ∨ (3 : Int) < p1 := (h4.2.2.1 (vc_X12_tries_132 h4.2.1 h4.2.2.1 h6 hp1 h39241))
  refine mr_iconst (pc := 9) (z := (-1)) dX12_tries_9 ?_
  exact mr_iret dX12_tries_10 rfl (le_t rfl) (le_t rfl) hT mF.refl ⟨(rW (c := (-2147483648)) (d := 2147483647) (rR (x := (-1))) rfl), trivial⟩
end
section
/-! The class's queue of states: cells q (queue) and f (flags); no entry's flag is c. -/
def quC (μ : mM) (q f : Nat) (n N c : Int) : Prop := (∀ i : Int, 0 ≤ i → i < n → 0 ≤ μ q i.toNat ∧ μ q i.toNat < N ∧ μ f (μ q i.toNat).toNat ≠ c) ∧ dist μ q n
theorem quC.pig {μ : mM} {q f : Nat} {n N c : Int} (h : quC μ q f n N c) (hN : 0 ≤ N) : n ≤ N := by
  by_cases h0 : n ≤ 0
  · omega
  · have := pigeon N.toNat n.toNat (fun i => (μ q i).toNat) (fun i hi => by have := h.1 i (by omega) (by omega); have e : ((i : Int)).toNat = i := rfl; rw [e] at this; show (μ q i).toNat < N.toNat; omega) (fun i j hij hj => by
      have h1 := h.2 i j (by omega) (by omega) (by omega)
      have h2 := h.1 i (by omega) (by omega)
      have h3 := h.1 j (by omega) (by omega)
      have e1 : ((i : Int)).toNat = i := rfl
      have e2 : ((j : Int)).toNat = j := rfl
      rw [e1] at h1 h2
      rw [e2] at h1 h3
      show (μ q i).toNat ≠ (μ q j).toNat
      omega)
    omega
theorem quC.st {μ : mM} {q f : Nat} {n N c i s : Int} (h : quC μ q f n N c) (h0 : 0 ≤ i) (h1 : i < n) (e : μ q i.toNat = s) : 0 ≤ s ∧ s < N := by
  have := h.1 i h0 h1
  rw [e] at this; exact ⟨this.1, this.2.1⟩
theorem quC.fl {μ : mM} {q f : Nat} {n N c i s v : Int} (h : quC μ q f n N c) (h0 : 0 ≤ i) (h1 : i < n) (e : μ q i.toNat = s) (ev : μ f s.toNat = v) : ¬ v = c := by
  have := h.1 i h0 h1
  rw [e, ev] at this; exact this.2.2
theorem quC.keep {l : List Nat} {w : mW} {μ μ1 : mM} {q f sq sf : Nat} {n N c : Int} (h : quC μ q f n N c) (hF : mF l w μ μ1) (hQ : mAt w q sq) (hG : mAt w f sf) (lq : ∀ i, l.elem (1000 * sq + (if mArr sq then 999 else i)) = false) (lf : ∀ i, l.elem (1000 * sf + (if mArr sf then 999 else i)) = false) : quC μ1 q f n N c := by
  have e1 : μ1 q = μ q := funext fun i => hF.f hQ (lq i) rfl
  have e2 : μ1 f = μ f := funext fun i => hF.f hG (lf i) rfl
  unfold quC dist at h ⊢
  rw [e1, e2]; exact h
theorem quC.push {μ μ1 μ2 : mM} {q f : Nat} {n N c t v o : Int} (h : quC μ q f n N c) (hqf : f ≠ q) (hn : 0 ≤ n) (ht : 0 ≤ t ∧ t < N) (qo : μ f t.toNat = o) (ho : o = c) (u1 : mU μ f t.toNat v μ1) (hv : ¬ v = c) (u2 : mU μ1 q n.toNat t μ2) : quC μ2 q f (n + 1) N c := by
  have hq : ∀ i : Int, 0 ≤ i → i < n → μ2 q i.toNat = μ q i.toNat := fun i h0 h1 => by rw [u2.2 q _ (Or.inr (by omega)), u1.2 q _ (Or.inl (Ne.symm hqf))]
  have hn2 : μ2 q n.toNat = t := u2.1
  have ne : ∀ i : Int, 0 ≤ i → i < n → μ q i.toNat ≠ t := fun i h0 h1 e => by
    have := h.1 i h0 h1
    rw [e, qo] at this; exact this.2.2 ho
  refine ⟨fun i h0 h1 => ?_, ?_⟩
  · by_cases he : i = n
    · rw [he, hn2, u2.2 f _ (Or.inl hqf), u1.1]; exact ⟨ht.1, ht.2, hv⟩
    · have g := h.1 i h0 (by omega)
      have gn := ne i h0 (by omega)
      rw [hq i h0 (by omega), u2.2 f _ (Or.inl hqf), u1.2 f _ (Or.inr (by omega))]
      exact g
  · intro i j hi hij hj
    by_cases he : j = n
    · rw [he, hn2, hq i hi (by omega)]; exact ne i hi (by omega)
    · rw [hq i hi (by omega), hq j (by omega) (by omega)]; exact h.2 i j hi hij (by omega)
theorem quC.room {μ : mM} {q f : Nat} {n N c t o : Int} (h : quC μ q f n N c) (hqf : f ≠ q) (hn : 0 ≤ n) (ht : 0 ≤ t ∧ t < N) (qo : μ f t.toNat = o) (ho : o = c) : n < N := by
  have := (h.push hqf hn ht qo ho mUp_ok (show ¬ c + 1 = c by omega) mUp_ok).pig (by omega)
  omega
theorem quC.set {μ μ1 : mM} {q f : Nat} {n N c e v : Int} (h : quC μ q f n N c) (hqf : q ≠ f) (u : mU μ f e.toNat v μ1) (hv : ¬ v = c) : quC μ1 q f n N c := by
  have e1 : μ1 q = μ q := funext fun i => u.2 q i (Or.inl hqf)
  refine ⟨fun i h0 h1 => ?_, ?_⟩
  · have g := h.1 i h0 h1
    rw [e1]
    refine ⟨g.1, g.2.1, ?_⟩
    by_cases he : (μ q i.toNat).toNat = e.toNat
    · rw [he, u.1]; exact hv
    · rw [u.2 f _ (Or.inr he)]; exact g.2.2
  · have := h.2
    unfold dist at this ⊢
    rw [e1]; exact this
theorem quC.init {μ μ1 μ2 : mM} {q f : Nat} {N e : Int} (hqf : q ≠ f) (he : e = N - 1) (hN : 1 ≤ N) (u1 : mU μ q (0 : Int).toNat e μ1) (u2 : mU μ1 f e.toNat 1 μ2) : quC μ2 q f 1 N 0 := by
  have h0 : μ2 q (0 : Int).toNat = e := by rw [u2.2 q _ (Or.inl hqf), u1.1]
  refine ⟨fun i i0 i1 => ?_, fun i j i0 ij j1 => by omega⟩
  have : i = 0 := by omega
  subst this
  rw [h0, u2.1]
  exact ⟨by omega, by omega, by decide⟩
/-- states in order, with a flag that isn't 1 -/
def quA (μ : mM) (q f : Nat) (n k c : Int) : Prop := (∀ i : Int, 0 ≤ i → i < n → 0 ≤ μ q i.toNat ∧ μ q i.toNat < k ∧ μ f (μ q i.toNat).toNat ≠ c) ∧ dist μ q n
theorem quA.add {μ μ1 : mM} {q f : Nat} {n k c v : Int} (h : quC μ q f n k c) (hqf : f ≠ q) (hn : 0 ≤ n) (hk : 0 ≤ k) (qv : μ f k.toNat = v) (hv : ¬ v = c) (u : mU μ q n.toNat k μ1) : quC μ1 q f (n + 1) (k + 1) c := by
  have hq : ∀ i : Int, 0 ≤ i → i < n → μ1 q i.toNat = μ q i.toNat := fun i h0 h1 => u.2 q _ (Or.inr (by omega))
  have hf : ∀ j, μ1 f j = μ f j := fun j => u.2 f j (Or.inl hqf)
  refine ⟨fun i h0 h1 => ?_, ?_⟩
  · by_cases he : i = n
    · rw [he, u.1, hf, qv]; exact ⟨hk, by omega, hv⟩
    · have g := h.1 i h0 (by omega)
      rw [hq i h0 (by omega), hf]
      exact ⟨g.1, by omega, g.2.2⟩
  · intro i j hi hij hj
    by_cases he : j = n
    · rw [he, u.1, hq i hi (by omega)]
      have g := h.1 i hi (by omega)
      omega
    · rw [hq i hi (by omega), hq j (by omega) (by omega)]; exact h.2 i j hi hij (by omega)
theorem quC.up {μ : mM} {q f : Nat} {n k m c : Int} (h : quC μ q f n k c) (hm : k ≤ m) : quC μ q f n m c := ⟨fun i h0 h1 => by have g := h.1 i h0 h1; exact ⟨g.1, by omega, g.2.2⟩, h.2⟩
theorem quC.zero {μ : mM} {q f : Nat} {N c : Int} : quC μ q f 0 N c := ⟨fun i h0 h1 => by omega, fun i j h0 h1 h2 => by omega⟩
theorem flag_fin : ∀ v : Fin 256, bByte (bOr ((v.val : Int) - 128) 2) ≠ 0 ∧ bByte (bOr ((v.val : Int) - 128) 2) ≠ 1 := by decide +kernel
theorem flag2 {v a z : Int} (hv : -128 ≤ v ∧ v ≤ 127) (q1 : bOr v 2 = a) (q2 : bByte a = z) : ¬ z = 0 ∧ ¬ z = 1 := by
  subst q1; subst q2
  have := flag_fin ⟨(v + 128).toNat, by omega⟩
  have e : (((v + 128).toNat : Nat) : Int) - 128 = v := by omega
  simp only [e] at this
  exact this
theorem and2_fin : bAnd 1 2 = 0 := by decide +kernel
theorem flagA {v z : Int} (q : bAnd v 2 = z) (hz : ¬ z = 0) : ¬ v = 1 := by
  intro e; subst e; rw [and2_fin] at q; exact hz q.symm
theorem refE {w : mW} {μ : mM} {a k s : Nat} (h : 0 ≤ μ a k ∧ mAt w (μ a k).toNat s) : ∃ b : Nat, μ a k = (b : Int) ∧ mAt w b s := ⟨(μ a k).toNat, (Int.toNat_of_nonneg h.1).symm, h.2⟩
theorem figE {μ : mM} {a v k : Nat} {s x y b z : Int} (qa : μ a k = x) (qv : μ v k = y) (e1 : s / x = b) (e2 : b % (y + 1) = z) : z = s / μ a k % (μ v k + 1) := by rw [qa, qv, e1, e2]
theorem figV {μ : mM} {a v k : Nat} {s x y z : Int} (h : z = s / μ a k % (μ v k + 1)) (qa : μ a k = x) (qv : μ v k = y) : z = s / x % (y + 1) := by rw [qa, qv] at h; exact h
theorem dig.mk2 {μ : mM} {h a v p : Nat} {s z x y : Int} (qh : μ h p = z) (qa : μ a p = x) (qv : μ v p = y) (e : z = s / x % (y + 1)) : dig μ h a v s p := by
  unfold dig; rw [qh, qa, qv]; exact e
theorem lenLe {w : mW} {b : Nat} {x y n : Int} (h : x ≤ (w.2.2.1 b : Int)) (qx : x = y) (qn : (w.2.2.1 b : Int) = n) : y ≤ n := by omega
theorem lenGe {w : mW} {b : Nat} {x y n : Int} (qx : x = y) (qn : (w.2.2.1 b : Int) = n) (h : y ≤ n) : x ≤ (w.2.2.1 b : Int) := by omega
theorem digs.le {μ : mM} {h a v : Nat} {s p y z : Int} (g : digs μ h a v s) (hp : 1 ≤ p ∧ p ≤ 6) (qv : μ v p.toNat = y) (qh : μ h p.toNat = z) (hy : 0 ≤ y) : 0 ≤ z ∧ z ≤ y := by
  have d := g.at hp
  unfold dig at d
  rw [qv, qh] at d
  have h1 := Int.emod_nonneg (s / μ a p.toNat) (show y + 1 ≠ 0 by omega)
  have h2 := Int.emod_lt_of_pos (s / μ a p.toNat) (show 0 < y + 1 by omega)
  omega
def hasLe (μ : mM) (n : Int) : Prop := ∀ i : Nat, 1 ≤ i → i < 7 → μ 101 i ≤ n
theorem hasLe.up {μ μ1 : mM} {n e z : Int} (h : hasLe μ n) (u : mU μ 101 e.toNat z μ1) (hz : z ≤ n) : hasLe μ1 n := fun i h1 hi => by
  by_cases hk : i = e.toNat
  · rw [hk, u.1]; exact hz
  · rw [u.2 101 i (Or.inr hk)]; exact h i h1 hi
theorem hasLe.at {μ : mM} {n e z : Int} (h : hasLe μ n) (he : 1 ≤ e ∧ e ≤ 6) (q : μ 101 e.toNat = z) : z ≤ n := by rw [← q]; exact h _ (by omega) (by omega)
theorem hasLe.le {μ : mM} {n m : Int} (h : hasLe μ n) (hm : n ≤ m) : hasLe μ m := fun i h1 hi => Int.le_trans (h i h1 hi) hm
theorem hasLe.keep {l : List Nat} {w : mW} {μ μ1 : mM} {n : Int} (h : hasLe μ n) (hw : mWF w) (hF : mF l w μ μ1) (hl : l.elem 101999 = false) : hasLe μ1 n := fun i h1 hi => by
  rw [hF.f (z := μ 101 i) (A_101 hw) hl rfl]; exact h i h1 hi
end
section
theorem dX4_addNeighbours_0 : decode cX4_addNeighbours 0 = .ok (.iload_n 2, 1) := dc0 dO_28 (by decide +kernel)
theorem dX4_addNeighbours_1 : decode cX4_addNeighbours 1 = .ok (.istore_n 3, 1) := dc0 dO_62 (by decide +kernel)
theorem dX4_addNeighbours_2 : decode cX4_addNeighbours 2 = .ok (.iconst 1, 1) := dc0 dO_4 (by decide +kernel)
theorem dX4_addNeighbours_3 : decode cX4_addNeighbours 3 = .ok (.istore 4, 2) := dcU1 dO_54 (by decide +kernel)
theorem dX4_addNeighbours_5 : decode cX4_addNeighbours 5 = .ok (.iload 4, 2) := dcU1 dO_21 (by decide +kernel)
theorem dX4_addNeighbours_7 : decode cX4_addNeighbours 7 = .ok (.bipush 7, 2) := dcS1 dO_16 (by decide +kernel)
theorem dX4_addNeighbours_9 : decode cX4_addNeighbours 9 = .ok (.if_icmp .ge 64, 3) := dcS2 dO_162 (by decide +kernel)
theorem dX4_addNeighbours_12 : decode cX4_addNeighbours 12 = .ok (.iload_n 1, 1) := dc0 dO_27 (by decide +kernel)
theorem dX4_addNeighbours_13 : decode cX4_addNeighbours 13 = .ok (.aload_n 0, 1) := dc0 dO_42 (by decide +kernel)
theorem dX4_addNeighbours_14 : decode cX4_addNeighbours 14 = .ok (.iload 4, 2) := dcU1 dO_21 (by decide +kernel)
theorem dX4_addNeighbours_16 : decode cX4_addNeighbours 16 = .ok (.invokevirtual 71, 3) := dcU2 dO_182 (by decide +kernel)
theorem dX4_addNeighbours_19 : decode cX4_addNeighbours 19 = .ok (.aload_n 0, 1) := dc0 dO_42 (by decide +kernel)
theorem dX4_addNeighbours_20 : decode cX4_addNeighbours 20 = .ok (.getfield 30, 3) := dcU2 dO_180 (by decide +kernel)
theorem dX4_addNeighbours_23 : decode cX4_addNeighbours 23 = .ok (.iload 4, 2) := dcU1 dO_21 (by decide +kernel)
theorem dX4_addNeighbours_25 : decode cX4_addNeighbours 25 = .ok (.iaload, 1) := dc0 dO_46 (by decide +kernel)
theorem dX4_addNeighbours_26 : decode cX4_addNeighbours 26 = .ok (.isub, 1) := dc0 dO_100 (by decide +kernel)
theorem dX4_addNeighbours_27 : decode cX4_addNeighbours 27 = .ok (.aload_n 0, 1) := dc0 dO_42 (by decide +kernel)
theorem dX4_addNeighbours_28 : decode cX4_addNeighbours 28 = .ok (.getfield 27, 3) := dcU2 dO_180 (by decide +kernel)
theorem dX4_addNeighbours_31 : decode cX4_addNeighbours 31 = .ok (.iload 4, 2) := dcU1 dO_21 (by decide +kernel)
theorem dX4_addNeighbours_33 : decode cX4_addNeighbours 33 = .ok (.iaload, 1) := dc0 dO_46 (by decide +kernel)
theorem dX4_addNeighbours_34 : decode cX4_addNeighbours 34 = .ok (.imul, 1) := dc0 dO_104 (by decide +kernel)
theorem dX4_addNeighbours_35 : decode cX4_addNeighbours 35 = .ok (.iadd, 1) := dc0 dO_96 (by decide +kernel)
theorem dX4_addNeighbours_36 : decode cX4_addNeighbours 36 = .ok (.istore 5, 2) := dcU1 dO_54 (by decide +kernel)
theorem dX4_addNeighbours_38 : decode cX4_addNeighbours 38 = .ok (.aload_n 0, 1) := dc0 dO_42 (by decide +kernel)
theorem dX4_addNeighbours_39 : decode cX4_addNeighbours 39 = .ok (.getfield 39, 3) := dcU2 dO_180 (by decide +kernel)
theorem dX4_addNeighbours_42 : decode cX4_addNeighbours 42 = .ok (.iload 5, 2) := dcU1 dO_21 (by decide +kernel)
theorem dX4_addNeighbours_44 : decode cX4_addNeighbours 44 = .ok (.baload, 1) := dc0 dO_51 (by decide +kernel)
theorem dX4_addNeighbours_45 : decode cX4_addNeighbours 45 = .ok (.ifCond .ne 22, 3) := dcS2 dO_154 (by decide +kernel)
theorem dX4_addNeighbours_48 : decode cX4_addNeighbours 48 = .ok (.aload_n 0, 1) := dc0 dO_42 (by decide +kernel)
theorem dX4_addNeighbours_49 : decode cX4_addNeighbours 49 = .ok (.getfield 39, 3) := dcU2 dO_180 (by decide +kernel)
theorem dX4_addNeighbours_52 : decode cX4_addNeighbours 52 = .ok (.iload 5, 2) := dcU1 dO_21 (by decide +kernel)
theorem dX4_addNeighbours_54 : decode cX4_addNeighbours 54 = .ok (.iconst 1, 1) := dc0 dO_4 (by decide +kernel)
theorem dX4_addNeighbours_55 : decode cX4_addNeighbours 55 = .ok (.bastore, 1) := dc0 dO_84 (by decide +kernel)
theorem dX4_addNeighbours_56 : decode cX4_addNeighbours 56 = .ok (.aload_n 0, 1) := dc0 dO_42 (by decide +kernel)
theorem dX4_addNeighbours_57 : decode cX4_addNeighbours 57 = .ok (.getfield 33, 3) := dcU2 dO_180 (by decide +kernel)
theorem dX4_addNeighbours_60 : decode cX4_addNeighbours 60 = .ok (.iload_n 3, 1) := dc0 dO_29 (by decide +kernel)
theorem dX4_addNeighbours_61 : decode cX4_addNeighbours 61 = .ok (.iload 5, 2) := dcU1 dO_21 (by decide +kernel)
theorem dX4_addNeighbours_63 : decode cX4_addNeighbours 63 = .ok (.iastore, 1) := dc0 dO_79 (by decide +kernel)
theorem dX4_addNeighbours_64 : decode cX4_addNeighbours 64 = .ok (.iinc 3 1, 3) := dcI dO_132 (by decide +kernel)
theorem dX4_addNeighbours_67 : decode cX4_addNeighbours 67 = .ok (.iinc 4 1, 3) := dcI dO_132 (by decide +kernel)
theorem dX4_addNeighbours_70 : decode cX4_addNeighbours 70 = .ok (.goto (-65), 3) := dcS2 dO_167 (by decide +kernel)
theorem dX4_addNeighbours_73 : decode cX4_addNeighbours 73 = .ok (.iload_n 3, 1) := dc0 dO_29 (by decide +kernel)
theorem dX4_addNeighbours_74 : decode cX4_addNeighbours 74 = .ok (.ireturn, 1) := dc0 dO_172 (by decide +kernel)
theorem dX4_addSources_0 : decode cX4_addSources 0 = .ok (.iload_n 2, 1) := dc0 dO_28 (by decide +kernel)
theorem dX4_addSources_1 : decode cX4_addSources 1 = .ok (.istore_n 3, 1) := dc0 dO_62 (by decide +kernel)
theorem dX4_addSources_2 : decode cX4_addSources 2 = .ok (.iconst 1, 1) := dc0 dO_4 (by decide +kernel)
theorem dX4_addSources_3 : decode cX4_addSources 3 = .ok (.istore 4, 2) := dcU1 dO_54 (by decide +kernel)
theorem dX4_addSources_5 : decode cX4_addSources 5 = .ok (.iload 4, 2) := dcU1 dO_21 (by decide +kernel)
theorem dX4_addSources_7 : decode cX4_addSources 7 = .ok (.bipush 7, 2) := dcS1 dO_16 (by decide +kernel)
theorem dX4_addSources_9 : decode cX4_addSources 9 = .ok (.if_icmp .ge 105, 3) := dcS2 dO_162 (by decide +kernel)
theorem dX4_addSources_12 : decode cX4_addSources 12 = .ok (.aload_n 0, 1) := dc0 dO_42 (by decide +kernel)
theorem dX4_addSources_13 : decode cX4_addSources 13 = .ok (.iload 4, 2) := dcU1 dO_21 (by decide +kernel)
theorem dX4_addSources_15 : decode cX4_addSources 15 = .ok (.invokevirtual 71, 3) := dcU2 dO_182 (by decide +kernel)
theorem dX4_addSources_18 : decode cX4_addSources 18 = .ok (.aload_n 0, 1) := dc0 dO_42 (by decide +kernel)
theorem dX4_addSources_19 : decode cX4_addSources 19 = .ok (.getfield 30, 3) := dcU2 dO_180 (by decide +kernel)
theorem dX4_addSources_22 : decode cX4_addSources 22 = .ok (.iload 4, 2) := dcU1 dO_21 (by decide +kernel)
theorem dX4_addSources_24 : decode cX4_addSources 24 = .ok (.iaload, 1) := dc0 dO_46 (by decide +kernel)
theorem dX4_addSources_25 : decode cX4_addSources 25 = .ok (.if_icmp .eq 6, 3) := dcS2 dO_159 (by decide +kernel)
theorem dX4_addSources_28 : decode cX4_addSources 28 = .ok (.goto 80, 3) := dcS2 dO_167 (by decide +kernel)
theorem dX4_addSources_31 : decode cX4_addSources 31 = .ok (.iconst 0, 1) := dc0 dO_3 (by decide +kernel)
theorem dX4_addSources_32 : decode cX4_addSources 32 = .ok (.istore 5, 2) := dcU1 dO_54 (by decide +kernel)
theorem dX4_addSources_34 : decode cX4_addSources 34 = .ok (.iload 5, 2) := dcU1 dO_21 (by decide +kernel)
theorem dX4_addSources_36 : decode cX4_addSources 36 = .ok (.aload_n 0, 1) := dc0 dO_42 (by decide +kernel)
theorem dX4_addSources_37 : decode cX4_addSources 37 = .ok (.getfield 11, 3) := dcU2 dO_180 (by decide +kernel)
theorem dX4_addSources_40 : decode cX4_addSources 40 = .ok (.iload 4, 2) := dcU1 dO_21 (by decide +kernel)
theorem dX4_addSources_42 : decode cX4_addSources 42 = .ok (.iaload, 1) := dc0 dO_46 (by decide +kernel)
theorem dX4_addSources_43 : decode cX4_addSources 43 = .ok (.if_icmp .gt 65, 3) := dcS2 dO_163 (by decide +kernel)
theorem dX4_addSources_46 : decode cX4_addSources 46 = .ok (.iload_n 1, 1) := dc0 dO_27 (by decide +kernel)
theorem dX4_addSources_47 : decode cX4_addSources 47 = .ok (.iload 5, 2) := dcU1 dO_21 (by decide +kernel)
theorem dX4_addSources_49 : decode cX4_addSources 49 = .ok (.aload_n 0, 1) := dc0 dO_42 (by decide +kernel)
theorem dX4_addSources_50 : decode cX4_addSources 50 = .ok (.getfield 30, 3) := dcU2 dO_180 (by decide +kernel)
theorem dX4_addSources_53 : decode cX4_addSources 53 = .ok (.iload 4, 2) := dcU1 dO_21 (by decide +kernel)
theorem dX4_addSources_55 : decode cX4_addSources 55 = .ok (.iaload, 1) := dc0 dO_46 (by decide +kernel)
theorem dX4_addSources_56 : decode cX4_addSources 56 = .ok (.isub, 1) := dc0 dO_100 (by decide +kernel)
theorem dX4_addSources_57 : decode cX4_addSources 57 = .ok (.aload_n 0, 1) := dc0 dO_42 (by decide +kernel)
theorem dX4_addSources_58 : decode cX4_addSources 58 = .ok (.getfield 27, 3) := dcU2 dO_180 (by decide +kernel)
theorem dX4_addSources_61 : decode cX4_addSources 61 = .ok (.iload 4, 2) := dcU1 dO_21 (by decide +kernel)
theorem dX4_addSources_63 : decode cX4_addSources 63 = .ok (.iaload, 1) := dc0 dO_46 (by decide +kernel)
theorem dX4_addSources_64 : decode cX4_addSources 64 = .ok (.imul, 1) := dc0 dO_104 (by decide +kernel)
theorem dX4_addSources_65 : decode cX4_addSources 65 = .ok (.iadd, 1) := dc0 dO_96 (by decide +kernel)
theorem dX4_addSources_66 : decode cX4_addSources 66 = .ok (.istore 6, 2) := dcU1 dO_54 (by decide +kernel)
theorem dX4_addSources_68 : decode cX4_addSources 68 = .ok (.aload_n 0, 1) := dc0 dO_42 (by decide +kernel)
theorem dX4_addSources_69 : decode cX4_addSources 69 = .ok (.getfield 39, 3) := dcU2 dO_180 (by decide +kernel)
theorem dX4_addSources_72 : decode cX4_addSources 72 = .ok (.iload 6, 2) := dcU1 dO_21 (by decide +kernel)
theorem dX4_addSources_74 : decode cX4_addSources 74 = .ok (.baload, 1) := dc0 dO_51 (by decide +kernel)
theorem dX4_addSources_75 : decode cX4_addSources 75 = .ok (.iconst 1, 1) := dc0 dO_4 (by decide +kernel)
theorem dX4_addSources_76 : decode cX4_addSources 76 = .ok (.if_icmp .ne 26, 3) := dcS2 dO_160 (by decide +kernel)
theorem dX4_addSources_79 : decode cX4_addSources 79 = .ok (.aload_n 0, 1) := dc0 dO_42 (by decide +kernel)
theorem dX4_addSources_80 : decode cX4_addSources 80 = .ok (.getfield 39, 3) := dcU2 dO_180 (by decide +kernel)
theorem dX4_addSources_83 : decode cX4_addSources 83 = .ok (.iload 6, 2) := dcU1 dO_21 (by decide +kernel)
theorem dX4_addSources_85 : decode cX4_addSources 85 = .ok (.dup2, 1) := dc0 dO_92 (by decide +kernel)
theorem dX4_addSources_86 : decode cX4_addSources 86 = .ok (.baload, 1) := dc0 dO_51 (by decide +kernel)
theorem dX4_addSources_87 : decode cX4_addSources 87 = .ok (.iconst 2, 1) := dc0 dO_5 (by decide +kernel)
theorem dX4_addSources_88 : decode cX4_addSources 88 = .ok (.ior, 1) := dc0 dO_128 (by decide +kernel)
theorem dX4_addSources_89 : decode cX4_addSources 89 = .ok (.i2b, 1) := dc0 dO_145 (by decide +kernel)
theorem dX4_addSources_90 : decode cX4_addSources 90 = .ok (.bastore, 1) := dc0 dO_84 (by decide +kernel)
theorem dX4_addSources_91 : decode cX4_addSources 91 = .ok (.aload_n 0, 1) := dc0 dO_42 (by decide +kernel)
theorem dX4_addSources_92 : decode cX4_addSources 92 = .ok (.getfield 33, 3) := dcU2 dO_180 (by decide +kernel)
theorem dX4_addSources_95 : decode cX4_addSources 95 = .ok (.iload_n 3, 1) := dc0 dO_29 (by decide +kernel)
theorem dX4_addSources_96 : decode cX4_addSources 96 = .ok (.iload 6, 2) := dcU1 dO_21 (by decide +kernel)
theorem dX4_addSources_98 : decode cX4_addSources 98 = .ok (.iastore, 1) := dc0 dO_79 (by decide +kernel)
theorem dX4_addSources_99 : decode cX4_addSources 99 = .ok (.iinc 3 1, 3) := dcI dO_132 (by decide +kernel)
theorem dX4_addSources_102 : decode cX4_addSources 102 = .ok (.iinc 5 1, 3) := dcI dO_132 (by decide +kernel)
theorem dX4_addSources_105 : decode cX4_addSources 105 = .ok (.goto (-71), 3) := dcS2 dO_167 (by decide +kernel)
theorem dX4_addSources_108 : decode cX4_addSources 108 = .ok (.iinc 4 1, 3) := dcI dO_132 (by decide +kernel)
theorem dX4_addSources_111 : decode cX4_addSources 111 = .ok (.goto (-106), 3) := dcS2 dO_167 (by decide +kernel)
theorem dX4_addSources_114 : decode cX4_addSources 114 = .ok (.iload_n 3, 1) := dc0 dO_29 (by decide +kernel)
theorem dX4_addSources_115 : decode cX4_addSources 115 = .ok (.ireturn, 1) := dc0 dO_172 (by decide +kernel)
theorem dX4_countUp_0 : decode cX4_countUp 0 = .ok (.bipush 6, 2) := dcS1 dO_16 (by decide +kernel)
theorem dX4_countUp_2 : decode cX4_countUp 2 = .ok (.istore_n 1, 1) := dc0 dO_60 (by decide +kernel)
theorem dX4_countUp_3 : decode cX4_countUp 3 = .ok (.iload_n 1, 1) := dc0 dO_27 (by decide +kernel)
theorem dX4_countUp_4 : decode cX4_countUp 4 = .ok (.iconst 1, 1) := dc0 dO_4 (by decide +kernel)
theorem dX4_countUp_5 : decode cX4_countUp 5 = .ok (.if_icmp .le 31, 3) := dcS2 dO_164 (by decide +kernel)
theorem dX4_countUp_8 : decode cX4_countUp 8 = .ok (.aload_n 0, 1) := dc0 dO_42 (by decide +kernel)
theorem dX4_countUp_9 : decode cX4_countUp 9 = .ok (.getfield 30, 3) := dcU2 dO_180 (by decide +kernel)
theorem dX4_countUp_12 : decode cX4_countUp 12 = .ok (.iload_n 1, 1) := dc0 dO_27 (by decide +kernel)
theorem dX4_countUp_13 : decode cX4_countUp 13 = .ok (.iaload, 1) := dc0 dO_46 (by decide +kernel)
theorem dX4_countUp_14 : decode cX4_countUp 14 = .ok (.aload_n 0, 1) := dc0 dO_42 (by decide +kernel)
theorem dX4_countUp_15 : decode cX4_countUp 15 = .ok (.getfield 11, 3) := dcU2 dO_180 (by decide +kernel)
theorem dX4_countUp_18 : decode cX4_countUp 18 = .ok (.iload_n 1, 1) := dc0 dO_27 (by decide +kernel)
theorem dX4_countUp_19 : decode cX4_countUp 19 = .ok (.iaload, 1) := dc0 dO_46 (by decide +kernel)
theorem dX4_countUp_20 : decode cX4_countUp 20 = .ok (.if_icmp .ne 16, 3) := dcS2 dO_160 (by decide +kernel)
theorem dX4_countUp_23 : decode cX4_countUp 23 = .ok (.aload_n 0, 1) := dc0 dO_42 (by decide +kernel)
theorem dX4_countUp_24 : decode cX4_countUp 24 = .ok (.getfield 30, 3) := dcU2 dO_180 (by decide +kernel)
theorem dX4_countUp_27 : decode cX4_countUp 27 = .ok (.iload_n 1, 1) := dc0 dO_27 (by decide +kernel)
theorem dX4_countUp_28 : decode cX4_countUp 28 = .ok (.iconst 0, 1) := dc0 dO_3 (by decide +kernel)
theorem dX4_countUp_29 : decode cX4_countUp 29 = .ok (.iastore, 1) := dc0 dO_79 (by decide +kernel)
theorem dX4_countUp_30 : decode cX4_countUp 30 = .ok (.iinc 1 (-1), 3) := dcI dO_132 (by decide +kernel)
theorem dX4_countUp_33 : decode cX4_countUp 33 = .ok (.goto (-30), 3) := dcS2 dO_167 (by decide +kernel)
theorem dX4_countUp_36 : decode cX4_countUp 36 = .ok (.aload_n 0, 1) := dc0 dO_42 (by decide +kernel)
theorem dX4_countUp_37 : decode cX4_countUp 37 = .ok (.getfield 30, 3) := dcU2 dO_180 (by decide +kernel)
theorem dX4_countUp_40 : decode cX4_countUp 40 = .ok (.iload_n 1, 1) := dc0 dO_27 (by decide +kernel)
theorem dX4_countUp_41 : decode cX4_countUp 41 = .ok (.dup2, 1) := dc0 dO_92 (by decide +kernel)
theorem dX4_countUp_42 : decode cX4_countUp 42 = .ok (.iaload, 1) := dc0 dO_46 (by decide +kernel)
theorem dX4_countUp_43 : decode cX4_countUp 43 = .ok (.iconst 1, 1) := dc0 dO_4 (by decide +kernel)
theorem dX4_countUp_44 : decode cX4_countUp 44 = .ok (.iadd, 1) := dc0 dO_96 (by decide +kernel)
theorem dX4_countUp_45 : decode cX4_countUp 45 = .ok (.iastore, 1) := dc0 dO_79 (by decide +kernel)
theorem dX4_countUp_46 : decode cX4_countUp 46 = .ok (.return_, 1) := dc0 dO_177 (by decide +kernel)
theorem dX4_find_0 : decode cX4_find 0 = .ok (.aload_n 1, 1) := dc0 dO_43 (by decide +kernel)
theorem dX4_find_1 : decode cX4_find 1 = .ok (.iload_n 2, 1) := dc0 dO_28 (by decide +kernel)
theorem dX4_find_2 : decode cX4_find 2 = .ok (.iaload, 1) := dc0 dO_46 (by decide +kernel)
theorem dX4_find_3 : decode cX4_find 3 = .ok (.istore 4, 2) := dcU1 dO_54 (by decide +kernel)
theorem dX4_find_5 : decode cX4_find 5 = .ok (.iconst 0, 1) := dc0 dO_3 (by decide +kernel)
theorem dX4_find_6 : decode cX4_find 6 = .ok (.istore 5, 2) := dcU1 dO_54 (by decide +kernel)
theorem dX4_find_8 : decode cX4_find 8 = .ok (.iload 5, 2) := dcU1 dO_21 (by decide +kernel)
theorem dX4_find_10 : decode cX4_find 10 = .ok (.aload_n 0, 1) := dc0 dO_42 (by decide +kernel)
theorem dX4_find_11 : decode cX4_find 11 = .ok (.getfield 11, 3) := dcU2 dO_180 (by decide +kernel)
theorem dX4_find_14 : decode cX4_find 14 = .ok (.iload 4, 2) := dcU1 dO_21 (by decide +kernel)
theorem dX4_find_16 : decode cX4_find 16 = .ok (.iaload, 1) := dc0 dO_46 (by decide +kernel)
theorem dX4_find_17 : decode cX4_find 17 = .ok (.if_icmp .ge 93, 3) := dcS2 dO_162 (by decide +kernel)
theorem dX4_find_20 : decode cX4_find 20 = .ok (.iload 4, 2) := dcU1 dO_21 (by decide +kernel)
theorem dX4_find_22 : decode cX4_find 22 = .ok (.iconst 5, 1) := dc0 dO_8 (by decide +kernel)
theorem dX4_find_23 : decode cX4_find 23 = .ok (.imul, 1) := dc0 dO_104 (by decide +kernel)
theorem dX4_find_24 : decode cX4_find 24 = .ok (.iload 5, 2) := dcU1 dO_21 (by decide +kernel)
theorem dX4_find_26 : decode cX4_find 26 = .ok (.iadd, 1) := dc0 dO_96 (by decide +kernel)
theorem dX4_find_27 : decode cX4_find 27 = .ok (.istore 6, 2) := dcU1 dO_54 (by decide +kernel)
theorem dX4_find_29 : decode cX4_find 29 = .ok (.aload_n 0, 1) := dc0 dO_42 (by decide +kernel)
theorem dX4_find_30 : decode cX4_find 30 = .ok (.getfield 18, 3) := dcU2 dO_180 (by decide +kernel)
theorem dX4_find_33 : decode cX4_find 33 = .ok (.iload 6, 2) := dcU1 dO_21 (by decide +kernel)
theorem dX4_find_35 : decode cX4_find 35 = .ok (.iaload, 1) := dc0 dO_46 (by decide +kernel)
theorem dX4_find_36 : decode cX4_find 36 = .ok (.iload_n 3, 1) := dc0 dO_29 (by decide +kernel)
theorem dX4_find_37 : decode cX4_find 37 = .ok (.if_icmp .ne 7, 3) := dcS2 dO_160 (by decide +kernel)
theorem dX4_find_40 : decode cX4_find 40 = .ok (.iconst 1, 1) := dc0 dO_4 (by decide +kernel)
theorem dX4_find_41 : decode cX4_find 41 = .ok (.goto 4, 3) := dcS2 dO_167 (by decide +kernel)
theorem dX4_find_44 : decode cX4_find 44 = .ok (.iconst 0, 1) := dc0 dO_3 (by decide +kernel)
theorem dX4_find_45 : decode cX4_find 45 = .ok (.istore 7, 2) := dcU1 dO_54 (by decide +kernel)
theorem dX4_find_47 : decode cX4_find 47 = .ok (.iconst 0, 1) := dc0 dO_3 (by decide +kernel)
theorem dX4_find_48 : decode cX4_find 48 = .ok (.istore 8, 2) := dcU1 dO_54 (by decide +kernel)
theorem dX4_find_50 : decode cX4_find 50 = .ok (.iload 8, 2) := dcU1 dO_21 (by decide +kernel)
theorem dX4_find_52 : decode cX4_find 52 = .ok (.iload_n 3, 1) := dc0 dO_29 (by decide +kernel)
theorem dX4_find_53 : decode cX4_find 53 = .ok (.if_icmp .ge 43, 3) := dcS2 dO_162 (by decide +kernel)
theorem dX4_find_56 : decode cX4_find 56 = .ok (.iload 7, 2) := dcU1 dO_21 (by decide +kernel)
theorem dX4_find_58 : decode cX4_find 58 = .ok (.ifCond .eq 38, 3) := dcS2 dO_153 (by decide +kernel)
theorem dX4_find_61 : decode cX4_find 61 = .ok (.aload_n 0, 1) := dc0 dO_42 (by decide +kernel)
theorem dX4_find_62 : decode cX4_find 62 = .ok (.getfield 15, 3) := dcU2 dO_180 (by decide +kernel)
theorem dX4_find_65 : decode cX4_find 65 = .ok (.iload 6, 2) := dcU1 dO_21 (by decide +kernel)
theorem dX4_find_67 : decode cX4_find 67 = .ok (.bipush 7, 2) := dcS1 dO_16 (by decide +kernel)
theorem dX4_find_69 : decode cX4_find 69 = .ok (.imul, 1) := dc0 dO_104 (by decide +kernel)
theorem dX4_find_70 : decode cX4_find 70 = .ok (.iload 8, 2) := dcU1 dO_21 (by decide +kernel)
theorem dX4_find_72 : decode cX4_find 72 = .ok (.iadd, 1) := dc0 dO_96 (by decide +kernel)
theorem dX4_find_73 : decode cX4_find 73 = .ok (.iaload, 1) := dc0 dO_46 (by decide +kernel)
theorem dX4_find_74 : decode cX4_find 74 = .ok (.aload_n 1, 1) := dc0 dO_43 (by decide +kernel)
theorem dX4_find_75 : decode cX4_find 75 = .ok (.iload_n 2, 1) := dc0 dO_28 (by decide +kernel)
theorem dX4_find_76 : decode cX4_find 76 = .ok (.iload 8, 2) := dcU1 dO_21 (by decide +kernel)
theorem dX4_find_78 : decode cX4_find 78 = .ok (.iadd, 1) := dc0 dO_96 (by decide +kernel)
theorem dX4_find_79 : decode cX4_find 79 = .ok (.iaload, 1) := dc0 dO_46 (by decide +kernel)
theorem dX4_find_80 : decode cX4_find 80 = .ok (.if_icmp .ne 7, 3) := dcS2 dO_160 (by decide +kernel)
theorem dX4_find_83 : decode cX4_find 83 = .ok (.iconst 1, 1) := dc0 dO_4 (by decide +kernel)
theorem dX4_find_84 : decode cX4_find 84 = .ok (.goto 4, 3) := dcS2 dO_167 (by decide +kernel)
theorem dX4_find_87 : decode cX4_find 87 = .ok (.iconst 0, 1) := dc0 dO_3 (by decide +kernel)
theorem dX4_find_88 : decode cX4_find 88 = .ok (.istore 7, 2) := dcU1 dO_54 (by decide +kernel)
theorem dX4_find_90 : decode cX4_find 90 = .ok (.iinc 8 1, 3) := dcI dO_132 (by decide +kernel)
theorem dX4_find_93 : decode cX4_find 93 = .ok (.goto (-43), 3) := dcS2 dO_167 (by decide +kernel)
theorem dX4_find_96 : decode cX4_find 96 = .ok (.iload 7, 2) := dcU1 dO_21 (by decide +kernel)
theorem dX4_find_98 : decode cX4_find 98 = .ok (.ifCond .eq 6, 3) := dcS2 dO_153 (by decide +kernel)
theorem dX4_find_101 : decode cX4_find 101 = .ok (.iload 5, 2) := dcU1 dO_21 (by decide +kernel)
theorem dX4_find_103 : decode cX4_find 103 = .ok (.ireturn, 1) := dc0 dO_172 (by decide +kernel)
theorem dX4_find_104 : decode cX4_find 104 = .ok (.iinc 5 1, 3) := dcI dO_132 (by decide +kernel)
theorem dX4_find_107 : decode cX4_find 107 = .ok (.goto (-99), 3) := dcS2 dO_167 (by decide +kernel)
theorem dX4_find_110 : decode cX4_find 110 = .ok (.iconst (-1), 1) := dc0 dO_2 (by decide +kernel)
theorem dX4_find_111 : decode cX4_find 111 = .ok (.ireturn, 1) := dc0 dO_172 (by decide +kernel)
theorem dX4_leadBack_0 : decode cX4_leadBack 0 = .ok (.iconst 0, 1) := dc0 dO_3 (by decide +kernel)
theorem dX4_leadBack_1 : decode cX4_leadBack 1 = .ok (.istore_n 1, 1) := dc0 dO_60 (by decide +kernel)
theorem dX4_leadBack_2 : decode cX4_leadBack 2 = .ok (.iconst 0, 1) := dc0 dO_3 (by decide +kernel)
theorem dX4_leadBack_3 : decode cX4_leadBack 3 = .ok (.istore_n 2, 1) := dc0 dO_61 (by decide +kernel)
theorem dX4_leadBack_4 : decode cX4_leadBack 4 = .ok (.iload_n 2, 1) := dc0 dO_28 (by decide +kernel)
theorem dX4_leadBack_5 : decode cX4_leadBack 5 = .ok (.aload_n 0, 1) := dc0 dO_42 (by decide +kernel)
theorem dX4_leadBack_6 : decode cX4_leadBack 6 = .ok (.getfield 59, 3) := dcU2 dO_180 (by decide +kernel)
theorem dX4_leadBack_9 : decode cX4_leadBack 9 = .ok (.if_icmp .ge 30, 3) := dcS2 dO_162 (by decide +kernel)
theorem dX4_leadBack_12 : decode cX4_leadBack 12 = .ok (.aload_n 0, 1) := dc0 dO_42 (by decide +kernel)
theorem dX4_leadBack_13 : decode cX4_leadBack 13 = .ok (.getfield 39, 3) := dcU2 dO_180 (by decide +kernel)
theorem dX4_leadBack_16 : decode cX4_leadBack 16 = .ok (.iload_n 2, 1) := dc0 dO_28 (by decide +kernel)
theorem dX4_leadBack_17 : decode cX4_leadBack 17 = .ok (.baload, 1) := dc0 dO_51 (by decide +kernel)
theorem dX4_leadBack_18 : decode cX4_leadBack 18 = .ok (.iconst 2, 1) := dc0 dO_5 (by decide +kernel)
theorem dX4_leadBack_19 : decode cX4_leadBack 19 = .ok (.iand, 1) := dc0 dO_126 (by decide +kernel)
theorem dX4_leadBack_20 : decode cX4_leadBack 20 = .ok (.ifCond .eq 13, 3) := dcS2 dO_153 (by decide +kernel)
theorem dX4_leadBack_23 : decode cX4_leadBack 23 = .ok (.aload_n 0, 1) := dc0 dO_42 (by decide +kernel)
theorem dX4_leadBack_24 : decode cX4_leadBack 24 = .ok (.getfield 33, 3) := dcU2 dO_180 (by decide +kernel)
theorem dX4_leadBack_27 : decode cX4_leadBack 27 = .ok (.iload_n 1, 1) := dc0 dO_27 (by decide +kernel)
theorem dX4_leadBack_28 : decode cX4_leadBack 28 = .ok (.iload_n 2, 1) := dc0 dO_28 (by decide +kernel)
theorem dX4_leadBack_29 : decode cX4_leadBack 29 = .ok (.iastore, 1) := dc0 dO_79 (by decide +kernel)
theorem dX4_leadBack_30 : decode cX4_leadBack 30 = .ok (.iinc 1 1, 3) := dcI dO_132 (by decide +kernel)
theorem dX4_leadBack_33 : decode cX4_leadBack 33 = .ok (.iinc 2 1, 3) := dcI dO_132 (by decide +kernel)
theorem dX4_leadBack_36 : decode cX4_leadBack 36 = .ok (.goto (-32), 3) := dcS2 dO_167 (by decide +kernel)
theorem dX4_leadBack_39 : decode cX4_leadBack 39 = .ok (.iconst 0, 1) := dc0 dO_3 (by decide +kernel)
theorem dX4_leadBack_40 : decode cX4_leadBack 40 = .ok (.istore_n 2, 1) := dc0 dO_61 (by decide +kernel)
theorem dX4_leadBack_41 : decode cX4_leadBack 41 = .ok (.iload_n 2, 1) := dc0 dO_28 (by decide +kernel)
theorem dX4_leadBack_42 : decode cX4_leadBack 42 = .ok (.iload_n 1, 1) := dc0 dO_27 (by decide +kernel)
theorem dX4_leadBack_43 : decode cX4_leadBack 43 = .ok (.if_icmp .ge 31, 3) := dcS2 dO_162 (by decide +kernel)
theorem dX4_leadBack_46 : decode cX4_leadBack 46 = .ok (.aload_n 0, 1) := dc0 dO_42 (by decide +kernel)
theorem dX4_leadBack_47 : decode cX4_leadBack 47 = .ok (.aload_n 0, 1) := dc0 dO_42 (by decide +kernel)
theorem dX4_leadBack_48 : decode cX4_leadBack 48 = .ok (.getfield 33, 3) := dcU2 dO_180 (by decide +kernel)
theorem dX4_leadBack_51 : decode cX4_leadBack 51 = .ok (.iload_n 2, 1) := dc0 dO_28 (by decide +kernel)
theorem dX4_leadBack_52 : decode cX4_leadBack 52 = .ok (.iaload, 1) := dc0 dO_46 (by decide +kernel)
theorem dX4_leadBack_53 : decode cX4_leadBack 53 = .ok (.invokevirtual 85, 3) := dcU2 dO_182 (by decide +kernel)
theorem dX4_leadBack_56 : decode cX4_leadBack 56 = .ok (.aload_n 0, 1) := dc0 dO_42 (by decide +kernel)
theorem dX4_leadBack_57 : decode cX4_leadBack 57 = .ok (.aload_n 0, 1) := dc0 dO_42 (by decide +kernel)
theorem dX4_leadBack_58 : decode cX4_leadBack 58 = .ok (.getfield 33, 3) := dcU2 dO_180 (by decide +kernel)
theorem dX4_leadBack_61 : decode cX4_leadBack 61 = .ok (.iload_n 2, 1) := dc0 dO_28 (by decide +kernel)
theorem dX4_leadBack_62 : decode cX4_leadBack 62 = .ok (.iaload, 1) := dc0 dO_46 (by decide +kernel)
theorem dX4_leadBack_63 : decode cX4_leadBack 63 = .ok (.iload_n 1, 1) := dc0 dO_27 (by decide +kernel)
theorem dX4_leadBack_64 : decode cX4_leadBack 64 = .ok (.invokevirtual 127, 3) := dcU2 dO_182 (by decide +kernel)
theorem dX4_leadBack_67 : decode cX4_leadBack 67 = .ok (.istore_n 1, 1) := dc0 dO_60 (by decide +kernel)
theorem dX4_leadBack_68 : decode cX4_leadBack 68 = .ok (.iinc 2 1, 3) := dcI dO_132 (by decide +kernel)
theorem dX4_leadBack_71 : decode cX4_leadBack 71 = .ok (.goto (-30), 3) := dcS2 dO_167 (by decide +kernel)
theorem dX4_leadBack_74 : decode cX4_leadBack 74 = .ok (.iload_n 1, 1) := dc0 dO_27 (by decide +kernel)
theorem dX4_leadBack_75 : decode cX4_leadBack 75 = .ok (.ireturn, 1) := dc0 dO_172 (by decide +kernel)
theorem dX4_need_0 : decode cX4_need 0 = .ok (.aload_n 0, 1) := dc0 dO_42 (by decide +kernel)
theorem dX4_need_1 : decode cX4_need 1 = .ok (.getfield 15, 3) := dcU2 dO_180 (by decide +kernel)
theorem dX4_need_4 : decode cX4_need 4 = .ok (.iload_n 1, 1) := dc0 dO_27 (by decide +kernel)
theorem dX4_need_5 : decode cX4_need 5 = .ok (.bipush 7, 2) := dcS1 dO_16 (by decide +kernel)
theorem dX4_need_7 : decode cX4_need 7 = .ok (.imul, 1) := dc0 dO_104 (by decide +kernel)
theorem dX4_need_8 : decode cX4_need 8 = .ok (.iconst 1, 1) := dc0 dO_4 (by decide +kernel)
theorem dX4_need_9 : decode cX4_need 9 = .ok (.iadd, 1) := dc0 dO_96 (by decide +kernel)
theorem dX4_need_10 : decode cX4_need 10 = .ok (.iaload, 1) := dc0 dO_46 (by decide +kernel)
theorem dX4_need_11 : decode cX4_need 11 = .ok (.istore_n 2, 1) := dc0 dO_61 (by decide +kernel)
theorem dX4_need_12 : decode cX4_need 12 = .ok (.aload_n 0, 1) := dc0 dO_42 (by decide +kernel)
theorem dX4_need_13 : decode cX4_need 13 = .ok (.getfield 21, 3) := dcU2 dO_180 (by decide +kernel)
theorem dX4_need_16 : decode cX4_need 16 = .ok (.iload_n 1, 1) := dc0 dO_27 (by decide +kernel)
theorem dX4_need_17 : decode cX4_need 17 = .ok (.iload_n 2, 1) := dc0 dO_28 (by decide +kernel)
theorem dX4_need_18 : decode cX4_need 18 = .ok (.iastore, 1) := dc0 dO_79 (by decide +kernel)
theorem dX4_need_19 : decode cX4_need 19 = .ok (.aload_n 0, 1) := dc0 dO_42 (by decide +kernel)
theorem dX4_need_20 : decode cX4_need 20 = .ok (.getfield 24, 3) := dcU2 dO_180 (by decide +kernel)
theorem dX4_need_23 : decode cX4_need 23 = .ok (.iload_n 1, 1) := dc0 dO_27 (by decide +kernel)
theorem dX4_need_24 : decode cX4_need 24 = .ok (.iload_n 2, 1) := dc0 dO_28 (by decide +kernel)
theorem dX4_need_25 : decode cX4_need 25 = .ok (.ifCond .ne 7, 3) := dcS2 dO_154 (by decide +kernel)
theorem dX4_need_28 : decode cX4_need 28 = .ok (.iconst 0, 1) := dc0 dO_3 (by decide +kernel)
theorem dX4_need_29 : decode cX4_need 29 = .ok (.goto 25, 3) := dcS2 dO_167 (by decide +kernel)
theorem dX4_need_32 : decode cX4_need 32 = .ok (.aload_n 0, 1) := dc0 dO_42 (by decide +kernel)
theorem dX4_need_33 : decode cX4_need 33 = .ok (.aload_n 0, 1) := dc0 dO_42 (by decide +kernel)
theorem dX4_need_34 : decode cX4_need 34 = .ok (.getfield 15, 3) := dcU2 dO_180 (by decide +kernel)
theorem dX4_need_37 : decode cX4_need 37 = .ok (.iload_n 1, 1) := dc0 dO_27 (by decide +kernel)
theorem dX4_need_38 : decode cX4_need 38 = .ok (.bipush 7, 2) := dcS1 dO_16 (by decide +kernel)
theorem dX4_need_40 : decode cX4_need 40 = .ok (.imul, 1) := dc0 dO_104 (by decide +kernel)
theorem dX4_need_41 : decode cX4_need 41 = .ok (.iconst 1, 1) := dc0 dO_4 (by decide +kernel)
theorem dX4_need_42 : decode cX4_need 42 = .ok (.iadd, 1) := dc0 dO_96 (by decide +kernel)
theorem dX4_need_43 : decode cX4_need 43 = .ok (.aload_n 0, 1) := dc0 dO_42 (by decide +kernel)
theorem dX4_need_44 : decode cX4_need 44 = .ok (.getfield 18, 3) := dcU2 dO_180 (by decide +kernel)
theorem dX4_need_47 : decode cX4_need 47 = .ok (.iload_n 1, 1) := dc0 dO_27 (by decide +kernel)
theorem dX4_need_48 : decode cX4_need 48 = .ok (.iaload, 1) := dc0 dO_46 (by decide +kernel)
theorem dX4_need_49 : decode cX4_need 49 = .ok (.iconst 1, 1) := dc0 dO_4 (by decide +kernel)
theorem dX4_need_50 : decode cX4_need 50 = .ok (.isub, 1) := dc0 dO_100 (by decide +kernel)
theorem dX4_need_51 : decode cX4_need 51 = .ok (.invokevirtual 67, 3) := dcU2 dO_182 (by decide +kernel)
theorem dX4_need_54 : decode cX4_need 54 = .ok (.iastore, 1) := dc0 dO_79 (by decide +kernel)
theorem dX4_need_55 : decode cX4_need 55 = .ok (.return_, 1) := dc0 dO_177 (by decide +kernel)
theorem dX4_prepare_0 : decode cX4_prepare 0 = .ok (.aload_n 0, 1) := dc0 dO_42 (by decide +kernel)
theorem dX4_prepare_1 : decode cX4_prepare 1 = .ok (.iconst 1, 1) := dc0 dO_4 (by decide +kernel)
theorem dX4_prepare_2 : decode cX4_prepare 2 = .ok (.putfield 59, 3) := dcU2 dO_181 (by decide +kernel)
theorem dX4_prepare_5 : decode cX4_prepare 5 = .ok (.bipush 6, 2) := dcS1 dO_16 (by decide +kernel)
theorem dX4_prepare_7 : decode cX4_prepare 7 = .ok (.istore_n 1, 1) := dc0 dO_60 (by decide +kernel)
theorem dX4_prepare_8 : decode cX4_prepare 8 = .ok (.iload_n 1, 1) := dc0 dO_27 (by decide +kernel)
theorem dX4_prepare_9 : decode cX4_prepare 9 = .ok (.iconst 1, 1) := dc0 dO_4 (by decide +kernel)
theorem dX4_prepare_10 : decode cX4_prepare 10 = .ok (.if_icmp .lt 63, 3) := dcS2 dO_161 (by decide +kernel)
theorem dX4_prepare_13 : decode cX4_prepare 13 = .ok (.aload_n 0, 1) := dc0 dO_42 (by decide +kernel)
theorem dX4_prepare_14 : decode cX4_prepare 14 = .ok (.getfield 27, 3) := dcU2 dO_180 (by decide +kernel)
theorem dX4_prepare_17 : decode cX4_prepare 17 = .ok (.iload_n 1, 1) := dc0 dO_27 (by decide +kernel)
theorem dX4_prepare_18 : decode cX4_prepare 18 = .ok (.aload_n 0, 1) := dc0 dO_42 (by decide +kernel)
theorem dX4_prepare_19 : decode cX4_prepare 19 = .ok (.getfield 59, 3) := dcU2 dO_180 (by decide +kernel)
theorem dX4_prepare_22 : decode cX4_prepare 22 = .ok (.iastore, 1) := dc0 dO_79 (by decide +kernel)
theorem dX4_prepare_23 : decode cX4_prepare 23 = .ok (.aload_n 0, 1) := dc0 dO_42 (by decide +kernel)
theorem dX4_prepare_24 : decode cX4_prepare 24 = .ok (.dup, 1) := dc0 dO_89 (by decide +kernel)
theorem dX4_prepare_25 : decode cX4_prepare 25 = .ok (.getfield 59, 3) := dcU2 dO_180 (by decide +kernel)
theorem dX4_prepare_28 : decode cX4_prepare 28 = .ok (.aload_n 0, 1) := dc0 dO_42 (by decide +kernel)
theorem dX4_prepare_29 : decode cX4_prepare 29 = .ok (.getfield 11, 3) := dcU2 dO_180 (by decide +kernel)
theorem dX4_prepare_32 : decode cX4_prepare 32 = .ok (.iload_n 1, 1) := dc0 dO_27 (by decide +kernel)
theorem dX4_prepare_33 : decode cX4_prepare 33 = .ok (.iaload, 1) := dc0 dO_46 (by decide +kernel)
theorem dX4_prepare_34 : decode cX4_prepare 34 = .ok (.iconst 1, 1) := dc0 dO_4 (by decide +kernel)
theorem dX4_prepare_35 : decode cX4_prepare 35 = .ok (.iadd, 1) := dc0 dO_96 (by decide +kernel)
theorem dX4_prepare_36 : decode cX4_prepare 36 = .ok (.imul, 1) := dc0 dO_104 (by decide +kernel)
theorem dX4_prepare_37 : decode cX4_prepare 37 = .ok (.putfield 59, 3) := dcU2 dO_181 (by decide +kernel)
theorem dX4_prepare_40 : decode cX4_prepare 40 = .ok (.iconst 0, 1) := dc0 dO_3 (by decide +kernel)
theorem dX4_prepare_41 : decode cX4_prepare 41 = .ok (.istore_n 2, 1) := dc0 dO_61 (by decide +kernel)
theorem dX4_prepare_42 : decode cX4_prepare 42 = .ok (.iload_n 2, 1) := dc0 dO_28 (by decide +kernel)
theorem dX4_prepare_43 : decode cX4_prepare 43 = .ok (.aload_n 0, 1) := dc0 dO_42 (by decide +kernel)
theorem dX4_prepare_44 : decode cX4_prepare 44 = .ok (.getfield 11, 3) := dcU2 dO_180 (by decide +kernel)
theorem dX4_prepare_47 : decode cX4_prepare 47 = .ok (.iload_n 1, 1) := dc0 dO_27 (by decide +kernel)
theorem dX4_prepare_48 : decode cX4_prepare 48 = .ok (.iaload, 1) := dc0 dO_46 (by decide +kernel)
theorem dX4_prepare_49 : decode cX4_prepare 49 = .ok (.if_icmp .ge 18, 3) := dcS2 dO_162 (by decide +kernel)
theorem dX4_prepare_52 : decode cX4_prepare 52 = .ok (.aload_n 0, 1) := dc0 dO_42 (by decide +kernel)
theorem dX4_prepare_53 : decode cX4_prepare 53 = .ok (.iload_n 1, 1) := dc0 dO_27 (by decide +kernel)
theorem dX4_prepare_54 : decode cX4_prepare 54 = .ok (.iconst 5, 1) := dc0 dO_8 (by decide +kernel)
theorem dX4_prepare_55 : decode cX4_prepare 55 = .ok (.imul, 1) := dc0 dO_104 (by decide +kernel)
theorem dX4_prepare_56 : decode cX4_prepare 56 = .ok (.iload_n 2, 1) := dc0 dO_28 (by decide +kernel)
theorem dX4_prepare_57 : decode cX4_prepare 57 = .ok (.iadd, 1) := dc0 dO_96 (by decide +kernel)
theorem dX4_prepare_58 : decode cX4_prepare 58 = .ok (.invokevirtual 63, 3) := dcU2 dO_182 (by decide +kernel)
theorem dX4_prepare_61 : decode cX4_prepare 61 = .ok (.iinc 2 1, 3) := dcI dO_132 (by decide +kernel)
theorem dX4_prepare_64 : decode cX4_prepare 64 = .ok (.goto (-22), 3) := dcS2 dO_167 (by decide +kernel)
theorem dX4_prepare_67 : decode cX4_prepare 67 = .ok (.iinc 1 (-1), 3) := dcI dO_132 (by decide +kernel)
theorem dX4_prepare_70 : decode cX4_prepare 70 = .ok (.goto (-62), 3) := dcS2 dO_167 (by decide +kernel)
theorem dX4_prepare_73 : decode cX4_prepare 73 = .ok (.return_, 1) := dc0 dO_177 (by decide +kernel)
theorem dX4_spread_0 : decode cX4_spread 0 = .ok (.aload_n 0, 1) := dc0 dO_42 (by decide +kernel)
theorem dX4_spread_1 : decode cX4_spread 1 = .ok (.getfield 43, 3) := dcU2 dO_180 (by decide +kernel)
theorem dX4_spread_4 : decode cX4_spread 4 = .ok (.iconst 1, 1) := dc0 dO_4 (by decide +kernel)
theorem dX4_spread_5 : decode cX4_spread 5 = .ok (.iconst 0, 1) := dc0 dO_3 (by decide +kernel)
theorem dX4_spread_6 : decode cX4_spread 6 = .ok (.iastore, 1) := dc0 dO_79 (by decide +kernel)
theorem dX4_spread_7 : decode cX4_spread 7 = .ok (.aload_n 0, 1) := dc0 dO_42 (by decide +kernel)
theorem dX4_spread_8 : decode cX4_spread 8 = .ok (.getfield 43, 3) := dcU2 dO_180 (by decide +kernel)
theorem dX4_spread_11 : decode cX4_spread 11 = .ok (.iconst 3, 1) := dc0 dO_6 (by decide +kernel)
theorem dX4_spread_12 : decode cX4_spread 12 = .ok (.ldc 123, 2) := dcU1 dO_18 (by decide +kernel)
theorem dX4_spread_14 : decode cX4_spread 14 = .ok (.iastore, 1) := dc0 dO_79 (by decide +kernel)
theorem dX4_spread_15 : decode cX4_spread 15 = .ok (.aload_n 0, 1) := dc0 dO_42 (by decide +kernel)
theorem dX4_spread_16 : decode cX4_spread 16 = .ok (.getfield 33, 3) := dcU2 dO_180 (by decide +kernel)
theorem dX4_spread_19 : decode cX4_spread 19 = .ok (.iconst 0, 1) := dc0 dO_3 (by decide +kernel)
theorem dX4_spread_20 : decode cX4_spread 20 = .ok (.aload_n 0, 1) := dc0 dO_42 (by decide +kernel)
theorem dX4_spread_21 : decode cX4_spread 21 = .ok (.getfield 59, 3) := dcU2 dO_180 (by decide +kernel)
theorem dX4_spread_24 : decode cX4_spread 24 = .ok (.iconst 1, 1) := dc0 dO_4 (by decide +kernel)
theorem dX4_spread_25 : decode cX4_spread 25 = .ok (.isub, 1) := dc0 dO_100 (by decide +kernel)
theorem dX4_spread_26 : decode cX4_spread 26 = .ok (.iastore, 1) := dc0 dO_79 (by decide +kernel)
theorem dX4_spread_27 : decode cX4_spread 27 = .ok (.aload_n 0, 1) := dc0 dO_42 (by decide +kernel)
theorem dX4_spread_28 : decode cX4_spread 28 = .ok (.getfield 39, 3) := dcU2 dO_180 (by decide +kernel)
theorem dX4_spread_31 : decode cX4_spread 31 = .ok (.aload_n 0, 1) := dc0 dO_42 (by decide +kernel)
theorem dX4_spread_32 : decode cX4_spread 32 = .ok (.getfield 59, 3) := dcU2 dO_180 (by decide +kernel)
theorem dX4_spread_35 : decode cX4_spread 35 = .ok (.iconst 1, 1) := dc0 dO_4 (by decide +kernel)
theorem dX4_spread_36 : decode cX4_spread 36 = .ok (.isub, 1) := dc0 dO_100 (by decide +kernel)
theorem dX4_spread_37 : decode cX4_spread 37 = .ok (.iconst 1, 1) := dc0 dO_4 (by decide +kernel)
theorem dX4_spread_38 : decode cX4_spread 38 = .ok (.bastore, 1) := dc0 dO_84 (by decide +kernel)
theorem dX4_spread_39 : decode cX4_spread 39 = .ok (.iconst 1, 1) := dc0 dO_4 (by decide +kernel)
theorem dX4_spread_40 : decode cX4_spread 40 = .ok (.istore_n 1, 1) := dc0 dO_60 (by decide +kernel)
theorem dX4_spread_41 : decode cX4_spread 41 = .ok (.iconst 0, 1) := dc0 dO_3 (by decide +kernel)
theorem dX4_spread_42 : decode cX4_spread 42 = .ok (.istore_n 2, 1) := dc0 dO_61 (by decide +kernel)
theorem dX4_spread_43 : decode cX4_spread 43 = .ok (.iconst 1, 1) := dc0 dO_4 (by decide +kernel)
theorem dX4_spread_44 : decode cX4_spread 44 = .ok (.istore_n 3, 1) := dc0 dO_62 (by decide +kernel)
theorem dX4_spread_45 : decode cX4_spread 45 = .ok (.iconst 0, 1) := dc0 dO_3 (by decide +kernel)
theorem dX4_spread_46 : decode cX4_spread 46 = .ok (.istore 4, 2) := dcU1 dO_54 (by decide +kernel)
theorem dX4_spread_48 : decode cX4_spread 48 = .ok (.iload 4, 2) := dcU1 dO_21 (by decide +kernel)
theorem dX4_spread_50 : decode cX4_spread 50 = .ok (.iload_n 1, 1) := dc0 dO_27 (by decide +kernel)
theorem dX4_spread_51 : decode cX4_spread 51 = .ok (.if_icmp .ge 105, 3) := dcS2 dO_162 (by decide +kernel)
theorem dX4_spread_54 : decode cX4_spread 54 = .ok (.iload 4, 2) := dcU1 dO_21 (by decide +kernel)
theorem dX4_spread_56 : decode cX4_spread 56 = .ok (.iload_n 3, 1) := dc0 dO_29 (by decide +kernel)
theorem dX4_spread_57 : decode cX4_spread 57 = .ok (.if_icmp .ne 8, 3) := dcS2 dO_160 (by decide +kernel)
theorem dX4_spread_60 : decode cX4_spread 60 = .ok (.iinc 2 1, 3) := dcI dO_132 (by decide +kernel)
theorem dX4_spread_63 : decode cX4_spread 63 = .ok (.iload_n 1, 1) := dc0 dO_27 (by decide +kernel)
theorem dX4_spread_64 : decode cX4_spread 64 = .ok (.istore_n 3, 1) := dc0 dO_62 (by decide +kernel)
theorem dX4_spread_65 : decode cX4_spread 65 = .ok (.aload_n 0, 1) := dc0 dO_42 (by decide +kernel)
theorem dX4_spread_66 : decode cX4_spread 66 = .ok (.aload_n 0, 1) := dc0 dO_42 (by decide +kernel)
theorem dX4_spread_67 : decode cX4_spread 67 = .ok (.getfield 33, 3) := dcU2 dO_180 (by decide +kernel)
theorem dX4_spread_70 : decode cX4_spread 70 = .ok (.iload 4, 2) := dcU1 dO_21 (by decide +kernel)
theorem dX4_spread_72 : decode cX4_spread 72 = .ok (.iaload, 1) := dc0 dO_46 (by decide +kernel)
theorem dX4_spread_73 : decode cX4_spread 73 = .ok (.invokevirtual 85, 3) := dcU2 dO_182 (by decide +kernel)
theorem dX4_spread_76 : decode cX4_spread 76 = .ok (.aload_n 0, 1) := dc0 dO_42 (by decide +kernel)
theorem dX4_spread_77 : decode cX4_spread 77 = .ok (.aload_n 0, 1) := dc0 dO_42 (by decide +kernel)
theorem dX4_spread_78 : decode cX4_spread 78 = .ok (.getfield 33, 3) := dcU2 dO_180 (by decide +kernel)
theorem dX4_spread_81 : decode cX4_spread 81 = .ok (.iload 4, 2) := dcU1 dO_21 (by decide +kernel)
theorem dX4_spread_83 : decode cX4_spread 83 = .ok (.iaload, 1) := dc0 dO_46 (by decide +kernel)
theorem dX4_spread_84 : decode cX4_spread 84 = .ok (.iload_n 1, 1) := dc0 dO_27 (by decide +kernel)
theorem dX4_spread_85 : decode cX4_spread 85 = .ok (.invokevirtual 124, 3) := dcU2 dO_182 (by decide +kernel)
theorem dX4_spread_88 : decode cX4_spread 88 = .ok (.istore_n 1, 1) := dc0 dO_60 (by decide +kernel)
theorem dX4_spread_89 : decode cX4_spread 89 = .ok (.aload_n 0, 1) := dc0 dO_42 (by decide +kernel)
theorem dX4_spread_90 : decode cX4_spread 90 = .ok (.invokevirtual 88, 3) := dcU2 dO_182 (by decide +kernel)
theorem dX4_spread_93 : decode cX4_spread 93 = .ok (.ifCond .eq 57, 3) := dcS2 dO_153 (by decide +kernel)
theorem dX4_spread_96 : decode cX4_spread 96 = .ok (.aload_n 0, 1) := dc0 dO_42 (by decide +kernel)
theorem dX4_spread_97 : decode cX4_spread 97 = .ok (.getfield 39, 3) := dcU2 dO_180 (by decide +kernel)
theorem dX4_spread_100 : decode cX4_spread 100 = .ok (.aload_n 0, 1) := dc0 dO_42 (by decide +kernel)
theorem dX4_spread_101 : decode cX4_spread 101 = .ok (.getfield 33, 3) := dcU2 dO_180 (by decide +kernel)
theorem dX4_spread_104 : decode cX4_spread 104 = .ok (.iload 4, 2) := dcU1 dO_21 (by decide +kernel)
theorem dX4_spread_106 : decode cX4_spread 106 = .ok (.iaload, 1) := dc0 dO_46 (by decide +kernel)
theorem dX4_spread_107 : decode cX4_spread 107 = .ok (.dup2, 1) := dc0 dO_92 (by decide +kernel)
theorem dX4_spread_108 : decode cX4_spread 108 = .ok (.baload, 1) := dc0 dO_51 (by decide +kernel)
theorem dX4_spread_109 : decode cX4_spread 109 = .ok (.iconst 2, 1) := dc0 dO_5 (by decide +kernel)
theorem dX4_spread_110 : decode cX4_spread 110 = .ok (.ior, 1) := dc0 dO_128 (by decide +kernel)
theorem dX4_spread_111 : decode cX4_spread 111 = .ok (.i2b, 1) := dc0 dO_145 (by decide +kernel)
theorem dX4_spread_112 : decode cX4_spread 112 = .ok (.bastore, 1) := dc0 dO_84 (by decide +kernel)
theorem dX4_spread_113 : decode cX4_spread 113 = .ok (.aload_n 0, 1) := dc0 dO_42 (by decide +kernel)
theorem dX4_spread_114 : decode cX4_spread 114 = .ok (.getfield 43, 3) := dcU2 dO_180 (by decide +kernel)
theorem dX4_spread_117 : decode cX4_spread 117 = .ok (.iconst 1, 1) := dc0 dO_4 (by decide +kernel)
theorem dX4_spread_118 : decode cX4_spread 118 = .ok (.dup2, 1) := dc0 dO_92 (by decide +kernel)
theorem dX4_spread_119 : decode cX4_spread 119 = .ok (.iaload, 1) := dc0 dO_46 (by decide +kernel)
theorem dX4_spread_120 : decode cX4_spread 120 = .ok (.iconst 1, 1) := dc0 dO_4 (by decide +kernel)
theorem dX4_spread_121 : decode cX4_spread 121 = .ok (.iadd, 1) := dc0 dO_96 (by decide +kernel)
theorem dX4_spread_122 : decode cX4_spread 122 = .ok (.iastore, 1) := dc0 dO_79 (by decide +kernel)
theorem dX4_spread_123 : decode cX4_spread 123 = .ok (.aload_n 0, 1) := dc0 dO_42 (by decide +kernel)
theorem dX4_spread_124 : decode cX4_spread 124 = .ok (.getfield 43, 3) := dcU2 dO_180 (by decide +kernel)
theorem dX4_spread_127 : decode cX4_spread 127 = .ok (.iconst 3, 1) := dc0 dO_6 (by decide +kernel)
theorem sfx_cX4_spread_128 : (cX4_spread.data.toList.drop 128).take 67 = [42, 180, 0, 43, 6, 46, 18, 123, 160, 0, 7, 28, 167, 0, 9, 42, 180, 0, 43, 6, 46, 79, 132, 4, 1, 167, 255, 151, 27, 172] := by decide +kernel
theorem dX4_spread_128 : decode cX4_spread 128 = .ok (.aload_n 0, 1) := dc0 dO_42 (rdB.ch sfx_cX4_spread_128 0 rfl (by decide +kernel))
theorem dX4_spread_129 : decode cX4_spread 129 = .ok (.getfield 43, 3) := dcU2 dO_180 (rdU2.ch sfx_cX4_spread_128 1 rfl (by decide +kernel))
theorem dX4_spread_132 : decode cX4_spread 132 = .ok (.iconst 3, 1) := dc0 dO_6 (rdB.ch sfx_cX4_spread_128 4 rfl (by decide +kernel))
theorem dX4_spread_133 : decode cX4_spread 133 = .ok (.iaload, 1) := dc0 dO_46 (rdB.ch sfx_cX4_spread_128 5 rfl (by decide +kernel))
theorem dX4_spread_134 : decode cX4_spread 134 = .ok (.ldc 123, 2) := dcU1 dO_18 (rdU1.ch sfx_cX4_spread_128 6 rfl (by decide +kernel))
theorem dX4_spread_136 : decode cX4_spread 136 = .ok (.if_icmp .ne 7, 3) := dcS2 dO_160 (rdS2.ch sfx_cX4_spread_128 8 rfl (by decide +kernel))
theorem dX4_spread_139 : decode cX4_spread 139 = .ok (.iload_n 2, 1) := dc0 dO_28 (rdB.ch sfx_cX4_spread_128 11 rfl (by decide +kernel))
theorem dX4_spread_140 : decode cX4_spread 140 = .ok (.goto 9, 3) := dcS2 dO_167 (rdS2.ch sfx_cX4_spread_128 12 rfl (by decide +kernel))
theorem dX4_spread_143 : decode cX4_spread 143 = .ok (.aload_n 0, 1) := dc0 dO_42 (rdB.ch sfx_cX4_spread_128 15 rfl (by decide +kernel))
theorem dX4_spread_144 : decode cX4_spread 144 = .ok (.getfield 43, 3) := dcU2 dO_180 (rdU2.ch sfx_cX4_spread_128 16 rfl (by decide +kernel))
theorem dX4_spread_147 : decode cX4_spread 147 = .ok (.iconst 3, 1) := dc0 dO_6 (rdB.ch sfx_cX4_spread_128 19 rfl (by decide +kernel))
theorem dX4_spread_148 : decode cX4_spread 148 = .ok (.iaload, 1) := dc0 dO_46 (rdB.ch sfx_cX4_spread_128 20 rfl (by decide +kernel))
theorem dX4_spread_149 : decode cX4_spread 149 = .ok (.iastore, 1) := dc0 dO_79 (rdB.ch sfx_cX4_spread_128 21 rfl (by decide +kernel))
theorem dX4_spread_150 : decode cX4_spread 150 = .ok (.iinc 4 1, 3) := dcI dO_132 (rdI.ch sfx_cX4_spread_128 22 rfl (by decide +kernel))
theorem dX4_spread_153 : decode cX4_spread 153 = .ok (.goto (-105), 3) := dcS2 dO_167 (rdS2.ch sfx_cX4_spread_128 25 rfl (by decide +kernel))
theorem dX4_spread_156 : decode cX4_spread 156 = .ok (.iload_n 1, 1) := dc0 dO_27 (rdB.ch sfx_cX4_spread_128 28 rfl (by decide +kernel))
theorem dX4_spread_157 : decode cX4_spread 157 = .ok (.ireturn, 1) := dc0 dO_172 (rdB.ch sfx_cX4_spread_128 29 rfl (by decide +kernel))
theorem dX4_wayInRest_0 : decode cX4_wayInRest 0 = .ok (.aload_n 0, 1) := dc0 dO_42 (by decide +kernel)
theorem dX4_wayInRest_1 : decode cX4_wayInRest 1 = .ok (.aload_n 0, 1) := dc0 dO_42 (by decide +kernel)
theorem dX4_wayInRest_2 : decode cX4_wayInRest 2 = .ok (.getfield 36, 3) := dcU2 dO_180 (by decide +kernel)
theorem dX4_wayInRest_5 : decode cX4_wayInRest 5 = .ok (.iload_n 1, 1) := dc0 dO_27 (by decide +kernel)
theorem dX4_wayInRest_6 : decode cX4_wayInRest 6 = .ok (.iaload, 1) := dc0 dO_46 (by decide +kernel)
theorem dX4_wayInRest_7 : decode cX4_wayInRest 7 = .ok (.iload_n 2, 1) := dc0 dO_28 (by decide +kernel)
theorem dX4_wayInRest_8 : decode cX4_wayInRest 8 = .ok (.invokevirtual 75, 3) := dcU2 dO_182 (by decide +kernel)
theorem dX4_wayInRest_11 : decode cX4_wayInRest 11 = .ok (.istore_n 3, 1) := dc0 dO_62 (by decide +kernel)
theorem dX4_wayInRest_12 : decode cX4_wayInRest 12 = .ok (.iload_n 3, 1) := dc0 dO_29 (by decide +kernel)
theorem dX4_wayInRest_13 : decode cX4_wayInRest 13 = .ok (.aload_n 0, 1) := dc0 dO_42 (by decide +kernel)
theorem dX4_wayInRest_14 : decode cX4_wayInRest 14 = .ok (.getfield 11, 3) := dcU2 dO_180 (by decide +kernel)
theorem dX4_wayInRest_17 : decode cX4_wayInRest 17 = .ok (.iload_n 2, 1) := dc0 dO_28 (by decide +kernel)
theorem dX4_wayInRest_18 : decode cX4_wayInRest 18 = .ok (.iaload, 1) := dc0 dO_46 (by decide +kernel)
theorem dX4_wayInRest_19 : decode cX4_wayInRest 19 = .ok (.if_icmp .ne 8, 3) := dcS2 dO_160 (by decide +kernel)
theorem dX4_wayInRest_22 : decode cX4_wayInRest 22 = .ok (.bipush (-4), 2) := dcS1 dO_16 (by decide +kernel)
theorem dX4_wayInRest_24 : decode cX4_wayInRest 24 = .ok (.goto 4, 3) := dcS2 dO_167 (by decide +kernel)
theorem dX4_wayInRest_27 : decode cX4_wayInRest 27 = .ok (.iload_n 3, 1) := dc0 dO_29 (by decide +kernel)
theorem dX4_wayInRest_28 : decode cX4_wayInRest 28 = .ok (.ireturn, 1) := dc0 dO_172 (by decide +kernel)
end
section
theorem vc_X4_find_w_8 {p2 p3 z377 : Int} (h0 : z377 < p3) (h1 : p2 + p3 ≤ 245) (h2 : 0 ≤ p2 ∧ p2 ≤ 244) (h3 : (-1) ≤ p3 ∧ p3 ≤ 7) (h4 : 0 ≤ z377 ∧ z377 ≤ 7) : 0 ≤ z377 ∧ z377 ≤ 6 := by omega
theorem vc_X4_find_w_9 {p2 p3 z377 : Int} (h0 : z377 < p3) (h1 : p2 + p3 ≤ 245) (h2 : 0 ≤ p2 ∧ p2 ≤ 244) (h3 : (-1) ≤ p3 ∧ p3 ≤ 7) (h4 : 0 ≤ z377 ∧ z377 ≤ 6) : 1 ≤ p3 ∧ p3 ≤ 7 := by omega
theorem vc_X4_find_w_11 {p2 p3 z377 : Int} (h0 : p2 + p3 ≤ 245) (h1 : z377 < p3) (h2 : 0 ≤ p2 ∧ p2 ≤ 244) (h3 : 1 ≤ p3 ∧ p3 ≤ 7) (h4 : 0 ≤ z377 ∧ z377 ≤ 6) : 0 ≤ (p2 + z377) ∧ (p2 + z377) < 245 := by omega
theorem vc_X4_find_w_12 {N p2 p3 z377 : Int} (h0 : (8 - z377) < N + 1) (h1 : z377 < p3) (h2 : p2 + p3 ≤ 245) (h3 : 0 ≤ p2 ∧ p2 ≤ 244) (h4 : 1 ≤ p3 ∧ p3 ≤ 7) (h5 : 0 ≤ z377 ∧ z377 ≤ 6) : (8 - (z377 + 1)) < N := by omega
theorem vc_X4_find_w_14 {p2 p3 z258 : Int} (h0 : z258 = p3) (h1 : p2 + p3 ≤ 245) (h2 : 0 ≤ p2 ∧ p2 ≤ 244) (h3 : (-1) ≤ p3 ∧ p3 ≤ 7) (h4 : 0 ≤ z258 ∧ z258 ≤ 7) : 0 ≤ p3 ∧ p3 ≤ 7 := by omega
set_option maxRecDepth 4000 in
set_option maxHeartbeats 4000000 in
theorem c_X4_find_w {l : Launch} {D : va_G} {c : Nat → ClassId} {H0 : Heap} {sa : Nat × Nat × (Nat → Int32)} {w : mW} {μ : mM} (hw : mWF w) (hT : mT w μ) (hA1 : mAt w 96 96) {p2 : Int} (hp2 : 0 ≤ p2 ∧ p2 ≤ 244) {p3 : Int} (hp3 : (-1) ≤ p3 ∧ p3 ≤ 7) (hq0 : p2 + p3 ≤ 245) : sC (gG l D c H0 sa) mX4_find 1 0 0 [.ref 94, .ref 96, iv p2, iv p3] (mk w μ) (qP w μ (fun z => ((-1) ≤ z ∧ z ≤ 4) ∧ True)) := by
  refine sC.of rfl (by decide) (le_t rfl) ?_
  refine mr_lvE (lv' := [(0, .ref 94), (1, .ref 96), (2, iv p2), (3, iv p3)]) rfl ?_
  refine sv_aload_n (pc := 0) dX4_find_0 rfl rfl ?_
  refine mr_iload_n (pc := 1) (z := p2) dX4_find_1 rfl rfl ?_
  refine la_96 (pc := 2) dX4_find_2 (A_96 hw) hT (rIx (n := 245) hp2 rfl) fun z1 q2 h3 => ?_
  refine mr_istore (pc := 3) (lv' := [(4, iv z1), (0, .ref 94), (1, .ref 96), (2, iv p2), (3, iv p3)]) dX4_find_3 (by decide) rfl ?_
  refine mr_iconst (pc := 5) (z := 0) dX4_find_5 ?_
  refine mr_istore (pc := 6) (lv' := [(5, iv 0), (4, iv z1), (0, .ref 94), (1, .ref 96), (2, iv p2), (3, iv p3)]) dX4_find_6 (by decide) rfl ?_
  have L245 : ∀ (nL245 : Nat) (z244 : Int), True → (0 ≤ z244 ∧ z244 ≤ 5) → (6 - z244) < (nL245 : Int) → sV (gG l D c H0 sa) mX4_find (sRm 1 0 0) (sZ (gG l D c H0 sa) 0 0 (qP w μ (fun z => ((-1) ≤ z ∧ z ≤ 4) ∧ True))) 8 [(0, .ref 94), (1, .ref 96), (2, iv p2), (3, iv p3), (4, iv z1), (5, iv z244)] [] (mk w μ) 0 0 := by
    intro nL245
    induction nL245 with
    | zero => intro z244 _ h246 h250; exact ((vc_X12_acted_1 h250 h246)).elim
    | succ nL245 ih251 =>
      intro z244 _ h246 h250
      refine mr_iload (pc := 8) (z := z244) dX4_find_8 rfl ?_
      refine sv_aload_n (pc := 10) dX4_find_10 rfl rfl ?_
      refine gf_X4_12 (pc := 11) dX4_find_11 wF_X4_11 (A_94 hw) hT ?_
      refine mr_iload (pc := 14) (z := z1) dX4_find_14 rfl ?_
      refine la_95 (pc := 16) dX4_find_16 (A_95 hw) hT (rIx (n := 7) h3 rfl) fun z252 q253 h254 => ?_
      refine mr_icmp_ge (pc := 17) (tgt := 110) dX4_find_17 (by decide) (r32 h246 rfl) (r32 h254 rfl) (fun h255 => ?_) (fun h255 => ?_)
      · refine mr_iconst (pc := 110) (z := (-1)) dX4_find_110 ?_
        exact mr_iretP dX4_find_111 rfl (le_t rfl) (le_t rfl) ⟨(rW (c := (-1)) (d := 4) (rR (x := (-1))) rfl), trivial⟩
      have h256 : 0 ≤ z244 ∧ z244 ≤ 4 := (vc_X12_acted_2 h255 h246 h254)
      have h257 : 1 ≤ z252 ∧ z252 ≤ 5 := (vc_X12_acted_3 h255 h256 h254)
      refine mr_iload (pc := 20) (z := z1) dX4_find_20 rfl ?_
      refine mr_iconst (pc := 22) (z := 5) dX4_find_22 ?_
      refine mr_imul (pc := 23) (x := z1) (y := 5) dX4_find_23 ?_
      refine mr_iload (pc := 24) (z := z244) dX4_find_24 rfl ?_
      refine mr_iadd (pc := 26) (x := (z1 * 5)) (y := z244) dX4_find_26 ?_
      refine mr_istore (pc := 27) (lv' := [(6, iv ((z1 * 5) + z244)), (0, .ref 94), (1, .ref 96), (2, iv p2), (3, iv p3), (4, iv z1), (5, iv z244)]) dX4_find_27 (by decide) rfl ?_
      refine sv_aload_n (pc := 29) dX4_find_29 rfl rfl ?_
      refine gf_X4_1 (pc := 30) dX4_find_30 wF_X4_18 (A_94 hw) hT ?_
      refine mr_iload (pc := 33) (z := ((z1 * 5) + z244)) dX4_find_33 rfl ?_
      refine la_97 (pc := 35) dX4_find_35 (A_97 hw) hT (rIx (n := 35) (rAdd (e := 0) (f := 34) (rMulR (n := 5) (e := 0) (f := 30) h3 rfl) h256 rfl) rfl) fun z258 q259 h260 => ?_
      refine mr_iload_n (pc := 36) (z := p3) dX4_find_36 rfl rfl ?_
      have J264 : ∀ (z262 : Int), ((0 ≤ z262 ∧ z262 ≤ 1)) → sV (gG l D c H0 sa) mX4_find (sRm 1 0 0) (sZ (gG l D c H0 sa) 0 0 (qP w μ (fun z => ((-1) ≤ z ∧ z ≤ 4) ∧ True))) 45 [(0, .ref 94), (1, .ref 96), (2, iv p2), (3, iv p3), (4, iv z1), (5, iv z244), (6, iv ((z1 * 5) + z244))] [iv z262] (mk w μ) 0 0 := by
        intro z262 h263
        refine mr_istore (pc := 45) (lv' := [(7, iv z262), (0, .ref 94), (1, .ref 96), (2, iv p2), (3, iv p3), (4, iv z1), (5, iv z244), (6, iv ((z1 * 5) + z244))]) dX4_find_45 (by decide) rfl ?_
        refine mr_iconst (pc := 47) (z := 0) dX4_find_47 ?_
        refine mr_istore (pc := 48) (lv' := [(8, iv 0), (7, iv z262), (0, .ref 94), (1, .ref 96), (2, iv p2), (3, iv p3), (4, iv z1), (5, iv z244), (6, iv ((z1 * 5) + z244))]) dX4_find_48 (by decide) rfl ?_
        have L379 : ∀ (nL379 : Nat) (z378 z377 : Int), True → (0 ≤ z378 ∧ z378 ≤ 1) → (0 ≤ z377 ∧ z377 ≤ 7) → (8 - z377) < (nL379 : Int) → sV (gG l D c H0 sa) mX4_find (sRm 1 0 0) (sZ (gG l D c H0 sa) 0 0 (qP w μ (fun z => ((-1) ≤ z ∧ z ≤ 4) ∧ True))) 50 [(0, .ref 94), (1, .ref 96), (2, iv p2), (3, iv p3), (4, iv z1), (5, iv z244), (6, iv ((z1 * 5) + z244)), (7, iv z378), (8, iv z377)] [] (mk w μ) 0 0 := by
          intro nL379
          induction nL379 with
          | zero => intro z378 z377 _ h380 h381 h385; exact ((vc_X12_isWished_2 h385 h381)).elim
          | succ nL379 ih386 =>
            intro z378 z377 _ h380 h381 h385
            refine mr_iload (pc := 50) (z := z377) dX4_find_50 rfl ?_
            refine mr_iload_n (pc := 52) (z := p3) dX4_find_52 rfl rfl ?_
            refine mr_icmp_ge (pc := 53) (tgt := 96) dX4_find_53 (by decide) (r32 h381 rfl) (r32 hp3 rfl) (fun h397 => ?_) (fun h397 => ?_)
            · refine mr_iload (pc := 96) (z := z378) dX4_find_96 rfl ?_
              refine mr_if_eq (pc := 98) (tgt := 104) dX4_find_98 (by decide) (r32 h380 rfl) (fun h398 => ?_) (fun h398 => ?_)
              · have h399 : 0 ≤ z378 ∧ z378 ≤ 0 := (vc_X12_ring_22 h398 h380)
                refine mr_iinc (pc := 104) (lv' := [(5, iv (z244 + 1)), (0, .ref 94), (1, .ref 96), (2, iv p2), (3, iv p3), (4, iv z1), (6, iv ((z1 * 5) + z244)), (7, iv z378), (8, iv z377)]) dX4_find_104 rfl (by decide) rfl ?_
                refine sv_goto (pc := 107) (tgt := 8) dX4_find_107 (by decide) ?_
                refine mr_lvS (lv' := [(0, .ref 94), (1, .ref 96), (2, iv p2), (3, iv p3), (4, iv z1), (5, iv (z244 + 1))]) (List.forall_mem_cons.mpr ⟨rfl, List.forall_mem_cons.mpr ⟨rfl, List.forall_mem_cons.mpr ⟨rfl, List.forall_mem_cons.mpr ⟨rfl, List.forall_mem_cons.mpr ⟨rfl, List.forall_mem_cons.mpr ⟨rfl, fun _ h => absurd h List.not_mem_nil⟩⟩⟩⟩⟩⟩) ?_
                exact ih251 (z244 + 1) trivial (rW (c := 0) (d := 5) (rAdd (e := 1) (f := 5) h256 (rR (x := 1)) rfl) rfl) (vc_X12_acted_11 (nS h250) h255 h256 h257)
              have h400 : 1 ≤ z378 ∧ z378 ≤ 1 := (vc_X12_ring_24 h398 h380)
              refine mr_iload (pc := 101) (z := z244) dX4_find_101 rfl ?_
              exact mr_iretP dX4_find_103 rfl (le_t rfl) (le_t rfl) ⟨(rW (c := (-1)) (d := 4) h256 rfl), trivial⟩
            have h401 : 0 ≤ z377 ∧ z377 ≤ 6 := (vc_X4_find_w_8 h397 hq0 hp2 hp3 h381)
            have h402 : 1 ≤ p3 ∧ p3 ≤ 7 := (vc_X4_find_w_9 h397 hq0 hp2 hp3 h401)
            refine mr_iload (pc := 56) (z := z378) dX4_find_56 rfl ?_
            refine mr_if_eq (pc := 58) (tgt := 96) dX4_find_58 (by decide) (r32 h380 rfl) (fun h411 => ?_) (fun h411 => ?_)
            · have h412 : 0 ≤ z378 ∧ z378 ≤ 0 := (vc_X12_ring_22 h411 h380)
              refine mr_iload (pc := 96) (z := z378) dX4_find_96 rfl ?_
              refine mr_if_eq (pc := 98) (tgt := 104) dX4_find_98 (by decide) (r32 h412 rfl) (fun _ => ?_) (fun h => ((vc_X10_firstWrongStep_7 h h412)).elim)
              refine mr_iinc (pc := 104) (lv' := [(5, iv (z244 + 1)), (0, .ref 94), (1, .ref 96), (2, iv p2), (3, iv p3), (4, iv z1), (6, iv ((z1 * 5) + z244)), (7, iv z378), (8, iv z377)]) dX4_find_104 rfl (by decide) rfl ?_
              refine sv_goto (pc := 107) (tgt := 8) dX4_find_107 (by decide) ?_
              refine mr_lvS (lv' := [(0, .ref 94), (1, .ref 96), (2, iv p2), (3, iv p3), (4, iv z1), (5, iv (z244 + 1))]) (List.forall_mem_cons.mpr ⟨rfl, List.forall_mem_cons.mpr ⟨rfl, List.forall_mem_cons.mpr ⟨rfl, List.forall_mem_cons.mpr ⟨rfl, List.forall_mem_cons.mpr ⟨rfl, List.forall_mem_cons.mpr ⟨rfl, fun _ h => absurd h List.not_mem_nil⟩⟩⟩⟩⟩⟩) ?_
              exact ih251 (z244 + 1) trivial (rW (c := 0) (d := 5) (rAdd (e := 1) (f := 5) h256 (rR (x := 1)) rfl) rfl) (vc_X12_acted_11 (nS h250) h255 h256 h257)
            have h413 : 1 ≤ z378 ∧ z378 ≤ 1 := (vc_X12_ring_24 h411 h380)
            refine sv_aload_n (pc := 61) dX4_find_61 rfl rfl ?_
            refine gf_X4_0 (pc := 62) dX4_find_62 wF_X4_15 (A_94 hw) hT ?_
            refine mr_iload (pc := 65) (z := ((z1 * 5) + z244)) dX4_find_65 rfl ?_
            refine mr_bipush (pc := 67) (z := 7) dX4_find_67 (by decide) ?_
            refine mr_imul (pc := 69) (x := ((z1 * 5) + z244)) (y := 7) dX4_find_69 ?_
            refine mr_iload (pc := 70) (z := z377) dX4_find_70 rfl ?_
            refine mr_iadd (pc := 72) (x := (((z1 * 5) + z244) * 7)) (y := z377) dX4_find_72 ?_
            refine la_96 (pc := 73) dX4_find_73 (A_96 hw) hT (rIx (n := 245) (rAdd (e := 0) (f := 244) (rMulR (n := 7) (e := 0) (f := 238) (rAdd (e := 0) (f := 34) (rMulR (n := 5) (e := 0) (f := 30) h3 rfl) h256 rfl) rfl) h401 rfl) rfl) fun z414 q415 h416 => ?_
            refine sv_aload_n (pc := 74) dX4_find_74 rfl rfl ?_
            refine mr_iload_n (pc := 75) (z := p2) dX4_find_75 rfl rfl ?_
            refine mr_iload (pc := 76) (z := z377) dX4_find_76 rfl ?_
            refine mr_iadd (pc := 78) (x := p2) (y := z377) dX4_find_78 ?_
            refine la_96 (pc := 79) dX4_find_79 (A_96 hw) hT (vc_X4_find_w_11 hq0 h397 hp2 h402 h401) fun z417 q418 h419 => ?_
            refine mr_icmp_ne (pc := 80) (tgt := 87) dX4_find_80 (by decide) (r32 h416 rfl) (r32 h419 rfl) (fun h420 => ?_) (fun h420 => ?_)
            · refine mr_iconst (pc := 87) (z := 0) dX4_find_87 ?_
              refine mr_istore (pc := 88) (lv' := [(7, iv 0), (0, .ref 94), (1, .ref 96), (2, iv p2), (3, iv p3), (4, iv z1), (5, iv z244), (6, iv ((z1 * 5) + z244)), (8, iv z377)]) dX4_find_88 (by decide) rfl ?_
              refine mr_iinc (pc := 90) (lv' := [(8, iv (z377 + 1)), (7, iv 0), (0, .ref 94), (1, .ref 96), (2, iv p2), (3, iv p3), (4, iv z1), (5, iv z244), (6, iv ((z1 * 5) + z244))]) dX4_find_90 rfl (by decide) rfl ?_
              refine sv_goto (pc := 93) (tgt := 50) dX4_find_93 (by decide) ?_
              refine mr_lvS (lv' := [(0, .ref 94), (1, .ref 96), (2, iv p2), (3, iv p3), (4, iv z1), (5, iv z244), (6, iv ((z1 * 5) + z244)), (7, iv 0), (8, iv (z377 + 1))]) (List.forall_mem_cons.mpr ⟨rfl, List.forall_mem_cons.mpr ⟨rfl, List.forall_mem_cons.mpr ⟨rfl, List.forall_mem_cons.mpr ⟨rfl, List.forall_mem_cons.mpr ⟨rfl, List.forall_mem_cons.mpr ⟨rfl, List.forall_mem_cons.mpr ⟨rfl, List.forall_mem_cons.mpr ⟨rfl, List.forall_mem_cons.mpr ⟨rfl, fun _ h => absurd h List.not_mem_nil⟩⟩⟩⟩⟩⟩⟩⟩⟩) ?_
              exact ih386 0 (z377 + 1) trivial (rW (c := 0) (d := 1) (rR (x := 0)) rfl) (rW (c := 0) (d := 7) (rAdd (e := 1) (f := 7) h401 (rR (x := 1)) rfl) rfl) (vc_X4_find_w_12 (nS h385) h397 hq0 hp2 h402 h401)
            refine mr_iconst (pc := 83) (z := 1) dX4_find_83 ?_
            refine sv_goto (pc := 84) (tgt := 88) dX4_find_84 (by decide) ?_
            refine mr_istore (pc := 88) (lv' := [(7, iv 1), (0, .ref 94), (1, .ref 96), (2, iv p2), (3, iv p3), (4, iv z1), (5, iv z244), (6, iv ((z1 * 5) + z244)), (8, iv z377)]) dX4_find_88 (by decide) rfl ?_
            refine mr_iinc (pc := 90) (lv' := [(8, iv (z377 + 1)), (7, iv 1), (0, .ref 94), (1, .ref 96), (2, iv p2), (3, iv p3), (4, iv z1), (5, iv z244), (6, iv ((z1 * 5) + z244))]) dX4_find_90 rfl (by decide) rfl ?_
            refine sv_goto (pc := 93) (tgt := 50) dX4_find_93 (by decide) ?_
            refine mr_lvS (lv' := [(0, .ref 94), (1, .ref 96), (2, iv p2), (3, iv p3), (4, iv z1), (5, iv z244), (6, iv ((z1 * 5) + z244)), (7, iv 1), (8, iv (z377 + 1))]) (List.forall_mem_cons.mpr ⟨rfl, List.forall_mem_cons.mpr ⟨rfl, List.forall_mem_cons.mpr ⟨rfl, List.forall_mem_cons.mpr ⟨rfl, List.forall_mem_cons.mpr ⟨rfl, List.forall_mem_cons.mpr ⟨rfl, List.forall_mem_cons.mpr ⟨rfl, List.forall_mem_cons.mpr ⟨rfl, List.forall_mem_cons.mpr ⟨rfl, fun _ h => absurd h List.not_mem_nil⟩⟩⟩⟩⟩⟩⟩⟩⟩) ?_
            exact ih386 1 (z377 + 1) trivial (rW (c := 0) (d := 1) (rR (x := 1)) rfl) (rW (c := 0) (d := 7) (rAdd (e := 1) (f := 7) h401 (rR (x := 1)) rfl) rfl) (vc_X4_find_w_12 (nS h385) h397 hq0 hp2 h402 h401)
        refine mr_lvS (lv' := [(0, .ref 94), (1, .ref 96), (2, iv p2), (3, iv p3), (4, iv z1), (5, iv z244), (6, iv ((z1 * 5) + z244)), (7, iv z262), (8, iv 0)]) (List.forall_mem_cons.mpr ⟨rfl, List.forall_mem_cons.mpr ⟨rfl, List.forall_mem_cons.mpr ⟨rfl, List.forall_mem_cons.mpr ⟨rfl, List.forall_mem_cons.mpr ⟨rfl, List.forall_mem_cons.mpr ⟨rfl, List.forall_mem_cons.mpr ⟨rfl, List.forall_mem_cons.mpr ⟨rfl, List.forall_mem_cons.mpr ⟨rfl, fun _ h => absurd h List.not_mem_nil⟩⟩⟩⟩⟩⟩⟩⟩⟩) ?_
        exact L379 9 z262 0 trivial h263 (rW (c := 0) (d := 7) (rR (x := 0)) rfl) vc_X12_isWished_9
      refine mr_icmp_ne (pc := 37) (tgt := 44) dX4_find_37 (by decide) (r32 h260 rfl) (r32 hp3 rfl) (fun h421 => ?_) (fun h421 => ?_)
      · refine mr_iconst (pc := 44) (z := 0) dX4_find_44 ?_
        refine mr_lvS (lv' := [(0, .ref 94), (1, .ref 96), (2, iv p2), (3, iv p3), (4, iv z1), (5, iv z244), (6, iv ((z1 * 5) + z244))]) (List.forall_mem_cons.mpr ⟨rfl, List.forall_mem_cons.mpr ⟨rfl, List.forall_mem_cons.mpr ⟨rfl, List.forall_mem_cons.mpr ⟨rfl, List.forall_mem_cons.mpr ⟨rfl, List.forall_mem_cons.mpr ⟨rfl, List.forall_mem_cons.mpr ⟨rfl, fun _ h => absurd h List.not_mem_nil⟩⟩⟩⟩⟩⟩⟩) ?_
        exact J264 0 (rW (c := 0) (d := 1) (rR (x := 0)) rfl)
      have h422 : 0 ≤ p3 ∧ p3 ≤ 7 := (vc_X4_find_w_14 h421 hq0 hp2 hp3 h260)
      refine mr_iconst (pc := 40) (z := 1) dX4_find_40 ?_
      refine sv_goto (pc := 41) (tgt := 45) dX4_find_41 (by decide) ?_
      refine mr_lvS (lv' := [(0, .ref 94), (1, .ref 96), (2, iv p2), (3, iv p3), (4, iv z1), (5, iv z244), (6, iv ((z1 * 5) + z244))]) (List.forall_mem_cons.mpr ⟨rfl, List.forall_mem_cons.mpr ⟨rfl, List.forall_mem_cons.mpr ⟨rfl, List.forall_mem_cons.mpr ⟨rfl, List.forall_mem_cons.mpr ⟨rfl, List.forall_mem_cons.mpr ⟨rfl, List.forall_mem_cons.mpr ⟨rfl, fun _ h => absurd h List.not_mem_nil⟩⟩⟩⟩⟩⟩⟩) ?_
      exact J264 1 (rW (c := 0) (d := 1) (rR (x := 1)) rfl)
  refine mr_lvS (lv' := [(0, .ref 94), (1, .ref 96), (2, iv p2), (3, iv p3), (4, iv z1), (5, iv 0)]) (List.forall_mem_cons.mpr ⟨rfl, List.forall_mem_cons.mpr ⟨rfl, List.forall_mem_cons.mpr ⟨rfl, List.forall_mem_cons.mpr ⟨rfl, List.forall_mem_cons.mpr ⟨rfl, List.forall_mem_cons.mpr ⟨rfl, fun _ h => absurd h List.not_mem_nil⟩⟩⟩⟩⟩⟩) ?_
  exact L245 7 0 trivial (rW (c := 0) (d := 5) (rR (x := 0)) rfl) vc_X12_acted_13
set_option maxRecDepth 4000 in
set_option maxHeartbeats 4000000 in
theorem c_X4_find_h {l : Launch} {D : va_G} {c : Nat → ClassId} {H0 : Heap} {sa : Nat × Nat × (Nat → Int32)} {w : mW} {μ : mM} (hw : mWF w) (hT : mT w μ) (hA1 : mAt w 2 2) {p2 : Int} (hp2 : 0 ≤ p2 ∧ p2 ≤ 0) {p3 : Int} (hp3 : 0 ≤ p3 ∧ p3 ≤ 7) {f_p : Int} (q_f_p : μ 2 (p2.toNat) = f_p) (hq0 : f_p ≤ 6) : sC (gG l D c H0 sa) mX4_find 1 0 0 [.ref 94, .ref 2, iv p2, iv p3] (mk w μ) (qP w μ (fun z => ((-1) ≤ z ∧ z ≤ 4) ∧ True)) := by
  refine sC.of rfl (by decide) (le_t rfl) ?_
  have ht_f_p : (0 ≤ f_p ∧ f_p ≤ 9) := by rw [← q_f_p]; exact hT 2 2 (A_2 hw) (p2.toNat)
  have h1 : 0 ≤ f_p ∧ f_p ≤ 6 := (vc_X12_wish_34 hq0 ht_f_p)
  refine mr_lvE (lv' := [(0, .ref 94), (1, .ref 2), (2, iv p2), (3, iv p3)]) rfl ?_
  refine sv_aload_n (pc := 0) dX4_find_0 rfl rfl ?_
  refine mr_iload_n (pc := 1) (z := p2) dX4_find_1 rfl rfl ?_
  refine lk_2 (pc := 2) dX4_find_2 (A_2 hw) (rIx (n := 20) hp2 rfl) q_f_p ?_
  refine mr_istore (pc := 3) (lv' := [(4, iv f_p), (0, .ref 94), (1, .ref 2), (2, iv p2), (3, iv p3)]) dX4_find_3 (by decide) rfl ?_
  refine mr_iconst (pc := 5) (z := 0) dX4_find_5 ?_
  refine mr_istore (pc := 6) (lv' := [(5, iv 0), (4, iv f_p), (0, .ref 94), (1, .ref 2), (2, iv p2), (3, iv p3)]) dX4_find_6 (by decide) rfl ?_
  have L749 : ∀ (nL749 : Nat) (z748 : Int), True → (0 ≤ z748 ∧ z748 ≤ 5) → (6 - z748) < (nL749 : Int) → sV (gG l D c H0 sa) mX4_find (sRm 1 0 0) (sZ (gG l D c H0 sa) 0 0 (qP w μ (fun z => ((-1) ≤ z ∧ z ≤ 4) ∧ True))) 8 [(0, .ref 94), (1, .ref 2), (2, iv p2), (3, iv p3), (4, iv f_p), (5, iv z748)] [] (mk w μ) 0 0 := by
    intro nL749
    induction nL749 with
    | zero => intro z748 _ h750 h754; exact ((vc_X12_acted_1 h754 h750)).elim
    | succ nL749 ih755 =>
      intro z748 _ h750 h754
      refine mr_iload (pc := 8) (z := z748) dX4_find_8 rfl ?_
      refine sv_aload_n (pc := 10) dX4_find_10 rfl rfl ?_
      refine gf_X4_12 (pc := 11) dX4_find_11 wF_X4_11 (A_94 hw) hT ?_
      refine mr_iload (pc := 14) (z := f_p) dX4_find_14 rfl ?_
      refine la_95 (pc := 16) dX4_find_16 (A_95 hw) hT (rIx (n := 7) h1 rfl) fun z756 q757 h758 => ?_
      refine mr_icmp_ge (pc := 17) (tgt := 110) dX4_find_17 (by decide) (r32 h750 rfl) (r32 h758 rfl) (fun h759 => ?_) (fun h759 => ?_)
      · refine mr_iconst (pc := 110) (z := (-1)) dX4_find_110 ?_
        exact mr_iretP dX4_find_111 rfl (le_t rfl) (le_t rfl) ⟨(rW (c := (-1)) (d := 4) (rR (x := (-1))) rfl), trivial⟩
      have h760 : 0 ≤ z748 ∧ z748 ≤ 4 := (vc_X12_acted_2 h759 h750 h758)
      have h761 : 1 ≤ z756 ∧ z756 ≤ 5 := (vc_X12_acted_3 h759 h760 h758)
      refine mr_iload (pc := 20) (z := f_p) dX4_find_20 rfl ?_
      refine mr_iconst (pc := 22) (z := 5) dX4_find_22 ?_
      refine mr_imul (pc := 23) (x := f_p) (y := 5) dX4_find_23 ?_
      refine mr_iload (pc := 24) (z := z748) dX4_find_24 rfl ?_
      refine mr_iadd (pc := 26) (x := (f_p * 5)) (y := z748) dX4_find_26 ?_
      refine mr_istore (pc := 27) (lv' := [(6, iv ((f_p * 5) + z748)), (0, .ref 94), (1, .ref 2), (2, iv p2), (3, iv p3), (4, iv f_p), (5, iv z748)]) dX4_find_27 (by decide) rfl ?_
      refine sv_aload_n (pc := 29) dX4_find_29 rfl rfl ?_
      refine gf_X4_1 (pc := 30) dX4_find_30 wF_X4_18 (A_94 hw) hT ?_
      refine mr_iload (pc := 33) (z := ((f_p * 5) + z748)) dX4_find_33 rfl ?_
      refine la_97 (pc := 35) dX4_find_35 (A_97 hw) hT (rIx (n := 35) (rAdd (e := 0) (f := 34) (rMulR (n := 5) (e := 0) (f := 30) h1 rfl) h760 rfl) rfl) fun z762 q763 h764 => ?_
      refine mr_iload_n (pc := 36) (z := p3) dX4_find_36 rfl rfl ?_
      have J767 : ∀ (z765 : Int), ((0 ≤ z765 ∧ z765 ≤ 1)) → sV (gG l D c H0 sa) mX4_find (sRm 1 0 0) (sZ (gG l D c H0 sa) 0 0 (qP w μ (fun z => ((-1) ≤ z ∧ z ≤ 4) ∧ True))) 45 [(0, .ref 94), (1, .ref 2), (2, iv p2), (3, iv p3), (4, iv f_p), (5, iv z748), (6, iv ((f_p * 5) + z748))] [iv z765] (mk w μ) 0 0 := by
        intro z765 h766
        refine mr_istore (pc := 45) (lv' := [(7, iv z765), (0, .ref 94), (1, .ref 2), (2, iv p2), (3, iv p3), (4, iv f_p), (5, iv z748), (6, iv ((f_p * 5) + z748))]) dX4_find_45 (by decide) rfl ?_
        refine mr_iconst (pc := 47) (z := 0) dX4_find_47 ?_
        refine mr_istore (pc := 48) (lv' := [(8, iv 0), (7, iv z765), (0, .ref 94), (1, .ref 2), (2, iv p2), (3, iv p3), (4, iv f_p), (5, iv z748), (6, iv ((f_p * 5) + z748))]) dX4_find_48 (by decide) rfl ?_
        have L890 : ∀ (nL890 : Nat) (z889 z888 : Int), True → (0 ≤ z889 ∧ z889 ≤ 1) → (0 ≤ z888 ∧ z888 ≤ 7) → (8 - z888) < (nL890 : Int) → sV (gG l D c H0 sa) mX4_find (sRm 1 0 0) (sZ (gG l D c H0 sa) 0 0 (qP w μ (fun z => ((-1) ≤ z ∧ z ≤ 4) ∧ True))) 50 [(0, .ref 94), (1, .ref 2), (2, iv p2), (3, iv p3), (4, iv f_p), (5, iv z748), (6, iv ((f_p * 5) + z748)), (7, iv z889), (8, iv z888)] [] (mk w μ) 0 0 := by
          intro nL890
          induction nL890 with
          | zero => intro z889 z888 _ h891 h892 h896; exact ((vc_X12_isWished_2 h896 h892)).elim
          | succ nL890 ih897 =>
            intro z889 z888 _ h891 h892 h896
            refine mr_iload (pc := 50) (z := z888) dX4_find_50 rfl ?_
            refine mr_iload_n (pc := 52) (z := p3) dX4_find_52 rfl rfl ?_
            refine mr_icmp_ge (pc := 53) (tgt := 96) dX4_find_53 (by decide) (r32 h892 rfl) (r32 hp3 rfl) (fun h909 => ?_) (fun h909 => ?_)
            · refine mr_iload (pc := 96) (z := z889) dX4_find_96 rfl ?_
              refine mr_if_eq (pc := 98) (tgt := 104) dX4_find_98 (by decide) (r32 h891 rfl) (fun h910 => ?_) (fun h910 => ?_)
              · have h911 : 0 ≤ z889 ∧ z889 ≤ 0 := (vc_X12_ring_22 h910 h891)
                refine mr_iinc (pc := 104) (lv' := [(5, iv (z748 + 1)), (0, .ref 94), (1, .ref 2), (2, iv p2), (3, iv p3), (4, iv f_p), (6, iv ((f_p * 5) + z748)), (7, iv z889), (8, iv z888)]) dX4_find_104 rfl (by decide) rfl ?_
                refine sv_goto (pc := 107) (tgt := 8) dX4_find_107 (by decide) ?_
                refine mr_lvS (lv' := [(0, .ref 94), (1, .ref 2), (2, iv p2), (3, iv p3), (4, iv f_p), (5, iv (z748 + 1))]) (List.forall_mem_cons.mpr ⟨rfl, List.forall_mem_cons.mpr ⟨rfl, List.forall_mem_cons.mpr ⟨rfl, List.forall_mem_cons.mpr ⟨rfl, List.forall_mem_cons.mpr ⟨rfl, List.forall_mem_cons.mpr ⟨rfl, fun _ h => absurd h List.not_mem_nil⟩⟩⟩⟩⟩⟩) ?_
                exact ih755 (z748 + 1) trivial (rW (c := 0) (d := 5) (rAdd (e := 1) (f := 5) h760 (rR (x := 1)) rfl) rfl) (vc_X12_acted_11 (nS h754) h759 h760 h761)
              have h912 : 1 ≤ z889 ∧ z889 ≤ 1 := (vc_X12_ring_24 h910 h891)
              refine mr_iload (pc := 101) (z := z748) dX4_find_101 rfl ?_
              exact mr_iretP dX4_find_103 rfl (le_t rfl) (le_t rfl) ⟨(rW (c := (-1)) (d := 4) h760 rfl), trivial⟩
            have h913 : 0 ≤ z888 ∧ z888 ≤ 6 := (vc_X12_isOffered_4 h909 hp3 h892)
            have h914 : 1 ≤ p3 ∧ p3 ≤ 7 := (vc_X12_isOffered_5 h909 hp3 h913)
            refine mr_iload (pc := 56) (z := z889) dX4_find_56 rfl ?_
            refine mr_if_eq (pc := 58) (tgt := 96) dX4_find_58 (by decide) (r32 h891 rfl) (fun h924 => ?_) (fun h924 => ?_)
            · have h925 : 0 ≤ z889 ∧ z889 ≤ 0 := (vc_X12_ring_22 h924 h891)
              refine mr_iload (pc := 96) (z := z889) dX4_find_96 rfl ?_
              refine mr_if_eq (pc := 98) (tgt := 104) dX4_find_98 (by decide) (r32 h925 rfl) (fun _ => ?_) (fun h => ((vc_X10_firstWrongStep_7 h h925)).elim)
              refine mr_iinc (pc := 104) (lv' := [(5, iv (z748 + 1)), (0, .ref 94), (1, .ref 2), (2, iv p2), (3, iv p3), (4, iv f_p), (6, iv ((f_p * 5) + z748)), (7, iv z889), (8, iv z888)]) dX4_find_104 rfl (by decide) rfl ?_
              refine sv_goto (pc := 107) (tgt := 8) dX4_find_107 (by decide) ?_
              refine mr_lvS (lv' := [(0, .ref 94), (1, .ref 2), (2, iv p2), (3, iv p3), (4, iv f_p), (5, iv (z748 + 1))]) (List.forall_mem_cons.mpr ⟨rfl, List.forall_mem_cons.mpr ⟨rfl, List.forall_mem_cons.mpr ⟨rfl, List.forall_mem_cons.mpr ⟨rfl, List.forall_mem_cons.mpr ⟨rfl, List.forall_mem_cons.mpr ⟨rfl, fun _ h => absurd h List.not_mem_nil⟩⟩⟩⟩⟩⟩) ?_
              exact ih755 (z748 + 1) trivial (rW (c := 0) (d := 5) (rAdd (e := 1) (f := 5) h760 (rR (x := 1)) rfl) rfl) (vc_X12_acted_11 (nS h754) h759 h760 h761)
            have h926 : 1 ≤ z889 ∧ z889 ≤ 1 := (vc_X12_ring_24 h924 h891)
            refine sv_aload_n (pc := 61) dX4_find_61 rfl rfl ?_
            refine gf_X4_0 (pc := 62) dX4_find_62 wF_X4_15 (A_94 hw) hT ?_
            refine mr_iload (pc := 65) (z := ((f_p * 5) + z748)) dX4_find_65 rfl ?_
            refine mr_bipush (pc := 67) (z := 7) dX4_find_67 (by decide) ?_
            refine mr_imul (pc := 69) (x := ((f_p * 5) + z748)) (y := 7) dX4_find_69 ?_
            refine mr_iload (pc := 70) (z := z888) dX4_find_70 rfl ?_
            refine mr_iadd (pc := 72) (x := (((f_p * 5) + z748) * 7)) (y := z888) dX4_find_72 ?_
            refine la_96 (pc := 73) dX4_find_73 (A_96 hw) hT (rIx (n := 245) (rAdd (e := 0) (f := 244) (rMulR (n := 7) (e := 0) (f := 238) (rAdd (e := 0) (f := 34) (rMulR (n := 5) (e := 0) (f := 30) h1 rfl) h760 rfl) rfl) h913 rfl) rfl) fun z927 q928 h929 => ?_
            refine sv_aload_n (pc := 74) dX4_find_74 rfl rfl ?_
            refine mr_iload_n (pc := 75) (z := p2) dX4_find_75 rfl rfl ?_
            refine mr_iload (pc := 76) (z := z888) dX4_find_76 rfl ?_
            refine mr_iadd (pc := 78) (x := p2) (y := z888) dX4_find_78 ?_
            refine la_2 (pc := 79) dX4_find_79 (A_2 hw) hT (rIx (n := 20) (rAdd (e := 0) (f := 6) hp2 h913 rfl) rfl) fun z930 q931 h932 => ?_
            refine mr_icmp_ne (pc := 80) (tgt := 87) dX4_find_80 (by decide) (r32 h929 rfl) (r32 h932 rfl) (fun h934 => ?_) (fun h934 => ?_)
            · refine mr_iconst (pc := 87) (z := 0) dX4_find_87 ?_
              refine mr_istore (pc := 88) (lv' := [(7, iv 0), (0, .ref 94), (1, .ref 2), (2, iv p2), (3, iv p3), (4, iv f_p), (5, iv z748), (6, iv ((f_p * 5) + z748)), (8, iv z888)]) dX4_find_88 (by decide) rfl ?_
              refine mr_iinc (pc := 90) (lv' := [(8, iv (z888 + 1)), (7, iv 0), (0, .ref 94), (1, .ref 2), (2, iv p2), (3, iv p3), (4, iv f_p), (5, iv z748), (6, iv ((f_p * 5) + z748))]) dX4_find_90 rfl (by decide) rfl ?_
              refine sv_goto (pc := 93) (tgt := 50) dX4_find_93 (by decide) ?_
              refine mr_lvS (lv' := [(0, .ref 94), (1, .ref 2), (2, iv p2), (3, iv p3), (4, iv f_p), (5, iv z748), (6, iv ((f_p * 5) + z748)), (7, iv 0), (8, iv (z888 + 1))]) (List.forall_mem_cons.mpr ⟨rfl, List.forall_mem_cons.mpr ⟨rfl, List.forall_mem_cons.mpr ⟨rfl, List.forall_mem_cons.mpr ⟨rfl, List.forall_mem_cons.mpr ⟨rfl, List.forall_mem_cons.mpr ⟨rfl, List.forall_mem_cons.mpr ⟨rfl, List.forall_mem_cons.mpr ⟨rfl, List.forall_mem_cons.mpr ⟨rfl, fun _ h => absurd h List.not_mem_nil⟩⟩⟩⟩⟩⟩⟩⟩⟩) ?_
              exact ih897 0 (z888 + 1) trivial (rW (c := 0) (d := 1) (rR (x := 0)) rfl) (rW (c := 0) (d := 7) (rAdd (e := 1) (f := 7) h913 (rR (x := 1)) rfl) rfl) (vc_X12_isOffered_9 (nS h896) h909 h914 h913)
            have h935 : 0 ≤ z930 ∧ z930 ≤ 6 := (vc_X12_isWished_8 h934 h929 h932)
            refine mr_iconst (pc := 83) (z := 1) dX4_find_83 ?_
            refine sv_goto (pc := 84) (tgt := 88) dX4_find_84 (by decide) ?_
            refine mr_istore (pc := 88) (lv' := [(7, iv 1), (0, .ref 94), (1, .ref 2), (2, iv p2), (3, iv p3), (4, iv f_p), (5, iv z748), (6, iv ((f_p * 5) + z748)), (8, iv z888)]) dX4_find_88 (by decide) rfl ?_
            refine mr_iinc (pc := 90) (lv' := [(8, iv (z888 + 1)), (7, iv 1), (0, .ref 94), (1, .ref 2), (2, iv p2), (3, iv p3), (4, iv f_p), (5, iv z748), (6, iv ((f_p * 5) + z748))]) dX4_find_90 rfl (by decide) rfl ?_
            refine sv_goto (pc := 93) (tgt := 50) dX4_find_93 (by decide) ?_
            refine mr_lvS (lv' := [(0, .ref 94), (1, .ref 2), (2, iv p2), (3, iv p3), (4, iv f_p), (5, iv z748), (6, iv ((f_p * 5) + z748)), (7, iv 1), (8, iv (z888 + 1))]) (List.forall_mem_cons.mpr ⟨rfl, List.forall_mem_cons.mpr ⟨rfl, List.forall_mem_cons.mpr ⟨rfl, List.forall_mem_cons.mpr ⟨rfl, List.forall_mem_cons.mpr ⟨rfl, List.forall_mem_cons.mpr ⟨rfl, List.forall_mem_cons.mpr ⟨rfl, List.forall_mem_cons.mpr ⟨rfl, List.forall_mem_cons.mpr ⟨rfl, fun _ h => absurd h List.not_mem_nil⟩⟩⟩⟩⟩⟩⟩⟩⟩) ?_
            exact ih897 1 (z888 + 1) trivial (rW (c := 0) (d := 1) (rR (x := 1)) rfl) (rW (c := 0) (d := 7) (rAdd (e := 1) (f := 7) h913 (rR (x := 1)) rfl) rfl) (vc_X12_isOffered_9 (nS h896) h909 h914 h913)
        refine mr_lvS (lv' := [(0, .ref 94), (1, .ref 2), (2, iv p2), (3, iv p3), (4, iv f_p), (5, iv z748), (6, iv ((f_p * 5) + z748)), (7, iv z765), (8, iv 0)]) (List.forall_mem_cons.mpr ⟨rfl, List.forall_mem_cons.mpr ⟨rfl, List.forall_mem_cons.mpr ⟨rfl, List.forall_mem_cons.mpr ⟨rfl, List.forall_mem_cons.mpr ⟨rfl, List.forall_mem_cons.mpr ⟨rfl, List.forall_mem_cons.mpr ⟨rfl, List.forall_mem_cons.mpr ⟨rfl, List.forall_mem_cons.mpr ⟨rfl, fun _ h => absurd h List.not_mem_nil⟩⟩⟩⟩⟩⟩⟩⟩⟩) ?_
        exact L890 9 z765 0 trivial h766 (rW (c := 0) (d := 7) (rR (x := 0)) rfl) vc_X12_isWished_9
      refine mr_icmp_ne (pc := 37) (tgt := 44) dX4_find_37 (by decide) (r32 h764 rfl) (r32 hp3 rfl) (fun h936 => ?_) (fun h936 => ?_)
      · refine mr_iconst (pc := 44) (z := 0) dX4_find_44 ?_
        refine mr_lvS (lv' := [(0, .ref 94), (1, .ref 2), (2, iv p2), (3, iv p3), (4, iv f_p), (5, iv z748), (6, iv ((f_p * 5) + z748))]) (List.forall_mem_cons.mpr ⟨rfl, List.forall_mem_cons.mpr ⟨rfl, List.forall_mem_cons.mpr ⟨rfl, List.forall_mem_cons.mpr ⟨rfl, List.forall_mem_cons.mpr ⟨rfl, List.forall_mem_cons.mpr ⟨rfl, List.forall_mem_cons.mpr ⟨rfl, fun _ h => absurd h List.not_mem_nil⟩⟩⟩⟩⟩⟩⟩) ?_
        exact J767 0 (rW (c := 0) (d := 1) (rR (x := 0)) rfl)
      refine mr_iconst (pc := 40) (z := 1) dX4_find_40 ?_
      refine sv_goto (pc := 41) (tgt := 45) dX4_find_41 (by decide) ?_
      refine mr_lvS (lv' := [(0, .ref 94), (1, .ref 2), (2, iv p2), (3, iv p3), (4, iv f_p), (5, iv z748), (6, iv ((f_p * 5) + z748))]) (List.forall_mem_cons.mpr ⟨rfl, List.forall_mem_cons.mpr ⟨rfl, List.forall_mem_cons.mpr ⟨rfl, List.forall_mem_cons.mpr ⟨rfl, List.forall_mem_cons.mpr ⟨rfl, List.forall_mem_cons.mpr ⟨rfl, List.forall_mem_cons.mpr ⟨rfl, fun _ h => absurd h List.not_mem_nil⟩⟩⟩⟩⟩⟩⟩) ?_
      exact J767 1 (rW (c := 0) (d := 1) (rR (x := 1)) rfl)
  refine mr_lvS (lv' := [(0, .ref 94), (1, .ref 2), (2, iv p2), (3, iv p3), (4, iv f_p), (5, iv 0)]) (List.forall_mem_cons.mpr ⟨rfl, List.forall_mem_cons.mpr ⟨rfl, List.forall_mem_cons.mpr ⟨rfl, List.forall_mem_cons.mpr ⟨rfl, List.forall_mem_cons.mpr ⟨rfl, List.forall_mem_cons.mpr ⟨rfl, fun _ h => absurd h List.not_mem_nil⟩⟩⟩⟩⟩⟩) ?_
  exact L749 7 0 trivial (rW (c := 0) (d := 5) (rR (x := 0)) rfl) vc_X12_acted_13
theorem vc_X4_need_2 {p1 z19 : Int} (h0 : 5 ≤ p1 ∧ p1 ≤ 34) (h1 : 0 ≤ z19 ∧ z19 ≤ 7) : ((p1 * 7) + 1) + (z19 - 1) ≤ 245 := by omega
set_option maxRecDepth 4000 in
set_option maxHeartbeats 4000000 in
theorem c_X4_need {l : Launch} {D : va_G} {c : Nat → ClassId} {H0 : Heap} {sa : Nat × Nat × (Nat → Int32)} {w : mW} {μ : mM} (hw : mWF w) (hT : mT w μ) {p1 : Int} (hp1 : 5 ≤ p1 ∧ p1 ≤ 34) : sC (gG l D c H0 sa) mX4_need 2 0 0 [.ref 94, iv p1] (mk w μ) (qV w [98999, 99999] μ (fun μ1 => True)) := by
  refine sC.of rfl (by decide) (le_t rfl) ?_
  refine mr_lvE (lv' := [(0, .ref 94), (1, iv p1)]) rfl ?_
  refine sv_aload_n (pc := 0) dX4_need_0 rfl rfl ?_
  refine gf_X4_0 (pc := 1) dX4_need_1 wF_X4_15 (A_94 hw) hT ?_
  refine mr_iload_n (pc := 4) (z := p1) dX4_need_4 rfl rfl ?_
  refine mr_bipush (pc := 5) (z := 7) dX4_need_5 (by decide) ?_
  refine mr_imul (pc := 7) (x := p1) (y := 7) dX4_need_7 ?_
  refine mr_iconst (pc := 8) (z := 1) dX4_need_8 ?_
  refine mr_iadd (pc := 9) (x := (p1 * 7)) (y := 1) dX4_need_9 ?_
  refine la_96 (pc := 10) dX4_need_10 (A_96 hw) hT (rIx (n := 245) (rAdd (e := 36) (f := 239) (rMulR (n := 7) (e := 35) (f := 238) hp1 rfl) (rR (x := 1)) rfl) rfl) fun z1 q2 h3 => ?_
  refine mr_istore_n (pc := 11) (lv' := [(2, iv z1), (0, .ref 94), (1, iv p1)]) dX4_need_11 rfl (by decide) rfl ?_
  refine sv_aload_n (pc := 12) dX4_need_12 rfl rfl ?_
  refine gf_X4_2 (pc := 13) dX4_need_13 wF_X4_21 (A_94 hw) hT ?_
  refine mr_iload_n (pc := 16) (z := p1) dX4_need_16 rfl rfl ?_
  refine mr_iload_n (pc := 17) (z := z1) dX4_need_17 rfl rfl ?_
  refine ss_98 (pc := 18) dX4_need_18 (A_98 hw) hT (rIx (n := 35) hp1 rfl) h3 fun μ4 u5 T6 => ?_
  refine sv_aload_n (pc := 19) dX4_need_19 rfl rfl ?_
  refine gf_X4_3 (pc := 20) dX4_need_20 wF_X4_24 (A_94 hw) T6 ?_
  refine mr_iload_n (pc := 23) (z := p1) dX4_need_23 rfl rfl ?_
  refine mr_iload_n (pc := 24) (z := z1) dX4_need_24 rfl rfl ?_
  refine mr_if_ne (pc := 25) (tgt := 32) dX4_need_25 (by decide) (r32 h3 rfl) (fun h17 => ?_) (fun h17 => ?_)
  · have h18 : 1 ≤ z1 ∧ z1 ≤ 6 := (vc_X12_isOffered_1 h17 h3)
    refine sv_aload_n (pc := 32) dX4_need_32 rfl rfl ?_
    refine sv_aload_n (pc := 33) dX4_need_33 rfl rfl ?_
    refine gf_X4_0 (pc := 34) dX4_need_34 wF_X4_15 (A_94 hw) T6 ?_
    refine mr_iload_n (pc := 37) (z := p1) dX4_need_37 rfl rfl ?_
    refine mr_bipush (pc := 38) (z := 7) dX4_need_38 (by decide) ?_
    refine mr_imul (pc := 40) (x := p1) (y := 7) dX4_need_40 ?_
    refine mr_iconst (pc := 41) (z := 1) dX4_need_41 ?_
    refine mr_iadd (pc := 42) (x := (p1 * 7)) (y := 1) dX4_need_42 ?_
    refine sv_aload_n (pc := 43) dX4_need_43 rfl rfl ?_
    refine gf_X4_1 (pc := 44) dX4_need_44 wF_X4_18 (A_94 hw) T6 ?_
    refine mr_iload_n (pc := 47) (z := p1) dX4_need_47 rfl rfl ?_
    refine la_97 (pc := 48) dX4_need_48 (A_97 hw) T6 (rIx (n := 35) hp1 rfl) fun z19 q20 h21 => ?_
    refine mr_iconst (pc := 49) (z := 1) dX4_need_49 ?_
    refine mr_isub (pc := 50) (x := z19) (y := 1) dX4_need_50 ?_
    refine mr_cVP (pc := 51) (c_X4_find_w hw T6 (A_96 hw) (rW (c := 0) (d := 244) (rAdd (e := 36) (f := 239) (rMulR (n := 7) (e := 35) (f := 238) hp1 rfl) (rR (x := 1)) rfl) rfl) (rW (c := (-1)) (d := 7) (rSub (e := (-1)) (f := 6) h21 (rR (x := 1)) rfl) rfl) (vc_X4_need_2 hp1 h21)) (gOk _ _ _ _ _) dX4_need_51 (tX4_find _ _ _ _ _) ⟨wV_X4_find, wL_X4_find⟩ wM_X4_67 (gCX4 _ _ _ _ _) rfl (A_94 hw) rfl ⟨le_t rfl, le_t rfl⟩ ⟨le_t rfl, le_t rfl⟩ rfl (le_t rfl) fun z26 h25 => ?_
    refine ss_99 (pc := 54) dX4_need_54 (A_99 hw) T6 (rIx (n := 35) hp1 rfl) (rW (c := (-1)) (d := 5) h25.1 rfl) fun μ27 u28 T29 => ?_
    exact mr_vret dX4_need_55 rfl (le_t rfl) (le_t rfl) T29 (mF.up (mF.up mF.refl (A_98 hw) u5 rfl) (A_99 hw) u28 rfl) trivial
  have h30 : 0 ≤ z1 ∧ z1 ≤ 0 := (vc_X12_isOffered_13 h17 h3)
  refine mr_iconst (pc := 28) (z := 0) dX4_need_28 ?_
  refine sv_goto (pc := 29) (tgt := 54) dX4_need_29 (by decide) ?_
  refine ss_99 (pc := 54) dX4_need_54 (A_99 hw) T6 (rIx (n := 35) hp1 rfl) (rW (c := (-1)) (d := 5) (rR (x := 0)) rfl) fun μ31 u32 T33 => ?_
  exact mr_vret dX4_need_55 rfl (le_t rfl) (le_t rfl) T33 (mF.up (mF.up mF.refl (A_98 hw) u5 rfl) (A_99 hw) u32 rfl) trivial
theorem vc_X4_prepare_14 {z9963 : Int} (h0 : 1 ≤ z9963 ∧ z9963 ≤ 46656) : 1 ≤ z9963 := by omega
theorem vc_X4_prepare_34 {z5269 z7 : Int} (h0 : z7 ≤ z5269) (h1 : 0 ≤ z5269 ∧ z5269 ≤ 5) (h2 : 0 ≤ z7 ∧ z7 ≤ 5) : 0 < (1 * (z7 + 1)) := by omega
set_option maxRecDepth 4000 in
set_option maxHeartbeats 4000000 in
theorem c_X4_prepare {l : Launch} {D : va_G} {c : Nat → ClassId} {H0 : Heap} {sa : Nat × Nat × (Nat → Int32)} {w : mW} {μ : mM} (hw : mWF w) (hT : mT w μ) : sC (gG l D c H0 sa) mX4_prepare 3 0 0 [.ref 94] (mk w μ) (qV w [94009, 98999, 99999, 100999] μ (fun μ1 => ∃ o_st : Int, μ1 94 9 = o_st ∧ (1 ≤ o_st) ∧ (radix μ1 100 95 (μ1 94 9)) ∧ True)) := by
  refine sC.of rfl (by decide) (le_t rfl) ?_
  refine mr_lvE (lv' := [(0, .ref 94)]) rfl ?_
  refine sv_aload_n (pc := 0) dX4_prepare_0 rfl rfl ?_
  refine mr_iconst (pc := 1) (z := 1) dX4_prepare_1 ?_
  refine pf_X4_9 (pc := 2) dX4_prepare_2 wF_X4_59 (A_94 hw) hT (rW (c := 0) (d := 46656) (rR (x := 1)) rfl) fun μ1 u2 T3 => ?_
  refine mr_bipush (pc := 5) (z := 6) dX4_prepare_5 (by decide) ?_
  refine mr_istore_n (pc := 7) (lv' := [(1, iv 6), (0, .ref 94)]) dX4_prepare_7 rfl (by decide) rfl ?_
  refine mr_iload_n (pc := 8) (z := 6) dX4_prepare_8 rfl rfl ?_
  refine mr_iconst (pc := 9) (z := 1) dX4_prepare_9 ?_
  refine mr_icmp_lt (pc := 10) (tgt := 73) dX4_prepare_10 (by decide) (r32 (rR (x := 6)) rfl) (r32 (rR (x := 1)) rfl) (fun h => ((vc_X12_states_1 h)).elim) (fun _ => ?_)
  refine sv_aload_n (pc := 13) dX4_prepare_13 rfl rfl ?_
  refine gf_X4_4 (pc := 14) dX4_prepare_14 wF_X4_27 (A_94 hw) T3 ?_
  refine mr_iload_n (pc := 17) (z := 6) dX4_prepare_17 rfl rfl ?_
  refine sv_aload_n (pc := 18) dX4_prepare_18 rfl rfl ?_
  refine gk_X4_9 (pc := 19) dX4_prepare_19 wF_X4_59 (A_94 hw) u2.1 ?_
  refine ss_100 (pc := 22) dX4_prepare_22 (A_100 hw) T3 (rIx (n := 7) (rR (x := 6)) rfl) (rW (c := 0) (d := 46656) (rR (x := 1)) rfl) fun μ4 u5 T6 => ?_
  refine sv_aload_n (pc := 23) dX4_prepare_23 rfl rfl ?_
  refine sv_dup (pc := 24) dX4_prepare_24 rfl ?_
  refine gk_X4_9 (pc := 25) dX4_prepare_25 wF_X4_59 (A_94 hw) (u5.f (Or.inl (mAt.ne (A_100 hw) (A_94 hw) rfl)) u2.1) ?_
  refine sv_aload_n (pc := 28) dX4_prepare_28 rfl rfl ?_
  refine gf_X4_12 (pc := 29) dX4_prepare_29 wF_X4_11 (A_94 hw) T6 ?_
  refine mr_iload_n (pc := 32) (z := 6) dX4_prepare_32 rfl rfl ?_
  refine la_95 (pc := 33) dX4_prepare_33 (A_95 hw) T6 (rIx (n := 7) (rR (x := 6)) rfl) fun z7 q8 h9 => ?_
  refine mr_iconst (pc := 34) (z := 1) dX4_prepare_34 ?_
  refine mr_iadd (pc := 35) (x := z7) (y := 1) dX4_prepare_35 ?_
  refine mr_imul (pc := 36) (x := 1) (y := (z7 + 1)) dX4_prepare_36 ?_
  refine pf_X4_9 (pc := 37) dX4_prepare_37 wF_X4_59 (A_94 hw) T6 (rW (c := 0) (d := 46656) (rMulL (n := 1) (e := 1) (f := 6) (rAdd (e := 1) (f := 6) h9 (rR (x := 1)) rfl) rfl) rfl) fun μ10 u11 T12 => ?_
  refine mr_iconst (pc := 40) (z := 0) dX4_prepare_40 ?_
  refine mr_istore_n (pc := 41) (lv' := [(2, iv 0), (1, iv 6), (0, .ref 94)]) dX4_prepare_41 rfl (by decide) rfl ?_
  have L5271 : ∀ (nL5271 : Nat) (z5269 : Int) (μ5270 : mM), mT w μ5270 → mF [98999, 99999] w μ10 μ5270 → (0 ≤ z5269 ∧ z5269 ≤ 5) → (6 - z5269) < (nL5271 : Int) → sV (gG l D c H0 sa) mX4_prepare (sRm 3 0 0) (sZ (gG l D c H0 sa) 0 0 (qV w [94009, 98999, 99999, 100999] μ (fun μ1 => ∃ o_st : Int, μ1 94 9 = o_st ∧ (1 ≤ o_st) ∧ (radix μ1 100 95 (μ1 94 9)) ∧ True))) 42 [(0, .ref 94), (1, iv 6), (2, iv z5269)] [] (mk w μ5270) 0 0 := by
    intro nL5271
    induction nL5271 with
    | zero => intro z5269 μ5270 T5273 F5274 h5272 h5276; exact ((vc_X12_acted_1 h5276 h5272)).elim
    | succ nL5271 ih5277 =>
      intro z5269 μ5270 T5273 F5274 h5272 h5276
      refine mr_iload_n (pc := 42) (z := z5269) dX4_prepare_42 rfl rfl ?_
      refine sv_aload_n (pc := 43) dX4_prepare_43 rfl rfl ?_
      refine gf_X4_12 (pc := 44) dX4_prepare_44 wF_X4_11 (A_94 hw) T5273 ?_
      refine mr_iload_n (pc := 47) (z := 6) dX4_prepare_47 rfl rfl ?_
      refine lk_95 (pc := 48) dX4_prepare_48 (A_95 hw) (rIx (n := 7) (rR (x := 6)) rfl) (F5274.f (A_95 hw) rfl (u11.f (Or.inl (mAt.ne (A_94 hw) (A_95 hw) rfl)) q8)) ?_
      refine mr_icmp_ge (pc := 49) (tgt := 67) dX4_prepare_49 (by decide) (r32 h5272 rfl) (r32 h9 rfl) (fun h5284 => ?_) (fun h5284 => ?_)
      · refine mr_iinc (pc := 67) (lv' := [(1, iv 5), (0, .ref 94), (2, iv z5269)]) dX4_prepare_67 rfl (by decide) rfl ?_
        refine sv_goto (pc := 70) (tgt := 8) dX4_prepare_70 (by decide) ?_
        refine mr_iload_n (pc := 8) (z := 5) dX4_prepare_8 rfl rfl ?_
        refine mr_iconst (pc := 9) (z := 1) dX4_prepare_9 ?_
        refine mr_icmp_lt (pc := 10) (tgt := 73) dX4_prepare_10 (by decide) (r32 (rR (x := 5)) rfl) (r32 (rR (x := 1)) rfl) (fun h => ((vc_X12_states_2 h)).elim) (fun _ => ?_)
        refine sv_aload_n (pc := 13) dX4_prepare_13 rfl rfl ?_
        refine gf_X4_4 (pc := 14) dX4_prepare_14 wF_X4_27 (A_94 hw) T5273 ?_
        refine mr_iload_n (pc := 17) (z := 5) dX4_prepare_17 rfl rfl ?_
        refine sv_aload_n (pc := 18) dX4_prepare_18 rfl rfl ?_
        refine gk_X4_9 (pc := 19) dX4_prepare_19 wF_X4_59 (A_94 hw) (F5274.f (A_94 hw) rfl u11.1) ?_
        refine ss_100 (pc := 22) dX4_prepare_22 (A_100 hw) T5273 (rIx (n := 7) (rR (x := 5)) rfl) (rW (c := 0) (d := 46656) (rMulL (n := 1) (e := 1) (f := 6) (rAdd (e := 1) (f := 6) h9 (rR (x := 1)) rfl) rfl) rfl) fun μ5285 u5286 T5287 => ?_
        refine sv_aload_n (pc := 23) dX4_prepare_23 rfl rfl ?_
        refine sv_dup (pc := 24) dX4_prepare_24 rfl ?_
        refine gk_X4_9 (pc := 25) dX4_prepare_25 wF_X4_59 (A_94 hw) (u5286.f (Or.inl (mAt.ne (A_100 hw) (A_94 hw) rfl)) (F5274.f (A_94 hw) rfl u11.1)) ?_
        refine sv_aload_n (pc := 28) dX4_prepare_28 rfl rfl ?_
        refine gf_X4_12 (pc := 29) dX4_prepare_29 wF_X4_11 (A_94 hw) T5287 ?_
        refine mr_iload_n (pc := 32) (z := 5) dX4_prepare_32 rfl rfl ?_
        refine la_95 (pc := 33) dX4_prepare_33 (A_95 hw) T5287 (rIx (n := 7) (rR (x := 5)) rfl) fun z5288 q5289 h5290 => ?_
        refine mr_iconst (pc := 34) (z := 1) dX4_prepare_34 ?_
        refine mr_iadd (pc := 35) (x := z5288) (y := 1) dX4_prepare_35 ?_
        refine mr_imul (pc := 36) (x := (1 * (z7 + 1))) (y := (z5288 + 1)) dX4_prepare_36 ?_
        refine mr_gen (P := fun z => 1 ≤ z ∧ z ≤ 36) (rMulP (rMulL (n := 1) (e := 1) (f := 6) (rAdd (e := 1) (f := 6) h9 (rR (x := 1)) rfl) rfl) (rAdd (e := 1) (f := 6) h5290 (rR (x := 1)) rfl) rfl) fun z5291 q5292 h5293 => ?_
        refine pf_X4_9 (pc := 37) dX4_prepare_37 wF_X4_59 (A_94 hw) T5287 (rW (c := 0) (d := 46656) h5293 rfl) fun μ5294 u5295 T5296 => ?_
        refine mr_iconst (pc := 40) (z := 0) dX4_prepare_40 ?_
        refine mr_istore_n (pc := 41) (lv' := [(2, iv 0), (1, iv 5), (0, .ref 94)]) dX4_prepare_41 rfl (by decide) rfl ?_
        have L7867 : ∀ (nL7867 : Nat) (z7865 : Int) (μ7866 : mM), mT w μ7866 → mF [98999, 99999] w μ5294 μ7866 → (0 ≤ z7865 ∧ z7865 ≤ 5) → (6 - z7865) < (nL7867 : Int) → sV (gG l D c H0 sa) mX4_prepare (sRm 3 0 0) (sZ (gG l D c H0 sa) 0 0 (qV w [94009, 98999, 99999, 100999] μ (fun μ1 => ∃ o_st : Int, μ1 94 9 = o_st ∧ (1 ≤ o_st) ∧ (radix μ1 100 95 (μ1 94 9)) ∧ True))) 42 [(0, .ref 94), (1, iv 5), (2, iv z7865)] [] (mk w μ7866) 0 0 := by
          intro nL7867
          induction nL7867 with
          | zero => intro z7865 μ7866 T7869 F7870 h7868 h7872; exact ((vc_X12_acted_1 h7872 h7868)).elim
          | succ nL7867 ih7873 =>
            intro z7865 μ7866 T7869 F7870 h7868 h7872
            refine mr_iload_n (pc := 42) (z := z7865) dX4_prepare_42 rfl rfl ?_
            refine sv_aload_n (pc := 43) dX4_prepare_43 rfl rfl ?_
            refine gf_X4_12 (pc := 44) dX4_prepare_44 wF_X4_11 (A_94 hw) T7869 ?_
            refine mr_iload_n (pc := 47) (z := 5) dX4_prepare_47 rfl rfl ?_
            refine lk_95 (pc := 48) dX4_prepare_48 (A_95 hw) (rIx (n := 7) (rR (x := 5)) rfl) (F7870.f (A_95 hw) rfl (u5295.f (Or.inl (mAt.ne (A_94 hw) (A_95 hw) rfl)) q5289)) ?_
            refine mr_icmp_ge (pc := 49) (tgt := 67) dX4_prepare_49 (by decide) (r32 h7868 rfl) (r32 h5290 rfl) (fun h7880 => ?_) (fun h7880 => ?_)
            · refine mr_iinc (pc := 67) (lv' := [(1, iv 4), (0, .ref 94), (2, iv z7865)]) dX4_prepare_67 rfl (by decide) rfl ?_
              refine sv_goto (pc := 70) (tgt := 8) dX4_prepare_70 (by decide) ?_
              refine mr_iload_n (pc := 8) (z := 4) dX4_prepare_8 rfl rfl ?_
              refine mr_iconst (pc := 9) (z := 1) dX4_prepare_9 ?_
              refine mr_icmp_lt (pc := 10) (tgt := 73) dX4_prepare_10 (by decide) (r32 (rR (x := 4)) rfl) (r32 (rR (x := 1)) rfl) (fun h => ((vc_X12_states_3 h)).elim) (fun _ => ?_)
              refine sv_aload_n (pc := 13) dX4_prepare_13 rfl rfl ?_
              refine gf_X4_4 (pc := 14) dX4_prepare_14 wF_X4_27 (A_94 hw) T7869 ?_
              refine mr_iload_n (pc := 17) (z := 4) dX4_prepare_17 rfl rfl ?_
              refine sv_aload_n (pc := 18) dX4_prepare_18 rfl rfl ?_
              refine gk_X4_9 (pc := 19) dX4_prepare_19 wF_X4_59 (A_94 hw) (F7870.f (A_94 hw) rfl u5295.1) ?_
              refine ss_100 (pc := 22) dX4_prepare_22 (A_100 hw) T7869 (rIx (n := 7) (rR (x := 4)) rfl) (rW (c := 0) (d := 46656) h5293 rfl) fun μ7881 u7882 T7883 => ?_
              refine sv_aload_n (pc := 23) dX4_prepare_23 rfl rfl ?_
              refine sv_dup (pc := 24) dX4_prepare_24 rfl ?_
              refine gk_X4_9 (pc := 25) dX4_prepare_25 wF_X4_59 (A_94 hw) (u7882.f (Or.inl (mAt.ne (A_100 hw) (A_94 hw) rfl)) (F7870.f (A_94 hw) rfl u5295.1)) ?_
              refine sv_aload_n (pc := 28) dX4_prepare_28 rfl rfl ?_
              refine gf_X4_12 (pc := 29) dX4_prepare_29 wF_X4_11 (A_94 hw) T7883 ?_
              refine mr_iload_n (pc := 32) (z := 4) dX4_prepare_32 rfl rfl ?_
              refine la_95 (pc := 33) dX4_prepare_33 (A_95 hw) T7883 (rIx (n := 7) (rR (x := 4)) rfl) fun z7884 q7885 h7886 => ?_
              refine mr_iconst (pc := 34) (z := 1) dX4_prepare_34 ?_
              refine mr_iadd (pc := 35) (x := z7884) (y := 1) dX4_prepare_35 ?_
              refine mr_imul (pc := 36) (x := z5291) (y := (z7884 + 1)) dX4_prepare_36 ?_
              refine mr_gen (P := fun z => 1 ≤ z ∧ z ≤ 216) (rMulP h5293 (rAdd (e := 1) (f := 6) h7886 (rR (x := 1)) rfl) rfl) fun z7887 q7888 h7889 => ?_
              refine pf_X4_9 (pc := 37) dX4_prepare_37 wF_X4_59 (A_94 hw) T7883 (rW (c := 0) (d := 46656) h7889 rfl) fun μ7890 u7891 T7892 => ?_
              refine mr_iconst (pc := 40) (z := 0) dX4_prepare_40 ?_
              refine mr_istore_n (pc := 41) (lv' := [(2, iv 0), (1, iv 4), (0, .ref 94)]) dX4_prepare_41 rfl (by decide) rfl ?_
              have L9119 : ∀ (nL9119 : Nat) (z9117 : Int) (μ9118 : mM), mT w μ9118 → mF [98999, 99999] w μ7890 μ9118 → (0 ≤ z9117 ∧ z9117 ≤ 5) → (6 - z9117) < (nL9119 : Int) → sV (gG l D c H0 sa) mX4_prepare (sRm 3 0 0) (sZ (gG l D c H0 sa) 0 0 (qV w [94009, 98999, 99999, 100999] μ (fun μ1 => ∃ o_st : Int, μ1 94 9 = o_st ∧ (1 ≤ o_st) ∧ (radix μ1 100 95 (μ1 94 9)) ∧ True))) 42 [(0, .ref 94), (1, iv 4), (2, iv z9117)] [] (mk w μ9118) 0 0 := by
                intro nL9119
                induction nL9119 with
                | zero => intro z9117 μ9118 T9121 F9122 h9120 h9124; exact ((vc_X12_acted_1 h9124 h9120)).elim
                | succ nL9119 ih9125 =>
                  intro z9117 μ9118 T9121 F9122 h9120 h9124
                  refine mr_iload_n (pc := 42) (z := z9117) dX4_prepare_42 rfl rfl ?_
                  refine sv_aload_n (pc := 43) dX4_prepare_43 rfl rfl ?_
                  refine gf_X4_12 (pc := 44) dX4_prepare_44 wF_X4_11 (A_94 hw) T9121 ?_
                  refine mr_iload_n (pc := 47) (z := 4) dX4_prepare_47 rfl rfl ?_
                  refine lk_95 (pc := 48) dX4_prepare_48 (A_95 hw) (rIx (n := 7) (rR (x := 4)) rfl) (F9122.f (A_95 hw) rfl (u7891.f (Or.inl (mAt.ne (A_94 hw) (A_95 hw) rfl)) q7885)) ?_
                  refine mr_icmp_ge (pc := 49) (tgt := 67) dX4_prepare_49 (by decide) (r32 h9120 rfl) (r32 h7886 rfl) (fun h9132 => ?_) (fun h9132 => ?_)
                  · refine mr_iinc (pc := 67) (lv' := [(1, iv 3), (0, .ref 94), (2, iv z9117)]) dX4_prepare_67 rfl (by decide) rfl ?_
                    refine sv_goto (pc := 70) (tgt := 8) dX4_prepare_70 (by decide) ?_
                    refine mr_iload_n (pc := 8) (z := 3) dX4_prepare_8 rfl rfl ?_
                    refine mr_iconst (pc := 9) (z := 1) dX4_prepare_9 ?_
                    refine mr_icmp_lt (pc := 10) (tgt := 73) dX4_prepare_10 (by decide) (r32 (rR (x := 3)) rfl) (r32 (rR (x := 1)) rfl) (fun h => ((vc_X12_states_4 h)).elim) (fun _ => ?_)
                    refine sv_aload_n (pc := 13) dX4_prepare_13 rfl rfl ?_
                    refine gf_X4_4 (pc := 14) dX4_prepare_14 wF_X4_27 (A_94 hw) T9121 ?_
                    refine mr_iload_n (pc := 17) (z := 3) dX4_prepare_17 rfl rfl ?_
                    refine sv_aload_n (pc := 18) dX4_prepare_18 rfl rfl ?_
                    refine gk_X4_9 (pc := 19) dX4_prepare_19 wF_X4_59 (A_94 hw) (F9122.f (A_94 hw) rfl u7891.1) ?_
                    refine ss_100 (pc := 22) dX4_prepare_22 (A_100 hw) T9121 (rIx (n := 7) (rR (x := 3)) rfl) (rW (c := 0) (d := 46656) h7889 rfl) fun μ9133 u9134 T9135 => ?_
                    refine sv_aload_n (pc := 23) dX4_prepare_23 rfl rfl ?_
                    refine sv_dup (pc := 24) dX4_prepare_24 rfl ?_
                    refine gk_X4_9 (pc := 25) dX4_prepare_25 wF_X4_59 (A_94 hw) (u9134.f (Or.inl (mAt.ne (A_100 hw) (A_94 hw) rfl)) (F9122.f (A_94 hw) rfl u7891.1)) ?_
                    refine sv_aload_n (pc := 28) dX4_prepare_28 rfl rfl ?_
                    refine gf_X4_12 (pc := 29) dX4_prepare_29 wF_X4_11 (A_94 hw) T9135 ?_
                    refine mr_iload_n (pc := 32) (z := 3) dX4_prepare_32 rfl rfl ?_
                    refine la_95 (pc := 33) dX4_prepare_33 (A_95 hw) T9135 (rIx (n := 7) (rR (x := 3)) rfl) fun z9136 q9137 h9138 => ?_
                    refine mr_iconst (pc := 34) (z := 1) dX4_prepare_34 ?_
                    refine mr_iadd (pc := 35) (x := z9136) (y := 1) dX4_prepare_35 ?_
                    refine mr_imul (pc := 36) (x := z7887) (y := (z9136 + 1)) dX4_prepare_36 ?_
                    refine mr_gen (P := fun z => 1 ≤ z ∧ z ≤ 1296) (rMulP h7889 (rAdd (e := 1) (f := 6) h9138 (rR (x := 1)) rfl) rfl) fun z9139 q9140 h9141 => ?_
                    refine pf_X4_9 (pc := 37) dX4_prepare_37 wF_X4_59 (A_94 hw) T9135 (rW (c := 0) (d := 46656) h9141 rfl) fun μ9142 u9143 T9144 => ?_
                    refine mr_iconst (pc := 40) (z := 0) dX4_prepare_40 ?_
                    refine mr_istore_n (pc := 41) (lv' := [(2, iv 0), (1, iv 3), (0, .ref 94)]) dX4_prepare_41 rfl (by decide) rfl ?_
                    have L9699 : ∀ (nL9699 : Nat) (z9697 : Int) (μ9698 : mM), mT w μ9698 → mF [98999, 99999] w μ9142 μ9698 → (0 ≤ z9697 ∧ z9697 ≤ 5) → (6 - z9697) < (nL9699 : Int) → sV (gG l D c H0 sa) mX4_prepare (sRm 3 0 0) (sZ (gG l D c H0 sa) 0 0 (qV w [94009, 98999, 99999, 100999] μ (fun μ1 => ∃ o_st : Int, μ1 94 9 = o_st ∧ (1 ≤ o_st) ∧ (radix μ1 100 95 (μ1 94 9)) ∧ True))) 42 [(0, .ref 94), (1, iv 3), (2, iv z9697)] [] (mk w μ9698) 0 0 := by
                      intro nL9699
                      induction nL9699 with
                      | zero => intro z9697 μ9698 T9701 F9702 h9700 h9704; exact ((vc_X12_acted_1 h9704 h9700)).elim
                      | succ nL9699 ih9705 =>
                        intro z9697 μ9698 T9701 F9702 h9700 h9704
                        refine mr_iload_n (pc := 42) (z := z9697) dX4_prepare_42 rfl rfl ?_
                        refine sv_aload_n (pc := 43) dX4_prepare_43 rfl rfl ?_
                        refine gf_X4_12 (pc := 44) dX4_prepare_44 wF_X4_11 (A_94 hw) T9701 ?_
                        refine mr_iload_n (pc := 47) (z := 3) dX4_prepare_47 rfl rfl ?_
                        refine lk_95 (pc := 48) dX4_prepare_48 (A_95 hw) (rIx (n := 7) (rR (x := 3)) rfl) (F9702.f (A_95 hw) rfl (u9143.f (Or.inl (mAt.ne (A_94 hw) (A_95 hw) rfl)) q9137)) ?_
                        refine mr_icmp_ge (pc := 49) (tgt := 67) dX4_prepare_49 (by decide) (r32 h9700 rfl) (r32 h9138 rfl) (fun h9712 => ?_) (fun h9712 => ?_)
                        · refine mr_iinc (pc := 67) (lv' := [(1, iv 2), (0, .ref 94), (2, iv z9697)]) dX4_prepare_67 rfl (by decide) rfl ?_
                          refine sv_goto (pc := 70) (tgt := 8) dX4_prepare_70 (by decide) ?_
                          refine mr_iload_n (pc := 8) (z := 2) dX4_prepare_8 rfl rfl ?_
                          refine mr_iconst (pc := 9) (z := 1) dX4_prepare_9 ?_
                          refine mr_icmp_lt (pc := 10) (tgt := 73) dX4_prepare_10 (by decide) (r32 (rR (x := 2)) rfl) (r32 (rR (x := 1)) rfl) (fun h => ((vc_X12_states_5 h)).elim) (fun _ => ?_)
                          refine sv_aload_n (pc := 13) dX4_prepare_13 rfl rfl ?_
                          refine gf_X4_4 (pc := 14) dX4_prepare_14 wF_X4_27 (A_94 hw) T9701 ?_
                          refine mr_iload_n (pc := 17) (z := 2) dX4_prepare_17 rfl rfl ?_
                          refine sv_aload_n (pc := 18) dX4_prepare_18 rfl rfl ?_
                          refine gk_X4_9 (pc := 19) dX4_prepare_19 wF_X4_59 (A_94 hw) (F9702.f (A_94 hw) rfl u9143.1) ?_
                          refine ss_100 (pc := 22) dX4_prepare_22 (A_100 hw) T9701 (rIx (n := 7) (rR (x := 2)) rfl) (rW (c := 0) (d := 46656) h9141 rfl) fun μ9713 u9714 T9715 => ?_
                          refine sv_aload_n (pc := 23) dX4_prepare_23 rfl rfl ?_
                          refine sv_dup (pc := 24) dX4_prepare_24 rfl ?_
                          refine gk_X4_9 (pc := 25) dX4_prepare_25 wF_X4_59 (A_94 hw) (u9714.f (Or.inl (mAt.ne (A_100 hw) (A_94 hw) rfl)) (F9702.f (A_94 hw) rfl u9143.1)) ?_
                          refine sv_aload_n (pc := 28) dX4_prepare_28 rfl rfl ?_
                          refine gf_X4_12 (pc := 29) dX4_prepare_29 wF_X4_11 (A_94 hw) T9715 ?_
                          refine mr_iload_n (pc := 32) (z := 2) dX4_prepare_32 rfl rfl ?_
                          refine la_95 (pc := 33) dX4_prepare_33 (A_95 hw) T9715 (rIx (n := 7) (rR (x := 2)) rfl) fun z9716 q9717 h9718 => ?_
                          refine mr_iconst (pc := 34) (z := 1) dX4_prepare_34 ?_
                          refine mr_iadd (pc := 35) (x := z9716) (y := 1) dX4_prepare_35 ?_
                          refine mr_imul (pc := 36) (x := z9139) (y := (z9716 + 1)) dX4_prepare_36 ?_
                          refine mr_gen (P := fun z => 1 ≤ z ∧ z ≤ 7776) (rMulP h9141 (rAdd (e := 1) (f := 6) h9718 (rR (x := 1)) rfl) rfl) fun z9719 q9720 h9721 => ?_
                          refine pf_X4_9 (pc := 37) dX4_prepare_37 wF_X4_59 (A_94 hw) T9715 (rW (c := 0) (d := 46656) h9721 rfl) fun μ9722 u9723 T9724 => ?_
                          refine mr_iconst (pc := 40) (z := 0) dX4_prepare_40 ?_
                          refine mr_istore_n (pc := 41) (lv' := [(2, iv 0), (1, iv 2), (0, .ref 94)]) dX4_prepare_41 rfl (by decide) rfl ?_
                          have L9943 : ∀ (nL9943 : Nat) (z9941 : Int) (μ9942 : mM), mT w μ9942 → mF [98999, 99999] w μ9722 μ9942 → (0 ≤ z9941 ∧ z9941 ≤ 5) → (6 - z9941) < (nL9943 : Int) → sV (gG l D c H0 sa) mX4_prepare (sRm 3 0 0) (sZ (gG l D c H0 sa) 0 0 (qV w [94009, 98999, 99999, 100999] μ (fun μ1 => ∃ o_st : Int, μ1 94 9 = o_st ∧ (1 ≤ o_st) ∧ (radix μ1 100 95 (μ1 94 9)) ∧ True))) 42 [(0, .ref 94), (1, iv 2), (2, iv z9941)] [] (mk w μ9942) 0 0 := by
                            intro nL9943
                            induction nL9943 with
                            | zero => intro z9941 μ9942 T9945 F9946 h9944 h9948; exact ((vc_X12_acted_1 h9948 h9944)).elim
                            | succ nL9943 ih9949 =>
                              intro z9941 μ9942 T9945 F9946 h9944 h9948
                              refine mr_iload_n (pc := 42) (z := z9941) dX4_prepare_42 rfl rfl ?_
                              refine sv_aload_n (pc := 43) dX4_prepare_43 rfl rfl ?_
                              refine gf_X4_12 (pc := 44) dX4_prepare_44 wF_X4_11 (A_94 hw) T9945 ?_
                              refine mr_iload_n (pc := 47) (z := 2) dX4_prepare_47 rfl rfl ?_
                              refine lk_95 (pc := 48) dX4_prepare_48 (A_95 hw) (rIx (n := 7) (rR (x := 2)) rfl) (F9946.f (A_95 hw) rfl (u9723.f (Or.inl (mAt.ne (A_94 hw) (A_95 hw) rfl)) q9717)) ?_
                              refine mr_icmp_ge (pc := 49) (tgt := 67) dX4_prepare_49 (by decide) (r32 h9944 rfl) (r32 h9718 rfl) (fun h9956 => ?_) (fun h9956 => ?_)
                              · refine mr_iinc (pc := 67) (lv' := [(1, iv 1), (0, .ref 94), (2, iv z9941)]) dX4_prepare_67 rfl (by decide) rfl ?_
                                refine sv_goto (pc := 70) (tgt := 8) dX4_prepare_70 (by decide) ?_
                                refine mr_iload_n (pc := 8) (z := 1) dX4_prepare_8 rfl rfl ?_
                                refine mr_iconst (pc := 9) (z := 1) dX4_prepare_9 ?_
                                refine mr_icmp_lt (pc := 10) (tgt := 73) dX4_prepare_10 (by decide) (r32 (rR (x := 1)) rfl) (r32 (rR (x := 1)) rfl) (fun h => ((vc_X12_states_6 h)).elim) (fun _ => ?_)
                                refine sv_aload_n (pc := 13) dX4_prepare_13 rfl rfl ?_
                                refine gf_X4_4 (pc := 14) dX4_prepare_14 wF_X4_27 (A_94 hw) T9945 ?_
                                refine mr_iload_n (pc := 17) (z := 1) dX4_prepare_17 rfl rfl ?_
                                refine sv_aload_n (pc := 18) dX4_prepare_18 rfl rfl ?_
                                refine gk_X4_9 (pc := 19) dX4_prepare_19 wF_X4_59 (A_94 hw) (F9946.f (A_94 hw) rfl u9723.1) ?_
                                refine ss_100 (pc := 22) dX4_prepare_22 (A_100 hw) T9945 (rIx (n := 7) (rR (x := 1)) rfl) (rW (c := 0) (d := 46656) h9721 rfl) fun μ9957 u9958 T9959 => ?_
                                refine sv_aload_n (pc := 23) dX4_prepare_23 rfl rfl ?_
                                refine sv_dup (pc := 24) dX4_prepare_24 rfl ?_
                                refine gk_X4_9 (pc := 25) dX4_prepare_25 wF_X4_59 (A_94 hw) (u9958.f (Or.inl (mAt.ne (A_100 hw) (A_94 hw) rfl)) (F9946.f (A_94 hw) rfl u9723.1)) ?_
                                refine sv_aload_n (pc := 28) dX4_prepare_28 rfl rfl ?_
                                refine gf_X4_12 (pc := 29) dX4_prepare_29 wF_X4_11 (A_94 hw) T9959 ?_
                                refine mr_iload_n (pc := 32) (z := 1) dX4_prepare_32 rfl rfl ?_
                                refine la_95 (pc := 33) dX4_prepare_33 (A_95 hw) T9959 (rIx (n := 7) (rR (x := 1)) rfl) fun z9960 q9961 h9962 => ?_
                                refine mr_iconst (pc := 34) (z := 1) dX4_prepare_34 ?_
                                refine mr_iadd (pc := 35) (x := z9960) (y := 1) dX4_prepare_35 ?_
                                refine mr_imul (pc := 36) (x := z9719) (y := (z9960 + 1)) dX4_prepare_36 ?_
                                refine mr_gen (P := fun z => 1 ≤ z ∧ z ≤ 46656) (rMulP h9721 (rAdd (e := 1) (f := 6) h9962 (rR (x := 1)) rfl) rfl) fun z9963 q9964 h9965 => ?_
                                refine pf_X4_9 (pc := 37) dX4_prepare_37 wF_X4_59 (A_94 hw) T9959 (rW (c := 0) (d := 46656) h9965 rfl) fun μ9966 u9967 T9968 => ?_
                                refine mr_iconst (pc := 40) (z := 0) dX4_prepare_40 ?_
                                refine mr_istore_n (pc := 41) (lv' := [(2, iv 0), (1, iv 1), (0, .ref 94)]) dX4_prepare_41 rfl (by decide) rfl ?_
                                have L10019 : ∀ (nL10019 : Nat) (z10017 : Int) (μ10018 : mM), mT w μ10018 → mF [98999, 99999] w μ9966 μ10018 → (0 ≤ z10017 ∧ z10017 ≤ 5) → (6 - z10017) < (nL10019 : Int) → sV (gG l D c H0 sa) mX4_prepare (sRm 3 0 0) (sZ (gG l D c H0 sa) 0 0 (qV w [94009, 98999, 99999, 100999] μ (fun μ1 => ∃ o_st : Int, μ1 94 9 = o_st ∧ (1 ≤ o_st) ∧ (radix μ1 100 95 (μ1 94 9)) ∧ True))) 42 [(0, .ref 94), (1, iv 1), (2, iv z10017)] [] (mk w μ10018) 0 0 := by
                                  intro nL10019
                                  induction nL10019 with
                                  | zero => intro z10017 μ10018 T10021 F10022 h10020 h10024; exact ((vc_X12_acted_1 h10024 h10020)).elim
                                  | succ nL10019 ih10025 =>
                                    intro z10017 μ10018 T10021 F10022 h10020 h10024
                                    refine mr_iload_n (pc := 42) (z := z10017) dX4_prepare_42 rfl rfl ?_
                                    refine sv_aload_n (pc := 43) dX4_prepare_43 rfl rfl ?_
                                    refine gf_X4_12 (pc := 44) dX4_prepare_44 wF_X4_11 (A_94 hw) T10021 ?_
                                    refine mr_iload_n (pc := 47) (z := 1) dX4_prepare_47 rfl rfl ?_
                                    refine lk_95 (pc := 48) dX4_prepare_48 (A_95 hw) (rIx (n := 7) (rR (x := 1)) rfl) (F10022.f (A_95 hw) rfl (u9967.f (Or.inl (mAt.ne (A_94 hw) (A_95 hw) rfl)) q9961)) ?_
                                    refine mr_icmp_ge (pc := 49) (tgt := 67) dX4_prepare_49 (by decide) (r32 h10020 rfl) (r32 h9962 rfl) (fun h10032 => ?_) (fun h10032 => ?_)
                                    · refine mr_iinc (pc := 67) (lv' := [(1, iv 0), (0, .ref 94), (2, iv z10017)]) dX4_prepare_67 rfl (by decide) rfl ?_
                                      refine sv_goto (pc := 70) (tgt := 8) dX4_prepare_70 (by decide) ?_
                                      refine mr_iload_n (pc := 8) (z := 0) dX4_prepare_8 rfl rfl ?_
                                      refine mr_iconst (pc := 9) (z := 1) dX4_prepare_9 ?_
                                      refine mr_icmp_lt (pc := 10) (tgt := 73) dX4_prepare_10 (by decide) (r32 (rR (x := 0)) rfl) (r32 (rR (x := 1)) rfl) (fun _ => ?_) (fun h => ((vc_X12_states_7 h)).elim)
                                      exact mr_vret dX4_prepare_73 rfl (le_t rfl) (le_t rfl) T10021 (mF.call (mF.up (mF.up (mF.call (mF.up (mF.up (mF.call (mF.up (mF.up (mF.call (mF.up (mF.up (mF.call (mF.up (mF.up (mF.call (mF.up (mF.up (mF.up mF.refl (A_94 hw) u2 rfl) (A_100 hw) u5 rfl) (A_94 hw) u11 rfl) F5274 rfl) (A_100 hw) u5286 rfl) (A_94 hw) u5295 rfl) F7870 rfl) (A_100 hw) u7882 rfl) (A_94 hw) u7891 rfl) F9122 rfl) (A_100 hw) u9134 rfl) (A_94 hw) u9143 rfl) F9702 rfl) (A_100 hw) u9714 rfl) (A_94 hw) u9723 rfl) F9946 rfl) (A_100 hw) u9958 rfl) (A_94 hw) u9967 rfl) F10022 rfl) ⟨z9963, (F10022.f (A_94 hw) rfl u9967.1), (vc_X4_prepare_14 h9965), (by show radix μ10018 100 95 (μ10018 94 9); rw [(F10022.f (A_94 hw) rfl u9967.1)]; exact radix.mk (F10022.f (A_95 hw) rfl (u9967.f (Or.inl (mAt.ne (A_94 hw) (A_95 hw) rfl)) q9961)) (F10022.f (A_95 hw) rfl (u9967.f (Or.inl (mAt.ne (A_94 hw) (A_95 hw) rfl)) (u9958.f (Or.inl (mAt.ne (A_100 hw) (A_95 hw) rfl)) (F9946.f (A_95 hw) rfl (u9723.f (Or.inl (mAt.ne (A_94 hw) (A_95 hw) rfl)) q9717))))) (F10022.f (A_95 hw) rfl (u9967.f (Or.inl (mAt.ne (A_94 hw) (A_95 hw) rfl)) (u9958.f (Or.inl (mAt.ne (A_100 hw) (A_95 hw) rfl)) (F9946.f (A_95 hw) rfl (u9723.f (Or.inl (mAt.ne (A_94 hw) (A_95 hw) rfl)) (u9714.f (Or.inl (mAt.ne (A_100 hw) (A_95 hw) rfl)) (F9702.f (A_95 hw) rfl (u9143.f (Or.inl (mAt.ne (A_94 hw) (A_95 hw) rfl)) q9137)))))))) (F10022.f (A_95 hw) rfl (u9967.f (Or.inl (mAt.ne (A_94 hw) (A_95 hw) rfl)) (u9958.f (Or.inl (mAt.ne (A_100 hw) (A_95 hw) rfl)) (F9946.f (A_95 hw) rfl (u9723.f (Or.inl (mAt.ne (A_94 hw) (A_95 hw) rfl)) (u9714.f (Or.inl (mAt.ne (A_100 hw) (A_95 hw) rfl)) (F9702.f (A_95 hw) rfl (u9143.f (Or.inl (mAt.ne (A_94 hw) (A_95 hw) rfl)) (u9134.f (Or.inl (mAt.ne (A_100 hw) (A_95 hw) rfl)) (F9122.f (A_95 hw) rfl (u7891.f (Or.inl (mAt.ne (A_94 hw) (A_95 hw) rfl)) q7885))))))))))) (F10022.f (A_95 hw) rfl (u9967.f (Or.inl (mAt.ne (A_94 hw) (A_95 hw) rfl)) (u9958.f (Or.inl (mAt.ne (A_100 hw) (A_95 hw) rfl)) (F9946.f (A_95 hw) rfl (u9723.f (Or.inl (mAt.ne (A_94 hw) (A_95 hw) rfl)) (u9714.f (Or.inl (mAt.ne (A_100 hw) (A_95 hw) rfl)) (F9702.f (A_95 hw) rfl (u9143.f (Or.inl (mAt.ne (A_94 hw) (A_95 hw) rfl)) (u9134.f (Or.inl (mAt.ne (A_100 hw) (A_95 hw) rfl)) (F9122.f (A_95 hw) rfl (u7891.f (Or.inl (mAt.ne (A_94 hw) (A_95 hw) rfl)) (u7882.f (Or.inl (mAt.ne (A_100 hw) (A_95 hw) rfl)) (F7870.f (A_95 hw) rfl (u5295.f (Or.inl (mAt.ne (A_94 hw) (A_95 hw) rfl)) q5289)))))))))))))) (F10022.f (A_95 hw) rfl (u9967.f (Or.inl (mAt.ne (A_94 hw) (A_95 hw) rfl)) (u9958.f (Or.inl (mAt.ne (A_100 hw) (A_95 hw) rfl)) (F9946.f (A_95 hw) rfl (u9723.f (Or.inl (mAt.ne (A_94 hw) (A_95 hw) rfl)) (u9714.f (Or.inl (mAt.ne (A_100 hw) (A_95 hw) rfl)) (F9702.f (A_95 hw) rfl (u9143.f (Or.inl (mAt.ne (A_94 hw) (A_95 hw) rfl)) (u9134.f (Or.inl (mAt.ne (A_100 hw) (A_95 hw) rfl)) (F9122.f (A_95 hw) rfl (u7891.f (Or.inl (mAt.ne (A_94 hw) (A_95 hw) rfl)) (u7882.f (Or.inl (mAt.ne (A_100 hw) (A_95 hw) rfl)) (F7870.f (A_95 hw) rfl (u5295.f (Or.inl (mAt.ne (A_94 hw) (A_95 hw) rfl)) (u5286.f (Or.inl (mAt.ne (A_100 hw) (A_95 hw) rfl)) (F5274.f (A_95 hw) rfl (u11.f (Or.inl (mAt.ne (A_94 hw) (A_95 hw) rfl)) q8))))))))))))))))) (F10022.f (A_100 hw) rfl (u9967.f (Or.inl (mAt.ne (A_94 hw) (A_100 hw) rfl)) u9958.1)) (F10022.f (A_100 hw) rfl (u9967.f (Or.inl (mAt.ne (A_94 hw) (A_100 hw) rfl)) (u9958.f (Or.inr vc_X12_states_8) (F9946.f (A_100 hw) rfl (u9723.f (Or.inl (mAt.ne (A_94 hw) (A_100 hw) rfl)) u9714.1))))) (F10022.f (A_100 hw) rfl (u9967.f (Or.inl (mAt.ne (A_94 hw) (A_100 hw) rfl)) (u9958.f (Or.inr vc_X12_states_10) (F9946.f (A_100 hw) rfl (u9723.f (Or.inl (mAt.ne (A_94 hw) (A_100 hw) rfl)) (u9714.f (Or.inr vc_X12_states_9) (F9702.f (A_100 hw) rfl (u9143.f (Or.inl (mAt.ne (A_94 hw) (A_100 hw) rfl)) u9134.1)))))))) (F10022.f (A_100 hw) rfl (u9967.f (Or.inl (mAt.ne (A_94 hw) (A_100 hw) rfl)) (u9958.f (Or.inr vc_X12_states_13) (F9946.f (A_100 hw) rfl (u9723.f (Or.inl (mAt.ne (A_94 hw) (A_100 hw) rfl)) (u9714.f (Or.inr vc_X12_states_12) (F9702.f (A_100 hw) rfl (u9143.f (Or.inl (mAt.ne (A_94 hw) (A_100 hw) rfl)) (u9134.f (Or.inr vc_X12_states_11) (F9122.f (A_100 hw) rfl (u7891.f (Or.inl (mAt.ne (A_94 hw) (A_100 hw) rfl)) u7882.1))))))))))) (F10022.f (A_100 hw) rfl (u9967.f (Or.inl (mAt.ne (A_94 hw) (A_100 hw) rfl)) (u9958.f (Or.inr vc_X12_states_17) (F9946.f (A_100 hw) rfl (u9723.f (Or.inl (mAt.ne (A_94 hw) (A_100 hw) rfl)) (u9714.f (Or.inr vc_X12_states_16) (F9702.f (A_100 hw) rfl (u9143.f (Or.inl (mAt.ne (A_94 hw) (A_100 hw) rfl)) (u9134.f (Or.inr vc_X12_states_15) (F9122.f (A_100 hw) rfl (u7891.f (Or.inl (mAt.ne (A_94 hw) (A_100 hw) rfl)) (u7882.f (Or.inr vc_X12_states_14) (F7870.f (A_100 hw) rfl (u5295.f (Or.inl (mAt.ne (A_94 hw) (A_100 hw) rfl)) u5286.1)))))))))))))) (F10022.f (A_100 hw) rfl (u9967.f (Or.inl (mAt.ne (A_94 hw) (A_100 hw) rfl)) (u9958.f (Or.inr vc_X12_states_22) (F9946.f (A_100 hw) rfl (u9723.f (Or.inl (mAt.ne (A_94 hw) (A_100 hw) rfl)) (u9714.f (Or.inr vc_X12_states_21) (F9702.f (A_100 hw) rfl (u9143.f (Or.inl (mAt.ne (A_94 hw) (A_100 hw) rfl)) (u9134.f (Or.inr vc_X12_states_20) (F9122.f (A_100 hw) rfl (u7891.f (Or.inl (mAt.ne (A_94 hw) (A_100 hw) rfl)) (u7882.f (Or.inr vc_X12_states_19) (F7870.f (A_100 hw) rfl (u5295.f (Or.inl (mAt.ne (A_94 hw) (A_100 hw) rfl)) (u5286.f (Or.inr vc_X12_states_18) (F5274.f (A_100 hw) rfl (u11.f (Or.inl (mAt.ne (A_94 hw) (A_100 hw) rfl)) u5.1))))))))))))))))) (vc_X12_states_r_29 h9721) (vc_X12_states_r_30 h9141) (vc_X12_states_r_31 h7889) (vc_X12_states_r_32 h5293) (vc_X4_prepare_34 h5284 h5272 h9) vc_X12_states_r_34 rfl q5292.symm q7888.symm q9140.symm q9720.symm q9964.symm), trivial⟩
                                    have h10033 : 0 ≤ z10017 ∧ z10017 ≤ 4 := (vc_X12_acted_2 h10032 h10020 h9962)
                                    have h10034 : 1 ≤ z9960 ∧ z9960 ≤ 5 := (vc_X12_acted_3 h10032 h10033 h9962)
                                    refine sv_aload_n (pc := 52) dX4_prepare_52 rfl rfl ?_
                                    refine mr_iload_n (pc := 53) (z := 1) dX4_prepare_53 rfl rfl ?_
                                    refine mr_iconst (pc := 54) (z := 5) dX4_prepare_54 ?_
                                    refine mr_imul (pc := 55) (x := 1) (y := 5) dX4_prepare_55 ?_
                                    refine mr_iload_n (pc := 56) (z := z10017) dX4_prepare_56 rfl rfl ?_
                                    refine mr_iadd (pc := 57) (x := (1 * 5)) (y := z10017) dX4_prepare_57 ?_
                                    refine mr_cVV (pc := 58) (c_X4_need hw T10021 (rW (c := 5) (d := 34) (rAdd (e := 5) (f := 9) (rMulL (n := 1) (e := 5) (f := 5) (rR (x := 5)) rfl) h10033 rfl) rfl)) (gOk _ _ _ _ _) dX4_prepare_58 (tX4_need _ _ _ _ _) ⟨wV_X4_need, wL_X4_need⟩ wM_X4_63 (gCX4 _ _ _ _ _) rfl (A_94 hw) rfl ⟨le_t rfl, le_t rfl⟩ ⟨le_t rfl, le_t rfl⟩ rfl (le_t rfl) fun μ10035 T10036 F10037 h10038 => ?_
                                    refine mr_iinc (pc := 61) (lv' := [(2, iv (z10017 + 1)), (0, .ref 94), (1, iv 1)]) dX4_prepare_61 rfl (by decide) rfl ?_
                                    refine sv_goto (pc := 64) (tgt := 42) dX4_prepare_64 (by decide) ?_
                                    refine mr_lvS (lv' := [(0, .ref 94), (1, iv 1), (2, iv (z10017 + 1))]) (List.forall_mem_cons.mpr ⟨rfl, List.forall_mem_cons.mpr ⟨rfl, List.forall_mem_cons.mpr ⟨rfl, fun _ h => absurd h List.not_mem_nil⟩⟩⟩) ?_
                                    exact ih10025 (z10017 + 1) μ10035 T10036 (mF.call (mF.call mF.refl F10022 rfl) F10037 rfl) (rW (c := 0) (d := 5) (rAdd (e := 1) (f := 5) h10033 (rR (x := 1)) rfl) rfl) (vc_X12_acted_11 (nS h10024) h10032 h10033 h10034)
                                refine mr_lvS (lv' := [(0, .ref 94), (1, iv 1), (2, iv 0)]) (List.forall_mem_cons.mpr ⟨rfl, List.forall_mem_cons.mpr ⟨rfl, List.forall_mem_cons.mpr ⟨rfl, fun _ h => absurd h List.not_mem_nil⟩⟩⟩) ?_
                                exact L10019 7 0 μ9966 T9968 mF.refl (rW (c := 0) (d := 5) (rR (x := 0)) rfl) vc_X12_acted_13
                              have h10039 : 0 ≤ z9941 ∧ z9941 ≤ 4 := (vc_X4_actOf_2 h9956 h9718 h9944)
                              have h10040 : 1 ≤ z9716 ∧ z9716 ≤ 5 := (vc_X4_actOf_3 h9956 h9718 h10039)
                              refine sv_aload_n (pc := 52) dX4_prepare_52 rfl rfl ?_
                              refine mr_iload_n (pc := 53) (z := 2) dX4_prepare_53 rfl rfl ?_
                              refine mr_iconst (pc := 54) (z := 5) dX4_prepare_54 ?_
                              refine mr_imul (pc := 55) (x := 2) (y := 5) dX4_prepare_55 ?_
                              refine mr_iload_n (pc := 56) (z := z9941) dX4_prepare_56 rfl rfl ?_
                              refine mr_iadd (pc := 57) (x := (2 * 5)) (y := z9941) dX4_prepare_57 ?_
                              refine mr_cVV (pc := 58) (c_X4_need hw T9945 (rW (c := 5) (d := 34) (rAdd (e := 10) (f := 14) (rMulL (n := 2) (e := 10) (f := 10) (rR (x := 5)) rfl) h10039 rfl) rfl)) (gOk _ _ _ _ _) dX4_prepare_58 (tX4_need _ _ _ _ _) ⟨wV_X4_need, wL_X4_need⟩ wM_X4_63 (gCX4 _ _ _ _ _) rfl (A_94 hw) rfl ⟨le_t rfl, le_t rfl⟩ ⟨le_t rfl, le_t rfl⟩ rfl (le_t rfl) fun μ10041 T10042 F10043 h10044 => ?_
                              refine mr_iinc (pc := 61) (lv' := [(2, iv (z9941 + 1)), (0, .ref 94), (1, iv 2)]) dX4_prepare_61 rfl (by decide) rfl ?_
                              refine sv_goto (pc := 64) (tgt := 42) dX4_prepare_64 (by decide) ?_
                              refine mr_lvS (lv' := [(0, .ref 94), (1, iv 2), (2, iv (z9941 + 1))]) (List.forall_mem_cons.mpr ⟨rfl, List.forall_mem_cons.mpr ⟨rfl, List.forall_mem_cons.mpr ⟨rfl, fun _ h => absurd h List.not_mem_nil⟩⟩⟩) ?_
                              exact ih9949 (z9941 + 1) μ10041 T10042 (mF.call (mF.call mF.refl F9946 rfl) F10043 rfl) (rW (c := 0) (d := 5) (rAdd (e := 1) (f := 5) h10039 (rR (x := 1)) rfl) rfl) (vc_X4_actOf_6 (nS h9948) h9956 h10040 h10039)
                          refine mr_lvS (lv' := [(0, .ref 94), (1, iv 2), (2, iv 0)]) (List.forall_mem_cons.mpr ⟨rfl, List.forall_mem_cons.mpr ⟨rfl, List.forall_mem_cons.mpr ⟨rfl, fun _ h => absurd h List.not_mem_nil⟩⟩⟩) ?_
                          exact L9943 7 0 μ9722 T9724 mF.refl (rW (c := 0) (d := 5) (rR (x := 0)) rfl) vc_X12_acted_13
                        have h10045 : 0 ≤ z9697 ∧ z9697 ≤ 4 := (vc_X4_actOf_2 h9712 h9138 h9700)
                        have h10046 : 1 ≤ z9136 ∧ z9136 ≤ 5 := (vc_X4_actOf_3 h9712 h9138 h10045)
                        refine sv_aload_n (pc := 52) dX4_prepare_52 rfl rfl ?_
                        refine mr_iload_n (pc := 53) (z := 3) dX4_prepare_53 rfl rfl ?_
                        refine mr_iconst (pc := 54) (z := 5) dX4_prepare_54 ?_
                        refine mr_imul (pc := 55) (x := 3) (y := 5) dX4_prepare_55 ?_
                        refine mr_iload_n (pc := 56) (z := z9697) dX4_prepare_56 rfl rfl ?_
                        refine mr_iadd (pc := 57) (x := (3 * 5)) (y := z9697) dX4_prepare_57 ?_
                        refine mr_cVV (pc := 58) (c_X4_need hw T9701 (rW (c := 5) (d := 34) (rAdd (e := 15) (f := 19) (rMulL (n := 3) (e := 15) (f := 15) (rR (x := 5)) rfl) h10045 rfl) rfl)) (gOk _ _ _ _ _) dX4_prepare_58 (tX4_need _ _ _ _ _) ⟨wV_X4_need, wL_X4_need⟩ wM_X4_63 (gCX4 _ _ _ _ _) rfl (A_94 hw) rfl ⟨le_t rfl, le_t rfl⟩ ⟨le_t rfl, le_t rfl⟩ rfl (le_t rfl) fun μ10047 T10048 F10049 h10050 => ?_
                        refine mr_iinc (pc := 61) (lv' := [(2, iv (z9697 + 1)), (0, .ref 94), (1, iv 3)]) dX4_prepare_61 rfl (by decide) rfl ?_
                        refine sv_goto (pc := 64) (tgt := 42) dX4_prepare_64 (by decide) ?_
                        refine mr_lvS (lv' := [(0, .ref 94), (1, iv 3), (2, iv (z9697 + 1))]) (List.forall_mem_cons.mpr ⟨rfl, List.forall_mem_cons.mpr ⟨rfl, List.forall_mem_cons.mpr ⟨rfl, fun _ h => absurd h List.not_mem_nil⟩⟩⟩) ?_
                        exact ih9705 (z9697 + 1) μ10047 T10048 (mF.call (mF.call mF.refl F9702 rfl) F10049 rfl) (rW (c := 0) (d := 5) (rAdd (e := 1) (f := 5) h10045 (rR (x := 1)) rfl) rfl) (vc_X4_actOf_6 (nS h9704) h9712 h10046 h10045)
                    refine mr_lvS (lv' := [(0, .ref 94), (1, iv 3), (2, iv 0)]) (List.forall_mem_cons.mpr ⟨rfl, List.forall_mem_cons.mpr ⟨rfl, List.forall_mem_cons.mpr ⟨rfl, fun _ h => absurd h List.not_mem_nil⟩⟩⟩) ?_
                    exact L9699 7 0 μ9142 T9144 mF.refl (rW (c := 0) (d := 5) (rR (x := 0)) rfl) vc_X12_acted_13
                  have h10051 : 0 ≤ z9117 ∧ z9117 ≤ 4 := (vc_X4_actOf_2 h9132 h7886 h9120)
                  have h10052 : 1 ≤ z7884 ∧ z7884 ≤ 5 := (vc_X4_actOf_3 h9132 h7886 h10051)
                  refine sv_aload_n (pc := 52) dX4_prepare_52 rfl rfl ?_
                  refine mr_iload_n (pc := 53) (z := 4) dX4_prepare_53 rfl rfl ?_
                  refine mr_iconst (pc := 54) (z := 5) dX4_prepare_54 ?_
                  refine mr_imul (pc := 55) (x := 4) (y := 5) dX4_prepare_55 ?_
                  refine mr_iload_n (pc := 56) (z := z9117) dX4_prepare_56 rfl rfl ?_
                  refine mr_iadd (pc := 57) (x := (4 * 5)) (y := z9117) dX4_prepare_57 ?_
                  refine mr_cVV (pc := 58) (c_X4_need hw T9121 (rW (c := 5) (d := 34) (rAdd (e := 20) (f := 24) (rMulL (n := 4) (e := 20) (f := 20) (rR (x := 5)) rfl) h10051 rfl) rfl)) (gOk _ _ _ _ _) dX4_prepare_58 (tX4_need _ _ _ _ _) ⟨wV_X4_need, wL_X4_need⟩ wM_X4_63 (gCX4 _ _ _ _ _) rfl (A_94 hw) rfl ⟨le_t rfl, le_t rfl⟩ ⟨le_t rfl, le_t rfl⟩ rfl (le_t rfl) fun μ10053 T10054 F10055 h10056 => ?_
                  refine mr_iinc (pc := 61) (lv' := [(2, iv (z9117 + 1)), (0, .ref 94), (1, iv 4)]) dX4_prepare_61 rfl (by decide) rfl ?_
                  refine sv_goto (pc := 64) (tgt := 42) dX4_prepare_64 (by decide) ?_
                  refine mr_lvS (lv' := [(0, .ref 94), (1, iv 4), (2, iv (z9117 + 1))]) (List.forall_mem_cons.mpr ⟨rfl, List.forall_mem_cons.mpr ⟨rfl, List.forall_mem_cons.mpr ⟨rfl, fun _ h => absurd h List.not_mem_nil⟩⟩⟩) ?_
                  exact ih9125 (z9117 + 1) μ10053 T10054 (mF.call (mF.call mF.refl F9122 rfl) F10055 rfl) (rW (c := 0) (d := 5) (rAdd (e := 1) (f := 5) h10051 (rR (x := 1)) rfl) rfl) (vc_X4_actOf_6 (nS h9124) h9132 h10052 h10051)
              refine mr_lvS (lv' := [(0, .ref 94), (1, iv 4), (2, iv 0)]) (List.forall_mem_cons.mpr ⟨rfl, List.forall_mem_cons.mpr ⟨rfl, List.forall_mem_cons.mpr ⟨rfl, fun _ h => absurd h List.not_mem_nil⟩⟩⟩) ?_
              exact L9119 7 0 μ7890 T7892 mF.refl (rW (c := 0) (d := 5) (rR (x := 0)) rfl) vc_X12_acted_13
            have h10057 : 0 ≤ z7865 ∧ z7865 ≤ 4 := (vc_X4_actOf_2 h7880 h5290 h7868)
            have h10058 : 1 ≤ z5288 ∧ z5288 ≤ 5 := (vc_X4_actOf_3 h7880 h5290 h10057)
            refine sv_aload_n (pc := 52) dX4_prepare_52 rfl rfl ?_
            refine mr_iload_n (pc := 53) (z := 5) dX4_prepare_53 rfl rfl ?_
            refine mr_iconst (pc := 54) (z := 5) dX4_prepare_54 ?_
            refine mr_imul (pc := 55) (x := 5) (y := 5) dX4_prepare_55 ?_
            refine mr_iload_n (pc := 56) (z := z7865) dX4_prepare_56 rfl rfl ?_
            refine mr_iadd (pc := 57) (x := (5 * 5)) (y := z7865) dX4_prepare_57 ?_
            refine mr_cVV (pc := 58) (c_X4_need hw T7869 (rW (c := 5) (d := 34) (rAdd (e := 25) (f := 29) (rMulL (n := 5) (e := 25) (f := 25) (rR (x := 5)) rfl) h10057 rfl) rfl)) (gOk _ _ _ _ _) dX4_prepare_58 (tX4_need _ _ _ _ _) ⟨wV_X4_need, wL_X4_need⟩ wM_X4_63 (gCX4 _ _ _ _ _) rfl (A_94 hw) rfl ⟨le_t rfl, le_t rfl⟩ ⟨le_t rfl, le_t rfl⟩ rfl (le_t rfl) fun μ10059 T10060 F10061 h10062 => ?_
            refine mr_iinc (pc := 61) (lv' := [(2, iv (z7865 + 1)), (0, .ref 94), (1, iv 5)]) dX4_prepare_61 rfl (by decide) rfl ?_
            refine sv_goto (pc := 64) (tgt := 42) dX4_prepare_64 (by decide) ?_
            refine mr_lvS (lv' := [(0, .ref 94), (1, iv 5), (2, iv (z7865 + 1))]) (List.forall_mem_cons.mpr ⟨rfl, List.forall_mem_cons.mpr ⟨rfl, List.forall_mem_cons.mpr ⟨rfl, fun _ h => absurd h List.not_mem_nil⟩⟩⟩) ?_
            exact ih7873 (z7865 + 1) μ10059 T10060 (mF.call (mF.call mF.refl F7870 rfl) F10061 rfl) (rW (c := 0) (d := 5) (rAdd (e := 1) (f := 5) h10057 (rR (x := 1)) rfl) rfl) (vc_X4_actOf_6 (nS h7872) h7880 h10058 h10057)
        refine mr_lvS (lv' := [(0, .ref 94), (1, iv 5), (2, iv 0)]) (List.forall_mem_cons.mpr ⟨rfl, List.forall_mem_cons.mpr ⟨rfl, List.forall_mem_cons.mpr ⟨rfl, fun _ h => absurd h List.not_mem_nil⟩⟩⟩) ?_
        exact L7867 7 0 μ5294 T5296 mF.refl (rW (c := 0) (d := 5) (rR (x := 0)) rfl) vc_X12_acted_13
      have h10063 : 0 ≤ z5269 ∧ z5269 ≤ 4 := (vc_X12_acted_2 h5284 h5272 h9)
      have h10064 : 1 ≤ z7 ∧ z7 ≤ 5 := (vc_X12_acted_3 h5284 h10063 h9)
      refine sv_aload_n (pc := 52) dX4_prepare_52 rfl rfl ?_
      refine mr_iload_n (pc := 53) (z := 6) dX4_prepare_53 rfl rfl ?_
      refine mr_iconst (pc := 54) (z := 5) dX4_prepare_54 ?_
      refine mr_imul (pc := 55) (x := 6) (y := 5) dX4_prepare_55 ?_
      refine mr_iload_n (pc := 56) (z := z5269) dX4_prepare_56 rfl rfl ?_
      refine mr_iadd (pc := 57) (x := (6 * 5)) (y := z5269) dX4_prepare_57 ?_
      refine mr_cVV (pc := 58) (c_X4_need hw T5273 (rW (c := 5) (d := 34) (rAdd (e := 30) (f := 34) (rMulL (n := 6) (e := 30) (f := 30) (rR (x := 5)) rfl) h10063 rfl) rfl)) (gOk _ _ _ _ _) dX4_prepare_58 (tX4_need _ _ _ _ _) ⟨wV_X4_need, wL_X4_need⟩ wM_X4_63 (gCX4 _ _ _ _ _) rfl (A_94 hw) rfl ⟨le_t rfl, le_t rfl⟩ ⟨le_t rfl, le_t rfl⟩ rfl (le_t rfl) fun μ10065 T10066 F10067 h10068 => ?_
      refine mr_iinc (pc := 61) (lv' := [(2, iv (z5269 + 1)), (0, .ref 94), (1, iv 6)]) dX4_prepare_61 rfl (by decide) rfl ?_
      refine sv_goto (pc := 64) (tgt := 42) dX4_prepare_64 (by decide) ?_
      refine mr_lvS (lv' := [(0, .ref 94), (1, iv 6), (2, iv (z5269 + 1))]) (List.forall_mem_cons.mpr ⟨rfl, List.forall_mem_cons.mpr ⟨rfl, List.forall_mem_cons.mpr ⟨rfl, fun _ h => absurd h List.not_mem_nil⟩⟩⟩) ?_
      exact ih5277 (z5269 + 1) μ10065 T10066 (mF.call (mF.call mF.refl F5274 rfl) F10067 rfl) (rW (c := 0) (d := 5) (rAdd (e := 1) (f := 5) h10063 (rR (x := 1)) rfl) rfl) (vc_X12_acted_11 (nS h5276) h5284 h10063 h10064)
  refine mr_lvS (lv' := [(0, .ref 94), (1, iv 6), (2, iv 0)]) (List.forall_mem_cons.mpr ⟨rfl, List.forall_mem_cons.mpr ⟨rfl, List.forall_mem_cons.mpr ⟨rfl, fun _ h => absurd h List.not_mem_nil⟩⟩⟩) ?_
  exact L5271 7 0 μ10 T12 mF.refl (rW (c := 0) (d := 5) (rR (x := 0)) rfl) vc_X12_acted_13
theorem vc_X4_countUp_1 {z99 : Int} (h0 : (z99 - 0) < ((0 : Nat) : Int)) (h1 : 1 ≤ z99 ∧ z99 ≤ 6) : False := by omega
theorem vc_X4_countUp_2 {z99 : Int} (h0 : z99 ≤ 1) (h1 : 1 ≤ z99 ∧ z99 ≤ 6) : 1 ≤ z99 ∧ z99 ≤ 1 := by omega
theorem vc_X4_countUp_3 {z99 : Int} (h0 : z99 ≤ 1) (h1 : 1 ≤ z99 ∧ z99 ≤ 1) : 1 ≤ z99 ∧ z99 ≤ 6 := by omega
theorem vc_X4_countUp_4 {g1 z123 : Int} (h0 : z123 ≤ g1) (h1 : 0 ≤ g1 ∧ g1 ≤ 46655) (h2 : 0 ≤ z123 ∧ z123 ≤ 46656) : 0 ≤ z123 ∧ z123 ≤ 46655 := by omega
theorem vc_X4_countUp_5 {g1 z123 : Int} (h0 : z123 ≤ g1) (h1 : 0 ≤ g1 ∧ g1 ≤ 46655) (h2 : 0 ≤ z123 ∧ z123 ≤ 46655) : (z123 + 1) ≤ g1 + 1 := by omega
theorem vc_X4_countUp_6 {z99 : Int} (h0 : 1 < z99) (h1 : 1 ≤ z99 ∧ z99 ≤ 6) : 2 ≤ z99 ∧ z99 ≤ 6 := by omega
theorem vc_X4_countUp_7 {z99 : Int} (h0 : 1 < z99) (h1 : 2 ≤ z99 ∧ z99 ≤ 6) : 1 ≤ z99 ∧ z99 ≤ 6 := by omega
theorem vc_X4_countUp_8 {g1 z132 z135 : Int} (h0 : z132 ≤ g1) (h1 : ¬ z132 = z135) (h2 : 0 ≤ g1 ∧ g1 ≤ 46655) (h3 : 0 ≤ z132 ∧ z132 ≤ 46656) (h4 : 0 ≤ z135 ∧ z135 ≤ 5) : 0 ≤ z132 ∧ z132 ≤ 46655 := by omega
theorem vc_X4_countUp_9 {g1 z132 z135 : Int} (h0 : ¬ z132 = z135) (h1 : z132 ≤ g1) (h2 : 0 ≤ g1 ∧ g1 ≤ 46655) (h3 : 0 ≤ z132 ∧ z132 ≤ 46655) (h4 : 0 ≤ z135 ∧ z135 ≤ 5) : (z132 + 1) ≤ g1 + 1 := by omega
theorem vc_X4_countUp_11 {N z99 : Int} (h0 : (z99 - 0) < N + 1) (h1 : 1 < z99) (h2 : 2 ≤ z99 ∧ z99 ≤ 6) : ((z99 + (-1)) - 0) < N := by omega
set_option maxRecDepth 4000 in
set_option maxHeartbeats 4000000 in
theorem c_X4_countUp {l : Launch} {D : va_G} {c : Nat → ClassId} {H0 : Heap} {sa : Nat × Nat × (Nat → Int32)} {w : mW} {μ : mM} (hw : mWF w) (hT : mT w μ) {g1 : Int} (hg1 : 0 ≤ g1 ∧ g1 ≤ 46655) (hle : hasLe μ g1) (hn0 : (0 : Int) ≤ g1) : sC (gG l D c H0 sa) mX4_countUp 1 0 0 [.ref 94] (mk w μ) (qV w [101999] μ (fun μ1 => (hasLe μ1 (g1 + 1)) ∧ True)) := by
  refine sC.of rfl (by decide) (le_t rfl) ?_
  refine mr_lvE (lv' := [(0, .ref 94)]) rfl ?_
  refine mr_bipush (pc := 0) (z := 6) dX4_countUp_0 (by decide) ?_
  refine mr_istore_n (pc := 2) (lv' := [(1, iv 6), (0, .ref 94)]) dX4_countUp_2 rfl (by decide) rfl ?_
  have L101 : ∀ (nL101 : Nat) (z99 : Int) (μ100 : mM), mT w μ100 → mF [101999] w μ μ100 → (1 ≤ z99 ∧ z99 ≤ 6) → hasLe μ100 g1 → (z99 - 0) < (nL101 : Int) → sV (gG l D c H0 sa) mX4_countUp (sRm 1 0 0) (sZ (gG l D c H0 sa) 0 0 (qV w [101999] μ (fun μ1 => (hasLe μ1 (g1 + 1)) ∧ True))) 3 [(0, .ref 94), (1, iv z99)] [] (mk w μ100) 0 0 := by
    intro nL101
    induction nL101 with
    | zero => intro z99 μ100 T103 F104 h102 R106 h107; exact ((vc_X4_countUp_1 h107 h102)).elim
    | succ nL101 ih108 =>
      intro z99 μ100 T103 F104 h102 R106 h107
      refine mr_iload_n (pc := 3) (z := z99) dX4_countUp_3 rfl rfl ?_
      refine mr_iconst (pc := 4) (z := 1) dX4_countUp_4 ?_
      refine mr_icmp_le (pc := 5) (tgt := 36) dX4_countUp_5 (by decide) (r32 h102 rfl) (r32 (rR (x := 1)) rfl) (fun h121 => ?_) (fun h121 => ?_)
      · have h122 : 1 ≤ z99 ∧ z99 ≤ 1 := (vc_X4_countUp_2 h121 h102)
        refine sv_aload_n (pc := 36) dX4_countUp_36 rfl rfl ?_
        refine gf_X4_5 (pc := 37) dX4_countUp_37 wF_X4_30 (A_94 hw) T103 ?_
        refine mr_iload_n (pc := 40) (z := z99) dX4_countUp_40 rfl rfl ?_
        refine sv_dup2 (pc := 41) dX4_countUp_41 rfl rfl ?_
        refine la_101 (pc := 42) dX4_countUp_42 (A_101 hw) T103 (rIx (n := 7) h122 rfl) fun z123 q124 h125 => ?_
        have h126 : z123 ≤ g1 := hasLe.at R106 (vc_X4_countUp_3 h121 h122) q124
        have h127 : 0 ≤ z123 ∧ z123 ≤ 46655 := (vc_X4_countUp_4 h126 hg1 h125)
        refine mr_iconst (pc := 43) (z := 1) dX4_countUp_43 ?_
        refine mr_iadd (pc := 44) (x := z123) (y := 1) dX4_countUp_44 ?_
        refine ss_101 (pc := 45) dX4_countUp_45 (A_101 hw) T103 (rIx (n := 7) h122 rfl) (rW (c := 0) (d := 46656) (rAdd (e := 1) (f := 46656) h127 (rR (x := 1)) rfl) rfl) fun μ128 u129 T130 => ?_
        exact mr_vret dX4_countUp_46 rfl (le_t rfl) (le_t rfl) T130 (mF.up (mF.call mF.refl F104 rfl) (A_101 hw) u129 rfl) ⟨(hasLe.up (hasLe.le R106 (show g1 ≤ g1 + 1 by omega)) u129 (vc_X4_countUp_5 h126 hg1 h127)), trivial⟩
      have h131 : 2 ≤ z99 ∧ z99 ≤ 6 := (vc_X4_countUp_6 h121 h102)
      refine sv_aload_n (pc := 8) dX4_countUp_8 rfl rfl ?_
      refine gf_X4_5 (pc := 9) dX4_countUp_9 wF_X4_30 (A_94 hw) T103 ?_
      refine mr_iload_n (pc := 12) (z := z99) dX4_countUp_12 rfl rfl ?_
      refine la_101 (pc := 13) dX4_countUp_13 (A_101 hw) T103 (rIx (n := 7) h131 rfl) fun z132 q133 h134 => ?_
      refine sv_aload_n (pc := 14) dX4_countUp_14 rfl rfl ?_
      refine gf_X4_12 (pc := 15) dX4_countUp_15 wF_X4_11 (A_94 hw) T103 ?_
      refine mr_iload_n (pc := 18) (z := z99) dX4_countUp_18 rfl rfl ?_
      refine la_95 (pc := 19) dX4_countUp_19 (A_95 hw) T103 (rIx (n := 7) h131 rfl) fun z135 q136 h137 => ?_
      refine mr_icmp_ne (pc := 20) (tgt := 36) dX4_countUp_20 (by decide) (r32 h134 rfl) (r32 h137 rfl) (fun h142 => ?_) (fun h142 => ?_)
      · refine sv_aload_n (pc := 36) dX4_countUp_36 rfl rfl ?_
        refine gf_X4_5 (pc := 37) dX4_countUp_37 wF_X4_30 (A_94 hw) T103 ?_
        refine mr_iload_n (pc := 40) (z := z99) dX4_countUp_40 rfl rfl ?_
        refine sv_dup2 (pc := 41) dX4_countUp_41 rfl rfl ?_
        refine lk_101 (pc := 42) dX4_countUp_42 (A_101 hw) (rIx (n := 7) h131 rfl) q133 ?_
        have h143 : z132 ≤ g1 := hasLe.at R106 (vc_X4_countUp_7 h121 h131) q133
        have h144 : 0 ≤ z132 ∧ z132 ≤ 46655 := (vc_X4_countUp_8 h143 h142 hg1 h134 h137)
        refine mr_iconst (pc := 43) (z := 1) dX4_countUp_43 ?_
        refine mr_iadd (pc := 44) (x := z132) (y := 1) dX4_countUp_44 ?_
        refine ss_101 (pc := 45) dX4_countUp_45 (A_101 hw) T103 (rIx (n := 7) h131 rfl) (rW (c := 0) (d := 46656) (rAdd (e := 1) (f := 46656) h144 (rR (x := 1)) rfl) rfl) fun μ145 u146 T147 => ?_
        exact mr_vret dX4_countUp_46 rfl (le_t rfl) (le_t rfl) T147 (mF.up (mF.call mF.refl F104 rfl) (A_101 hw) u146 rfl) ⟨(hasLe.up (hasLe.le R106 (show g1 ≤ g1 + 1 by omega)) u146 (vc_X4_countUp_9 h142 h143 hg1 h144 h137)), trivial⟩
      have h148 : 0 ≤ z132 ∧ z132 ≤ 5 := (vc_X4_isRest_4 h142 h134 h137)
      refine sv_aload_n (pc := 23) dX4_countUp_23 rfl rfl ?_
      refine gf_X4_5 (pc := 24) dX4_countUp_24 wF_X4_30 (A_94 hw) T103 ?_
      refine mr_iload_n (pc := 27) (z := z99) dX4_countUp_27 rfl rfl ?_
      refine mr_iconst (pc := 28) (z := 0) dX4_countUp_28 ?_
      refine ss_101 (pc := 29) dX4_countUp_29 (A_101 hw) T103 (rIx (n := 7) h131 rfl) (rW (c := 0) (d := 46656) (rR (x := 0)) rfl) fun μ149 u150 T151 => ?_
      refine mr_iinc (pc := 30) (lv' := [(1, iv (z99 + (-1))), (0, .ref 94)]) dX4_countUp_30 rfl (by decide) rfl ?_
      refine sv_goto (pc := 33) (tgt := 3) dX4_countUp_33 (by decide) ?_
      refine mr_lvS (lv' := [(0, .ref 94), (1, iv (z99 + (-1)))]) (List.forall_mem_cons.mpr ⟨rfl, List.forall_mem_cons.mpr ⟨rfl, fun _ h => absurd h List.not_mem_nil⟩⟩) ?_
      exact ih108 (z99 + (-1)) μ149 T151 (mF.up (mF.call mF.refl F104 rfl) (A_101 hw) u150 rfl) (rW (c := 1) (d := 6) (rAdd (e := 1) (f := 5) h131 (rR (x := (-1))) rfl) rfl) (hasLe.up R106 u150 hn0) (vc_X4_countUp_11 (nS h107) h121 h131)
  refine mr_lvS (lv' := [(0, .ref 94), (1, iv 6)]) (List.forall_mem_cons.mpr ⟨rfl, List.forall_mem_cons.mpr ⟨rfl, fun _ h => absurd h List.not_mem_nil⟩⟩) ?_
  exact L101 7 6 μ hT mF.refl (rW (c := 1) (d := 6) (rR (x := 6)) rfl) hle vc_X12_acted_13
set_option maxRecDepth 4000 in
set_option maxHeartbeats 4000000 in
theorem c_X4_actOf_v {l : Launch} {D : va_G} {c : Nat → ClassId} {H0 : Heap} {sa : Nat × Nat × (Nat → Int32)} {w : mW} {μ : mM} (hw : mWF w) (hT : mT w μ) {p1 : Int} (hp1 : 1 ≤ p1 ∧ p1 ≤ 6) {f_vp : Int} (q_f_vp : μ 95 (p1.toNat) = f_vp) : sC (gG l D c H0 sa) mX4_actOf 1 0 0 [.ref 94, iv p1] (mk w μ) (qP w μ (fun z => (0 ≤ z ∧ z ≤ 5) ∧ (z ≤ f_vp) ∧ True)) := by
  refine sC.of rfl (by decide) (le_t rfl) ?_
  have ht_f_vp : (0 ≤ f_vp ∧ f_vp ≤ 5) := by rw [← q_f_vp]; exact hT 95 95 (A_95 hw) (p1.toNat)
  refine mr_lvE (lv' := [(0, .ref 94), (1, iv p1)]) rfl ?_
  refine mr_iconst (pc := 0) (z := 0) dX4_actOf_0 ?_
  refine mr_istore_n (pc := 1) (lv' := [(2, iv 0), (0, .ref 94), (1, iv p1)]) dX4_actOf_1 rfl (by decide) rfl ?_
  have L226 : ∀ (nL226 : Nat) (z225 : Int), True → (0 ≤ z225 ∧ z225 ≤ 5) → (6 - z225) < (nL226 : Int) → sV (gG l D c H0 sa) mX4_actOf (sRm 1 0 0) (sZ (gG l D c H0 sa) 0 0 (qP w μ (fun z => (0 ≤ z ∧ z ≤ 5) ∧ (z ≤ f_vp) ∧ True))) 2 [(0, .ref 94), (1, iv p1), (2, iv z225)] [] (mk w μ) 0 0 := by
    intro nL226
    induction nL226 with
    | zero => intro z225 _ h227 h231; exact ((vc_X12_acted_1 h231 h227)).elim
    | succ nL226 ih232 =>
      intro z225 _ h227 h231
      refine mr_iload_n (pc := 2) (z := z225) dX4_actOf_2 rfl rfl ?_
      refine sv_aload_n (pc := 3) dX4_actOf_3 rfl rfl ?_
      refine gf_X4_12 (pc := 4) dX4_actOf_4 wF_X4_11 (A_94 hw) hT ?_
      refine mr_iload_n (pc := 7) (z := p1) dX4_actOf_7 rfl rfl ?_
      refine lk_95 (pc := 8) dX4_actOf_8 (A_95 hw) (rIx (n := 7) hp1 rfl) q_f_vp ?_
      refine mr_icmp_ge (pc := 9) (tgt := 55) dX4_actOf_9 (by decide) (r32 h227 rfl) (r32 ht_f_vp rfl) (fun h233 => ?_) (fun h233 => ?_)
      · refine sv_aload_n (pc := 55) dX4_actOf_55 rfl rfl ?_
        refine gf_X4_12 (pc := 56) dX4_actOf_56 wF_X4_11 (A_94 hw) hT ?_
        refine mr_iload_n (pc := 59) (z := p1) dX4_actOf_59 rfl rfl ?_
        refine lk_95 (pc := 60) dX4_actOf_60 (A_95 hw) (rIx (n := 7) hp1 rfl) q_f_vp ?_
        exact mr_iretP dX4_actOf_61 rfl (le_t rfl) (le_t rfl) ⟨ht_f_vp, (vc_X12_acted_v_2 h233 ht_f_vp h227), trivial⟩
      have h234 : 0 ≤ z225 ∧ z225 ≤ 4 := (vc_X4_actOf_2 h233 ht_f_vp h227)
      have h235 : 1 ≤ f_vp ∧ f_vp ≤ 5 := (vc_X4_actOf_3 h233 ht_f_vp h234)
      refine mr_iload_n (pc := 12) (z := p1) dX4_actOf_12 rfl rfl ?_
      refine mr_iconst (pc := 13) (z := 5) dX4_actOf_13 ?_
      refine mr_imul (pc := 14) (x := p1) (y := 5) dX4_actOf_14 ?_
      refine mr_iload_n (pc := 15) (z := z225) dX4_actOf_15 rfl rfl ?_
      refine mr_iadd (pc := 16) (x := (p1 * 5)) (y := z225) dX4_actOf_16 ?_
      refine mr_istore_n (pc := 17) (lv' := [(3, iv ((p1 * 5) + z225)), (0, .ref 94), (1, iv p1), (2, iv z225)]) dX4_actOf_17 rfl (by decide) rfl ?_
      refine sv_aload_n (pc := 18) dX4_actOf_18 rfl rfl ?_
      refine gf_X4_2 (pc := 19) dX4_actOf_19 wF_X4_21 (A_94 hw) hT ?_
      refine mr_iload_n (pc := 22) (z := ((p1 * 5) + z225)) dX4_actOf_22 rfl rfl ?_
      refine la_98 (pc := 23) dX4_actOf_23 (A_98 hw) hT (rIx (n := 35) (rAdd (e := 5) (f := 34) (rMulR (n := 5) (e := 5) (f := 30) hp1 rfl) h234 rfl) rfl) fun z236 q237 h238 => ?_
      refine mr_istore (pc := 24) (lv' := [(4, iv z236), (3, iv ((p1 * 5) + z225)), (0, .ref 94), (1, iv p1), (2, iv z225)]) dX4_actOf_24 (by decide) rfl ?_
      refine mr_iload (pc := 26) (z := z236) dX4_actOf_26 rfl ?_
      refine mr_if_eq (pc := 28) (tgt := 47) dX4_actOf_28 (by decide) (r32 h238 rfl) (fun h239 => ?_) (fun h239 => ?_)
      · have h240 : 0 ≤ z236 ∧ z236 ≤ 0 := (vc_X12_isOffered_13 h239 h238)
        refine mr_iload_n (pc := 47) (z := z225) dX4_actOf_47 rfl rfl ?_
        exact mr_iretP dX4_actOf_48 rfl (le_t rfl) (le_t rfl) ⟨(rW (c := 0) (d := 5) h234 rfl), (vc_X12_acted_v_14 h233 h235 h234), trivial⟩
      have h241 : 1 ≤ z236 ∧ z236 ≤ 6 := (vc_X12_isOffered_1 h239 h238)
      refine sv_aload_n (pc := 31) dX4_actOf_31 rfl rfl ?_
      refine gf_X4_5 (pc := 32) dX4_actOf_32 wF_X4_30 (A_94 hw) hT ?_
      refine mr_iload (pc := 35) (z := z236) dX4_actOf_35 rfl ?_
      refine la_101 (pc := 37) dX4_actOf_37 (A_101 hw) hT (rIx (n := 7) h241 rfl) fun z242 q243 h244 => ?_
      refine sv_aload_n (pc := 38) dX4_actOf_38 rfl rfl ?_
      refine gf_X4_3 (pc := 39) dX4_actOf_39 wF_X4_24 (A_94 hw) hT ?_
      refine mr_iload_n (pc := 42) (z := ((p1 * 5) + z225)) dX4_actOf_42 rfl rfl ?_
      refine la_99 (pc := 43) dX4_actOf_43 (A_99 hw) hT (rIx (n := 35) (rAdd (e := 5) (f := 34) (rMulR (n := 5) (e := 5) (f := 30) hp1 rfl) h234 rfl) rfl) fun z245 q246 h247 => ?_
      refine mr_icmp_ne (pc := 44) (tgt := 49) dX4_actOf_44 (by decide) (r32 h244 rfl) (r32 h247 rfl) (fun h248 => ?_) (fun h248 => ?_)
      · refine mr_iinc (pc := 49) (lv' := [(2, iv (z225 + 1)), (4, iv z236), (3, iv ((p1 * 5) + z225)), (0, .ref 94), (1, iv p1)]) dX4_actOf_49 rfl (by decide) rfl ?_
        refine sv_goto (pc := 52) (tgt := 2) dX4_actOf_52 (by decide) ?_
        refine mr_lvS (lv' := [(0, .ref 94), (1, iv p1), (2, iv (z225 + 1))]) (List.forall_mem_cons.mpr ⟨rfl, List.forall_mem_cons.mpr ⟨rfl, List.forall_mem_cons.mpr ⟨rfl, fun _ h => absurd h List.not_mem_nil⟩⟩⟩) ?_
        exact ih232 (z225 + 1) trivial (rW (c := 0) (d := 5) (rAdd (e := 1) (f := 5) h234 (rR (x := 1)) rfl) rfl) (vc_X4_actOf_6 (nS h231) h233 h235 h234)
      have h249 : 0 ≤ z242 ∧ z242 ≤ 5 := (vc_X4_actOf_7 h248 h244 h247)
      have h250 : 0 ≤ z245 ∧ z245 ≤ 5 := (vc_X4_actOf_8 h248 h249 h247)
      refine mr_iload_n (pc := 47) (z := z225) dX4_actOf_47 rfl rfl ?_
      exact mr_iretP dX4_actOf_48 rfl (le_t rfl) (le_t rfl) ⟨(rW (c := 0) (d := 5) h234 rfl), (vc_X12_acted_v_14 h233 h235 h234), trivial⟩
  refine mr_lvS (lv' := [(0, .ref 94), (1, iv p1), (2, iv 0)]) (List.forall_mem_cons.mpr ⟨rfl, List.forall_mem_cons.mpr ⟨rfl, List.forall_mem_cons.mpr ⟨rfl, fun _ h => absurd h List.not_mem_nil⟩⟩⟩) ?_
  exact L226 7 0 trivial (rW (c := 0) (d := 5) (rR (x := 0)) rfl) vc_X12_acted_13
theorem vc_X4_figure_r_2 {f_w : Int} (h0 : f_w ≤ 0) (h1 : 1 ≤ f_w ∧ f_w ≤ 46656) : False := by omega
set_option maxRecDepth 4000 in
set_option maxHeartbeats 4000000 in
theorem c_X4_figure_r {l : Launch} {D : va_G} {c : Nat → ClassId} {H0 : Heap} {sa : Nat × Nat × (Nat → Int32)} {w : mW} {μ : mM} (hw : mWF w) (hT : mT w μ) {p1 : Int} (hp1 : 0 ≤ p1 ∧ p1 ≤ 46655) {p2 : Int} (hp2 : 1 ≤ p2 ∧ p2 ≤ 6) {f_w : Int} (q_f_w : μ 100 (p2.toNat) = f_w) {f_v : Int} (q_f_v : μ 95 (p2.toNat) = f_v) (hq0 : 1 ≤ f_w) : sC (gG l D c H0 sa) mX4_figure 1 0 0 [.ref 94, iv p1, iv p2] (mk w μ) (qP w μ (fun z => (0 ≤ z ∧ z ≤ 5) ∧ (z ≤ f_v) ∧ (z = p1 / μ 100 p2.toNat % (μ 95 p2.toNat + 1)) ∧ True)) := by
  refine sC.of rfl (by decide) (le_t rfl) ?_
  have ht_f_w : (0 ≤ f_w ∧ f_w ≤ 46656) := by rw [← q_f_w]; exact hT 100 100 (A_100 hw) (p2.toNat)
  have ht_f_v : (0 ≤ f_v ∧ f_v ≤ 5) := by rw [← q_f_v]; exact hT 95 95 (A_95 hw) (p2.toNat)
  have h1 : 1 ≤ f_w ∧ f_w ≤ 46656 := (vc_X12_open_1 hq0 ht_f_w)
  refine mr_lvE (lv' := [(0, .ref 94), (1, iv p1), (2, iv p2)]) rfl ?_
  refine sv_aload_n (pc := 0) dX4_figure_0 rfl rfl ?_
  refine gf_X4_4 (pc := 1) dX4_figure_1 wF_X4_27 (A_94 hw) hT ?_
  refine mr_iload_n (pc := 4) (z := p2) dX4_figure_4 rfl rfl ?_
  refine lk_100 (pc := 5) dX4_figure_5 (A_100 hw) (rIx (n := 7) hp2 rfl) q_f_w ?_
  refine mr_istore_n (pc := 6) (lv' := [(3, iv f_w), (0, .ref 94), (1, iv p1), (2, iv p2)]) dX4_figure_6 rfl (by decide) rfl ?_
  refine mr_iload_n (pc := 7) (z := f_w) dX4_figure_7 rfl rfl ?_
  refine mr_if_le (pc := 8) (tgt := 26) dX4_figure_8 (by decide) (r32 h1 rfl) (fun h => ((vc_X4_figure_r_2 h h1)).elim) (fun _ => ?_)
  refine mr_iload_n (pc := 11) (z := p1) dX4_figure_11 rfl rfl ?_
  refine mr_iload_n (pc := 12) (z := f_w) dX4_figure_12 rfl rfl ?_
  refine mr_idiv (pc := 13) (x := p1) (y := f_w) dX4_figure_13 (rW (c := 0) (d := 2147483647) hp1 rfl) (vc_X12_open_8 hq0 h1) ?_
  refine mr_gen (P := fun z => 0 ≤ z ∧ z ≤ 46655) (rDivV hp1 (vc_X12_open_8 hq0 h1) rfl) fun z20 q21 h22 => ?_
  refine sv_aload_n (pc := 14) dX4_figure_14 rfl rfl ?_
  refine gf_X4_12 (pc := 15) dX4_figure_15 wF_X4_11 (A_94 hw) hT ?_
  refine mr_iload_n (pc := 18) (z := p2) dX4_figure_18 rfl rfl ?_
  refine lk_95 (pc := 19) dX4_figure_19 (A_95 hw) (rIx (n := 7) hp2 rfl) q_f_v ?_
  refine mr_iconst (pc := 20) (z := 1) dX4_figure_20 ?_
  refine mr_iadd (pc := 21) (x := f_v) (y := 1) dX4_figure_21 ?_
  refine mr_irem (pc := 22) (x := z20) (y := (f_v + 1)) dX4_figure_22 (rW (c := 0) (d := 2147483647) h22 rfl) (vc_X12_open_9 ht_f_v) ?_
  refine mr_gen (P := fun z => 0 ≤ z ∧ z ≤ 5) (rModV (rAdd (e := 1) (f := 6) ht_f_v (rR (x := 1)) rfl) (vc_X12_open_9 ht_f_v) rfl) fun z23 q24 h25 => ?_
  refine sv_goto (pc := 23) (tgt := 27) dX4_figure_23 (by decide) ?_
  exact mr_iretP dX4_figure_27 rfl (le_t rfl) (le_t rfl) ⟨h25, (vc_X12_open_41 (q24 ▸ Int.emod_lt_of_pos z20 (vc_X12_open_9 ht_f_v).1) ht_f_v h25), (figE q_f_w q_f_v q21 q24), trivial⟩
theorem vc_X4_unfold_r_7 (h0 : (7 : Int) ≤ (1 : Int)) : False := by omega
theorem vc_X4_unfold_r_9 (h0 : (7 : Int) ≤ (2 : Int)) : False := by omega
theorem vc_X4_unfold_r_11 (h0 : (7 : Int) ≤ (3 : Int)) : False := by omega
theorem vc_X4_unfold_r_13 (h0 : (7 : Int) ≤ (4 : Int)) : False := by omega
theorem vc_X4_unfold_r_15 (h0 : (7 : Int) ≤ (5 : Int)) : False := by omega
theorem vc_X4_unfold_r_19 (h0 : (7 : Int) < (7 : Int)) : False := by omega
set_option maxRecDepth 4000 in
set_option maxHeartbeats 4000000 in
theorem c_X4_unfold_r {l : Launch} {D : va_G} {c : Nat → ClassId} {H0 : Heap} {sa : Nat × Nat × (Nat → Int32)} {w : mW} {μ : mM} (hw : mWF w) (hT : mT w μ) {p1 : Int} (hp1 : 0 ≤ p1 ∧ p1 ≤ 46655) {f_w1 : Int} (q_f_w1 : μ 100 ((1 : Int).toNat) = f_w1) {f_w2 : Int} (q_f_w2 : μ 100 ((2 : Int).toNat) = f_w2) {f_w3 : Int} (q_f_w3 : μ 100 ((3 : Int).toNat) = f_w3) {f_w4 : Int} (q_f_w4 : μ 100 ((4 : Int).toNat) = f_w4) {f_w5 : Int} (q_f_w5 : μ 100 ((5 : Int).toNat) = f_w5) {f_w6 : Int} (q_f_w6 : μ 100 ((6 : Int).toNat) = f_w6) {f_v1 : Int} (q_f_v1 : μ 95 ((1 : Int).toNat) = f_v1) {f_v2 : Int} (q_f_v2 : μ 95 ((2 : Int).toNat) = f_v2) {f_v3 : Int} (q_f_v3 : μ 95 ((3 : Int).toNat) = f_v3) {f_v4 : Int} (q_f_v4 : μ 95 ((4 : Int).toNat) = f_v4) {f_v5 : Int} (q_f_v5 : μ 95 ((5 : Int).toNat) = f_v5) {f_v6 : Int} (q_f_v6 : μ 95 ((6 : Int).toNat) = f_v6) (hq0 : 1 ≤ f_w1) (hq1 : 1 ≤ f_w2) (hq2 : 1 ≤ f_w3) (hq3 : 1 ≤ f_w4) (hq4 : 1 ≤ f_w5) (hq5 : 1 ≤ f_w6) : sC (gG l D c H0 sa) mX4_unfold 2 0 0 [.ref 94, iv p1] (mk w μ) (qV w [101999] μ (fun μ1 => (digs μ1 101 100 95 p1) ∧ True)) := by
  refine sC.of rfl (by decide) (le_t rfl) ?_
  have ht_f_w1 : (0 ≤ f_w1 ∧ f_w1 ≤ 46656) := by rw [← q_f_w1]; exact hT 100 100 (A_100 hw) ((1 : Int).toNat)
  have ht_f_w2 : (0 ≤ f_w2 ∧ f_w2 ≤ 46656) := by rw [← q_f_w2]; exact hT 100 100 (A_100 hw) ((2 : Int).toNat)
  have ht_f_w3 : (0 ≤ f_w3 ∧ f_w3 ≤ 46656) := by rw [← q_f_w3]; exact hT 100 100 (A_100 hw) ((3 : Int).toNat)
  have ht_f_w4 : (0 ≤ f_w4 ∧ f_w4 ≤ 46656) := by rw [← q_f_w4]; exact hT 100 100 (A_100 hw) ((4 : Int).toNat)
  have ht_f_w5 : (0 ≤ f_w5 ∧ f_w5 ≤ 46656) := by rw [← q_f_w5]; exact hT 100 100 (A_100 hw) ((5 : Int).toNat)
  have ht_f_w6 : (0 ≤ f_w6 ∧ f_w6 ≤ 46656) := by rw [← q_f_w6]; exact hT 100 100 (A_100 hw) ((6 : Int).toNat)
  have ht_f_v1 : (0 ≤ f_v1 ∧ f_v1 ≤ 5) := by rw [← q_f_v1]; exact hT 95 95 (A_95 hw) ((1 : Int).toNat)
  have ht_f_v2 : (0 ≤ f_v2 ∧ f_v2 ≤ 5) := by rw [← q_f_v2]; exact hT 95 95 (A_95 hw) ((2 : Int).toNat)
  have ht_f_v3 : (0 ≤ f_v3 ∧ f_v3 ≤ 5) := by rw [← q_f_v3]; exact hT 95 95 (A_95 hw) ((3 : Int).toNat)
  have ht_f_v4 : (0 ≤ f_v4 ∧ f_v4 ≤ 5) := by rw [← q_f_v4]; exact hT 95 95 (A_95 hw) ((4 : Int).toNat)
  have ht_f_v5 : (0 ≤ f_v5 ∧ f_v5 ≤ 5) := by rw [← q_f_v5]; exact hT 95 95 (A_95 hw) ((5 : Int).toNat)
  have ht_f_v6 : (0 ≤ f_v6 ∧ f_v6 ≤ 5) := by rw [← q_f_v6]; exact hT 95 95 (A_95 hw) ((6 : Int).toNat)
  have h1 : 1 ≤ f_w1 ∧ f_w1 ≤ 46656 := (vc_X12_open_1 hq0 ht_f_w1)
  have h2 : 1 ≤ f_w2 ∧ f_w2 ≤ 46656 := (vc_X12_open_1 hq1 ht_f_w2)
  have h3 : 1 ≤ f_w3 ∧ f_w3 ≤ 46656 := (vc_X12_open_1 hq2 ht_f_w3)
  have h4 : 1 ≤ f_w4 ∧ f_w4 ≤ 46656 := (vc_X12_open_1 hq3 ht_f_w4)
  have h5 : 1 ≤ f_w5 ∧ f_w5 ≤ 46656 := (vc_X12_open_1 hq4 ht_f_w5)
  have h6 : 1 ≤ f_w6 ∧ f_w6 ≤ 46656 := (vc_X12_open_1 hq5 ht_f_w6)
  refine mr_lvE (lv' := [(0, .ref 94), (1, iv p1)]) rfl ?_
  refine mr_iconst (pc := 0) (z := 1) dX4_unfold_0 ?_
  refine mr_istore_n (pc := 1) (lv' := [(2, iv 1), (0, .ref 94), (1, iv p1)]) dX4_unfold_1 rfl (by decide) rfl ?_
  refine mr_iload_n (pc := 2) (z := 1) dX4_unfold_2 rfl rfl ?_
  refine mr_bipush (pc := 3) (z := 7) dX4_unfold_3 (by decide) ?_
  refine mr_icmp_ge (pc := 5) (tgt := 26) dX4_unfold_5 (by decide) (r32 (rR (x := 1)) rfl) (r32 (rR (x := 7)) rfl) (fun h => ((vc_X4_unfold_r_7 h)).elim) (fun _ => ?_)
  refine sv_aload_n (pc := 8) dX4_unfold_8 rfl rfl ?_
  refine gf_X4_5 (pc := 9) dX4_unfold_9 wF_X4_30 (A_94 hw) hT ?_
  refine mr_iload_n (pc := 12) (z := 1) dX4_unfold_12 rfl rfl ?_
  refine sv_aload_n (pc := 13) dX4_unfold_13 rfl rfl ?_
  refine mr_iload_n (pc := 14) (z := p1) dX4_unfold_14 rfl rfl ?_
  refine mr_iload_n (pc := 15) (z := 1) dX4_unfold_15 rfl rfl ?_
  refine mr_cVP (pc := 16) (c_X4_figure_r hw hT hp1 (rW (c := 1) (d := 6) (rR (x := 1)) rfl) q_f_w1 q_f_v1 (vc_X12_isRest_7 hq0 h1)) (gOk _ _ _ _ _) dX4_unfold_16 (tX4_figure _ _ _ _ _) ⟨wV_X4_figure, wL_X4_figure⟩ wM_X4_75 (gCX4 _ _ _ _ _) rfl (A_94 hw) rfl ⟨le_t rfl, le_t rfl⟩ ⟨le_t rfl, le_t rfl⟩ rfl (le_t rfl) fun z155 h154 => ?_
  have h156 : z155 = p1 / f_w1 % (f_v1 + 1) := figV h154.2.2.1 q_f_w1 q_f_v1
  refine ss_101 (pc := 19) dX4_unfold_19 (A_101 hw) hT (rIx (n := 7) (rR (x := 1)) rfl) (rW (c := 0) (d := 46656) h154.1 rfl) fun μ157 u158 T159 => ?_
  refine mr_iinc (pc := 20) (lv' := [(2, iv 2), (0, .ref 94), (1, iv p1)]) dX4_unfold_20 rfl (by decide) rfl ?_
  refine sv_goto (pc := 23) (tgt := 2) dX4_unfold_23 (by decide) ?_
  refine mr_iload_n (pc := 2) (z := 2) dX4_unfold_2 rfl rfl ?_
  refine mr_bipush (pc := 3) (z := 7) dX4_unfold_3 (by decide) ?_
  refine mr_icmp_ge (pc := 5) (tgt := 26) dX4_unfold_5 (by decide) (r32 (rR (x := 2)) rfl) (r32 (rR (x := 7)) rfl) (fun h => ((vc_X4_unfold_r_9 h)).elim) (fun _ => ?_)
  refine sv_aload_n (pc := 8) dX4_unfold_8 rfl rfl ?_
  refine gf_X4_5 (pc := 9) dX4_unfold_9 wF_X4_30 (A_94 hw) T159 ?_
  refine mr_iload_n (pc := 12) (z := 2) dX4_unfold_12 rfl rfl ?_
  refine sv_aload_n (pc := 13) dX4_unfold_13 rfl rfl ?_
  refine mr_iload_n (pc := 14) (z := p1) dX4_unfold_14 rfl rfl ?_
  refine mr_iload_n (pc := 15) (z := 2) dX4_unfold_15 rfl rfl ?_
  refine mr_cVP (pc := 16) (c_X4_figure_r hw T159 hp1 (rW (c := 1) (d := 6) (rR (x := 2)) rfl) (u158.f (Or.inl (mAt.ne (A_101 hw) (A_100 hw) rfl)) q_f_w2) (u158.f (Or.inl (mAt.ne (A_101 hw) (A_95 hw) rfl)) q_f_v2) (vc_X12_isRest_7 hq1 h2)) (gOk _ _ _ _ _) dX4_unfold_16 (tX4_figure _ _ _ _ _) ⟨wV_X4_figure, wL_X4_figure⟩ wM_X4_75 (gCX4 _ _ _ _ _) rfl (A_94 hw) rfl ⟨le_t rfl, le_t rfl⟩ ⟨le_t rfl, le_t rfl⟩ rfl (le_t rfl) fun z164 h163 => ?_
  have h165 : z164 = p1 / f_w2 % (f_v2 + 1) := figV h163.2.2.1 (u158.f (Or.inl (mAt.ne (A_101 hw) (A_100 hw) rfl)) q_f_w2) (u158.f (Or.inl (mAt.ne (A_101 hw) (A_95 hw) rfl)) q_f_v2)
  refine ss_101 (pc := 19) dX4_unfold_19 (A_101 hw) T159 (rIx (n := 7) (rR (x := 2)) rfl) (rW (c := 0) (d := 46656) h163.1 rfl) fun μ166 u167 T168 => ?_
  refine mr_iinc (pc := 20) (lv' := [(2, iv 3), (0, .ref 94), (1, iv p1)]) dX4_unfold_20 rfl (by decide) rfl ?_
  refine sv_goto (pc := 23) (tgt := 2) dX4_unfold_23 (by decide) ?_
  refine mr_iload_n (pc := 2) (z := 3) dX4_unfold_2 rfl rfl ?_
  refine mr_bipush (pc := 3) (z := 7) dX4_unfold_3 (by decide) ?_
  refine mr_icmp_ge (pc := 5) (tgt := 26) dX4_unfold_5 (by decide) (r32 (rR (x := 3)) rfl) (r32 (rR (x := 7)) rfl) (fun h => ((vc_X4_unfold_r_11 h)).elim) (fun _ => ?_)
  refine sv_aload_n (pc := 8) dX4_unfold_8 rfl rfl ?_
  refine gf_X4_5 (pc := 9) dX4_unfold_9 wF_X4_30 (A_94 hw) T168 ?_
  refine mr_iload_n (pc := 12) (z := 3) dX4_unfold_12 rfl rfl ?_
  refine sv_aload_n (pc := 13) dX4_unfold_13 rfl rfl ?_
  refine mr_iload_n (pc := 14) (z := p1) dX4_unfold_14 rfl rfl ?_
  refine mr_iload_n (pc := 15) (z := 3) dX4_unfold_15 rfl rfl ?_
  refine mr_cVP (pc := 16) (c_X4_figure_r hw T168 hp1 (rW (c := 1) (d := 6) (rR (x := 3)) rfl) (u167.f (Or.inl (mAt.ne (A_101 hw) (A_100 hw) rfl)) (u158.f (Or.inl (mAt.ne (A_101 hw) (A_100 hw) rfl)) q_f_w3)) (u167.f (Or.inl (mAt.ne (A_101 hw) (A_95 hw) rfl)) (u158.f (Or.inl (mAt.ne (A_101 hw) (A_95 hw) rfl)) q_f_v3)) (vc_X12_isRest_7 hq2 h3)) (gOk _ _ _ _ _) dX4_unfold_16 (tX4_figure _ _ _ _ _) ⟨wV_X4_figure, wL_X4_figure⟩ wM_X4_75 (gCX4 _ _ _ _ _) rfl (A_94 hw) rfl ⟨le_t rfl, le_t rfl⟩ ⟨le_t rfl, le_t rfl⟩ rfl (le_t rfl) fun z173 h172 => ?_
  have h174 : z173 = p1 / f_w3 % (f_v3 + 1) := figV h172.2.2.1 (u167.f (Or.inl (mAt.ne (A_101 hw) (A_100 hw) rfl)) (u158.f (Or.inl (mAt.ne (A_101 hw) (A_100 hw) rfl)) q_f_w3)) (u167.f (Or.inl (mAt.ne (A_101 hw) (A_95 hw) rfl)) (u158.f (Or.inl (mAt.ne (A_101 hw) (A_95 hw) rfl)) q_f_v3))
  refine ss_101 (pc := 19) dX4_unfold_19 (A_101 hw) T168 (rIx (n := 7) (rR (x := 3)) rfl) (rW (c := 0) (d := 46656) h172.1 rfl) fun μ175 u176 T177 => ?_
  refine mr_iinc (pc := 20) (lv' := [(2, iv 4), (0, .ref 94), (1, iv p1)]) dX4_unfold_20 rfl (by decide) rfl ?_
  refine sv_goto (pc := 23) (tgt := 2) dX4_unfold_23 (by decide) ?_
  refine mr_iload_n (pc := 2) (z := 4) dX4_unfold_2 rfl rfl ?_
  refine mr_bipush (pc := 3) (z := 7) dX4_unfold_3 (by decide) ?_
  refine mr_icmp_ge (pc := 5) (tgt := 26) dX4_unfold_5 (by decide) (r32 (rR (x := 4)) rfl) (r32 (rR (x := 7)) rfl) (fun h => ((vc_X4_unfold_r_13 h)).elim) (fun _ => ?_)
  refine sv_aload_n (pc := 8) dX4_unfold_8 rfl rfl ?_
  refine gf_X4_5 (pc := 9) dX4_unfold_9 wF_X4_30 (A_94 hw) T177 ?_
  refine mr_iload_n (pc := 12) (z := 4) dX4_unfold_12 rfl rfl ?_
  refine sv_aload_n (pc := 13) dX4_unfold_13 rfl rfl ?_
  refine mr_iload_n (pc := 14) (z := p1) dX4_unfold_14 rfl rfl ?_
  refine mr_iload_n (pc := 15) (z := 4) dX4_unfold_15 rfl rfl ?_
  refine mr_cVP (pc := 16) (c_X4_figure_r hw T177 hp1 (rW (c := 1) (d := 6) (rR (x := 4)) rfl) (u176.f (Or.inl (mAt.ne (A_101 hw) (A_100 hw) rfl)) (u167.f (Or.inl (mAt.ne (A_101 hw) (A_100 hw) rfl)) (u158.f (Or.inl (mAt.ne (A_101 hw) (A_100 hw) rfl)) q_f_w4))) (u176.f (Or.inl (mAt.ne (A_101 hw) (A_95 hw) rfl)) (u167.f (Or.inl (mAt.ne (A_101 hw) (A_95 hw) rfl)) (u158.f (Or.inl (mAt.ne (A_101 hw) (A_95 hw) rfl)) q_f_v4))) (vc_X12_isRest_7 hq3 h4)) (gOk _ _ _ _ _) dX4_unfold_16 (tX4_figure _ _ _ _ _) ⟨wV_X4_figure, wL_X4_figure⟩ wM_X4_75 (gCX4 _ _ _ _ _) rfl (A_94 hw) rfl ⟨le_t rfl, le_t rfl⟩ ⟨le_t rfl, le_t rfl⟩ rfl (le_t rfl) fun z182 h181 => ?_
  have h183 : z182 = p1 / f_w4 % (f_v4 + 1) := figV h181.2.2.1 (u176.f (Or.inl (mAt.ne (A_101 hw) (A_100 hw) rfl)) (u167.f (Or.inl (mAt.ne (A_101 hw) (A_100 hw) rfl)) (u158.f (Or.inl (mAt.ne (A_101 hw) (A_100 hw) rfl)) q_f_w4))) (u176.f (Or.inl (mAt.ne (A_101 hw) (A_95 hw) rfl)) (u167.f (Or.inl (mAt.ne (A_101 hw) (A_95 hw) rfl)) (u158.f (Or.inl (mAt.ne (A_101 hw) (A_95 hw) rfl)) q_f_v4)))
  refine ss_101 (pc := 19) dX4_unfold_19 (A_101 hw) T177 (rIx (n := 7) (rR (x := 4)) rfl) (rW (c := 0) (d := 46656) h181.1 rfl) fun μ184 u185 T186 => ?_
  refine mr_iinc (pc := 20) (lv' := [(2, iv 5), (0, .ref 94), (1, iv p1)]) dX4_unfold_20 rfl (by decide) rfl ?_
  refine sv_goto (pc := 23) (tgt := 2) dX4_unfold_23 (by decide) ?_
  refine mr_iload_n (pc := 2) (z := 5) dX4_unfold_2 rfl rfl ?_
  refine mr_bipush (pc := 3) (z := 7) dX4_unfold_3 (by decide) ?_
  refine mr_icmp_ge (pc := 5) (tgt := 26) dX4_unfold_5 (by decide) (r32 (rR (x := 5)) rfl) (r32 (rR (x := 7)) rfl) (fun h => ((vc_X4_unfold_r_15 h)).elim) (fun _ => ?_)
  refine sv_aload_n (pc := 8) dX4_unfold_8 rfl rfl ?_
  refine gf_X4_5 (pc := 9) dX4_unfold_9 wF_X4_30 (A_94 hw) T186 ?_
  refine mr_iload_n (pc := 12) (z := 5) dX4_unfold_12 rfl rfl ?_
  refine sv_aload_n (pc := 13) dX4_unfold_13 rfl rfl ?_
  refine mr_iload_n (pc := 14) (z := p1) dX4_unfold_14 rfl rfl ?_
  refine mr_iload_n (pc := 15) (z := 5) dX4_unfold_15 rfl rfl ?_
  refine mr_cVP (pc := 16) (c_X4_figure_r hw T186 hp1 (rW (c := 1) (d := 6) (rR (x := 5)) rfl) (u185.f (Or.inl (mAt.ne (A_101 hw) (A_100 hw) rfl)) (u176.f (Or.inl (mAt.ne (A_101 hw) (A_100 hw) rfl)) (u167.f (Or.inl (mAt.ne (A_101 hw) (A_100 hw) rfl)) (u158.f (Or.inl (mAt.ne (A_101 hw) (A_100 hw) rfl)) q_f_w5)))) (u185.f (Or.inl (mAt.ne (A_101 hw) (A_95 hw) rfl)) (u176.f (Or.inl (mAt.ne (A_101 hw) (A_95 hw) rfl)) (u167.f (Or.inl (mAt.ne (A_101 hw) (A_95 hw) rfl)) (u158.f (Or.inl (mAt.ne (A_101 hw) (A_95 hw) rfl)) q_f_v5)))) (vc_X12_isRest_7 hq4 h5)) (gOk _ _ _ _ _) dX4_unfold_16 (tX4_figure _ _ _ _ _) ⟨wV_X4_figure, wL_X4_figure⟩ wM_X4_75 (gCX4 _ _ _ _ _) rfl (A_94 hw) rfl ⟨le_t rfl, le_t rfl⟩ ⟨le_t rfl, le_t rfl⟩ rfl (le_t rfl) fun z191 h190 => ?_
  have h192 : z191 = p1 / f_w5 % (f_v5 + 1) := figV h190.2.2.1 (u185.f (Or.inl (mAt.ne (A_101 hw) (A_100 hw) rfl)) (u176.f (Or.inl (mAt.ne (A_101 hw) (A_100 hw) rfl)) (u167.f (Or.inl (mAt.ne (A_101 hw) (A_100 hw) rfl)) (u158.f (Or.inl (mAt.ne (A_101 hw) (A_100 hw) rfl)) q_f_w5)))) (u185.f (Or.inl (mAt.ne (A_101 hw) (A_95 hw) rfl)) (u176.f (Or.inl (mAt.ne (A_101 hw) (A_95 hw) rfl)) (u167.f (Or.inl (mAt.ne (A_101 hw) (A_95 hw) rfl)) (u158.f (Or.inl (mAt.ne (A_101 hw) (A_95 hw) rfl)) q_f_v5))))
  refine ss_101 (pc := 19) dX4_unfold_19 (A_101 hw) T186 (rIx (n := 7) (rR (x := 5)) rfl) (rW (c := 0) (d := 46656) h190.1 rfl) fun μ193 u194 T195 => ?_
  refine mr_iinc (pc := 20) (lv' := [(2, iv 6), (0, .ref 94), (1, iv p1)]) dX4_unfold_20 rfl (by decide) rfl ?_
  refine sv_goto (pc := 23) (tgt := 2) dX4_unfold_23 (by decide) ?_
  refine mr_iload_n (pc := 2) (z := 6) dX4_unfold_2 rfl rfl ?_
  refine mr_bipush (pc := 3) (z := 7) dX4_unfold_3 (by decide) ?_
  refine mr_icmp_ge (pc := 5) (tgt := 26) dX4_unfold_5 (by decide) (r32 (rR (x := 6)) rfl) (r32 (rR (x := 7)) rfl) (fun h => ((vc_X12_open_25 h)).elim) (fun _ => ?_)
  refine sv_aload_n (pc := 8) dX4_unfold_8 rfl rfl ?_
  refine gf_X4_5 (pc := 9) dX4_unfold_9 wF_X4_30 (A_94 hw) T195 ?_
  refine mr_iload_n (pc := 12) (z := 6) dX4_unfold_12 rfl rfl ?_
  refine sv_aload_n (pc := 13) dX4_unfold_13 rfl rfl ?_
  refine mr_iload_n (pc := 14) (z := p1) dX4_unfold_14 rfl rfl ?_
  refine mr_iload_n (pc := 15) (z := 6) dX4_unfold_15 rfl rfl ?_
  refine mr_cVP (pc := 16) (c_X4_figure_r hw T195 hp1 (rW (c := 1) (d := 6) (rR (x := 6)) rfl) (u194.f (Or.inl (mAt.ne (A_101 hw) (A_100 hw) rfl)) (u185.f (Or.inl (mAt.ne (A_101 hw) (A_100 hw) rfl)) (u176.f (Or.inl (mAt.ne (A_101 hw) (A_100 hw) rfl)) (u167.f (Or.inl (mAt.ne (A_101 hw) (A_100 hw) rfl)) (u158.f (Or.inl (mAt.ne (A_101 hw) (A_100 hw) rfl)) q_f_w6))))) (u194.f (Or.inl (mAt.ne (A_101 hw) (A_95 hw) rfl)) (u185.f (Or.inl (mAt.ne (A_101 hw) (A_95 hw) rfl)) (u176.f (Or.inl (mAt.ne (A_101 hw) (A_95 hw) rfl)) (u167.f (Or.inl (mAt.ne (A_101 hw) (A_95 hw) rfl)) (u158.f (Or.inl (mAt.ne (A_101 hw) (A_95 hw) rfl)) q_f_v6))))) (vc_X12_isRest_7 hq5 h6)) (gOk _ _ _ _ _) dX4_unfold_16 (tX4_figure _ _ _ _ _) ⟨wV_X4_figure, wL_X4_figure⟩ wM_X4_75 (gCX4 _ _ _ _ _) rfl (A_94 hw) rfl ⟨le_t rfl, le_t rfl⟩ ⟨le_t rfl, le_t rfl⟩ rfl (le_t rfl) fun z200 h199 => ?_
  have h201 : z200 = p1 / f_w6 % (f_v6 + 1) := figV h199.2.2.1 (u194.f (Or.inl (mAt.ne (A_101 hw) (A_100 hw) rfl)) (u185.f (Or.inl (mAt.ne (A_101 hw) (A_100 hw) rfl)) (u176.f (Or.inl (mAt.ne (A_101 hw) (A_100 hw) rfl)) (u167.f (Or.inl (mAt.ne (A_101 hw) (A_100 hw) rfl)) (u158.f (Or.inl (mAt.ne (A_101 hw) (A_100 hw) rfl)) q_f_w6))))) (u194.f (Or.inl (mAt.ne (A_101 hw) (A_95 hw) rfl)) (u185.f (Or.inl (mAt.ne (A_101 hw) (A_95 hw) rfl)) (u176.f (Or.inl (mAt.ne (A_101 hw) (A_95 hw) rfl)) (u167.f (Or.inl (mAt.ne (A_101 hw) (A_95 hw) rfl)) (u158.f (Or.inl (mAt.ne (A_101 hw) (A_95 hw) rfl)) q_f_v6)))))
  refine ss_101 (pc := 19) dX4_unfold_19 (A_101 hw) T195 (rIx (n := 7) (rR (x := 6)) rfl) (rW (c := 0) (d := 46656) h199.1 rfl) fun μ202 u203 T204 => ?_
  refine mr_iinc (pc := 20) (lv' := [(2, iv 7), (0, .ref 94), (1, iv p1)]) dX4_unfold_20 rfl (by decide) rfl ?_
  refine sv_goto (pc := 23) (tgt := 2) dX4_unfold_23 (by decide) ?_
  refine mr_iload_n (pc := 2) (z := 7) dX4_unfold_2 rfl rfl ?_
  refine mr_bipush (pc := 3) (z := 7) dX4_unfold_3 (by decide) ?_
  refine mr_icmp_ge (pc := 5) (tgt := 26) dX4_unfold_5 (by decide) (r32 (rR (x := 7)) rfl) (r32 (rR (x := 7)) rfl) (fun _ => ?_) (fun h => ((vc_X4_unfold_r_19 h)).elim)
  exact mr_vret dX4_unfold_26 rfl (le_t rfl) (le_t rfl) T204 (mF.up (mF.up (mF.up (mF.up (mF.up (mF.up mF.refl (A_101 hw) u158 rfl) (A_101 hw) u167 rfl) (A_101 hw) u176 rfl) (A_101 hw) u185 rfl) (A_101 hw) u194 rfl) (A_101 hw) u203 rfl) ⟨⟨dig.mk2 (u203.f (Or.inr vc_X12_open_30) (u194.f (Or.inr vc_X12_open_29) (u185.f (Or.inr vc_X12_open_28) (u176.f (Or.inr vc_X12_open_27) (u167.f (Or.inr vc_X12_open_26) u158.1))))) (u203.f (Or.inl (mAt.ne (A_101 hw) (A_100 hw) rfl)) (u194.f (Or.inl (mAt.ne (A_101 hw) (A_100 hw) rfl)) (u185.f (Or.inl (mAt.ne (A_101 hw) (A_100 hw) rfl)) (u176.f (Or.inl (mAt.ne (A_101 hw) (A_100 hw) rfl)) (u167.f (Or.inl (mAt.ne (A_101 hw) (A_100 hw) rfl)) (u158.f (Or.inl (mAt.ne (A_101 hw) (A_100 hw) rfl)) q_f_w1)))))) (u203.f (Or.inl (mAt.ne (A_101 hw) (A_95 hw) rfl)) (u194.f (Or.inl (mAt.ne (A_101 hw) (A_95 hw) rfl)) (u185.f (Or.inl (mAt.ne (A_101 hw) (A_95 hw) rfl)) (u176.f (Or.inl (mAt.ne (A_101 hw) (A_95 hw) rfl)) (u167.f (Or.inl (mAt.ne (A_101 hw) (A_95 hw) rfl)) (u158.f (Or.inl (mAt.ne (A_101 hw) (A_95 hw) rfl)) q_f_v1)))))) h156, dig.mk2 (u203.f (Or.inr vc_X12_open_34) (u194.f (Or.inr vc_X12_open_33) (u185.f (Or.inr vc_X12_open_32) (u176.f (Or.inr vc_X12_open_31) u167.1)))) (u203.f (Or.inl (mAt.ne (A_101 hw) (A_100 hw) rfl)) (u194.f (Or.inl (mAt.ne (A_101 hw) (A_100 hw) rfl)) (u185.f (Or.inl (mAt.ne (A_101 hw) (A_100 hw) rfl)) (u176.f (Or.inl (mAt.ne (A_101 hw) (A_100 hw) rfl)) (u167.f (Or.inl (mAt.ne (A_101 hw) (A_100 hw) rfl)) (u158.f (Or.inl (mAt.ne (A_101 hw) (A_100 hw) rfl)) q_f_w2)))))) (u203.f (Or.inl (mAt.ne (A_101 hw) (A_95 hw) rfl)) (u194.f (Or.inl (mAt.ne (A_101 hw) (A_95 hw) rfl)) (u185.f (Or.inl (mAt.ne (A_101 hw) (A_95 hw) rfl)) (u176.f (Or.inl (mAt.ne (A_101 hw) (A_95 hw) rfl)) (u167.f (Or.inl (mAt.ne (A_101 hw) (A_95 hw) rfl)) (u158.f (Or.inl (mAt.ne (A_101 hw) (A_95 hw) rfl)) q_f_v2)))))) h165, dig.mk2 (u203.f (Or.inr vc_X12_open_37) (u194.f (Or.inr vc_X12_open_36) (u185.f (Or.inr vc_X12_open_35) u176.1))) (u203.f (Or.inl (mAt.ne (A_101 hw) (A_100 hw) rfl)) (u194.f (Or.inl (mAt.ne (A_101 hw) (A_100 hw) rfl)) (u185.f (Or.inl (mAt.ne (A_101 hw) (A_100 hw) rfl)) (u176.f (Or.inl (mAt.ne (A_101 hw) (A_100 hw) rfl)) (u167.f (Or.inl (mAt.ne (A_101 hw) (A_100 hw) rfl)) (u158.f (Or.inl (mAt.ne (A_101 hw) (A_100 hw) rfl)) q_f_w3)))))) (u203.f (Or.inl (mAt.ne (A_101 hw) (A_95 hw) rfl)) (u194.f (Or.inl (mAt.ne (A_101 hw) (A_95 hw) rfl)) (u185.f (Or.inl (mAt.ne (A_101 hw) (A_95 hw) rfl)) (u176.f (Or.inl (mAt.ne (A_101 hw) (A_95 hw) rfl)) (u167.f (Or.inl (mAt.ne (A_101 hw) (A_95 hw) rfl)) (u158.f (Or.inl (mAt.ne (A_101 hw) (A_95 hw) rfl)) q_f_v3)))))) h174, dig.mk2 (u203.f (Or.inr vc_X12_open_39) (u194.f (Or.inr vc_X12_open_38) u185.1)) (u203.f (Or.inl (mAt.ne (A_101 hw) (A_100 hw) rfl)) (u194.f (Or.inl (mAt.ne (A_101 hw) (A_100 hw) rfl)) (u185.f (Or.inl (mAt.ne (A_101 hw) (A_100 hw) rfl)) (u176.f (Or.inl (mAt.ne (A_101 hw) (A_100 hw) rfl)) (u167.f (Or.inl (mAt.ne (A_101 hw) (A_100 hw) rfl)) (u158.f (Or.inl (mAt.ne (A_101 hw) (A_100 hw) rfl)) q_f_w4)))))) (u203.f (Or.inl (mAt.ne (A_101 hw) (A_95 hw) rfl)) (u194.f (Or.inl (mAt.ne (A_101 hw) (A_95 hw) rfl)) (u185.f (Or.inl (mAt.ne (A_101 hw) (A_95 hw) rfl)) (u176.f (Or.inl (mAt.ne (A_101 hw) (A_95 hw) rfl)) (u167.f (Or.inl (mAt.ne (A_101 hw) (A_95 hw) rfl)) (u158.f (Or.inl (mAt.ne (A_101 hw) (A_95 hw) rfl)) q_f_v4)))))) h183, dig.mk2 (u203.f (Or.inr vc_X12_open_40) u194.1) (u203.f (Or.inl (mAt.ne (A_101 hw) (A_100 hw) rfl)) (u194.f (Or.inl (mAt.ne (A_101 hw) (A_100 hw) rfl)) (u185.f (Or.inl (mAt.ne (A_101 hw) (A_100 hw) rfl)) (u176.f (Or.inl (mAt.ne (A_101 hw) (A_100 hw) rfl)) (u167.f (Or.inl (mAt.ne (A_101 hw) (A_100 hw) rfl)) (u158.f (Or.inl (mAt.ne (A_101 hw) (A_100 hw) rfl)) q_f_w5)))))) (u203.f (Or.inl (mAt.ne (A_101 hw) (A_95 hw) rfl)) (u194.f (Or.inl (mAt.ne (A_101 hw) (A_95 hw) rfl)) (u185.f (Or.inl (mAt.ne (A_101 hw) (A_95 hw) rfl)) (u176.f (Or.inl (mAt.ne (A_101 hw) (A_95 hw) rfl)) (u167.f (Or.inl (mAt.ne (A_101 hw) (A_95 hw) rfl)) (u158.f (Or.inl (mAt.ne (A_101 hw) (A_95 hw) rfl)) q_f_v5)))))) h192, dig.mk2 u203.1 (u203.f (Or.inl (mAt.ne (A_101 hw) (A_100 hw) rfl)) (u194.f (Or.inl (mAt.ne (A_101 hw) (A_100 hw) rfl)) (u185.f (Or.inl (mAt.ne (A_101 hw) (A_100 hw) rfl)) (u176.f (Or.inl (mAt.ne (A_101 hw) (A_100 hw) rfl)) (u167.f (Or.inl (mAt.ne (A_101 hw) (A_100 hw) rfl)) (u158.f (Or.inl (mAt.ne (A_101 hw) (A_100 hw) rfl)) q_f_w6)))))) (u203.f (Or.inl (mAt.ne (A_101 hw) (A_95 hw) rfl)) (u194.f (Or.inl (mAt.ne (A_101 hw) (A_95 hw) rfl)) (u185.f (Or.inl (mAt.ne (A_101 hw) (A_95 hw) rfl)) (u176.f (Or.inl (mAt.ne (A_101 hw) (A_95 hw) rfl)) (u167.f (Or.inl (mAt.ne (A_101 hw) (A_95 hw) rfl)) (u158.f (Or.inl (mAt.ne (A_101 hw) (A_95 hw) rfl)) q_f_v6)))))) h201⟩, trivial⟩
theorem vc_X4_addNeighbours_1 {f_st p1 : Int} (h0 : p1 < f_st) (h1 : 0 ≤ f_st ∧ f_st ≤ 46656) (h2 : 0 ≤ p1 ∧ p1 ≤ 46655) : 1 ≤ f_st ∧ f_st ≤ 46656 := by omega
theorem vc_X4_addNeighbours_4 {p2 z480 : Int} (h0 : p2 ≤ z480) (h1 : 1 ≤ p2 ∧ p2 ≤ 46656) (h2 : 1 ≤ z480 ∧ z480 ≤ 46656) : p2 ≤ z480 := by omega
theorem vc_X4_addNeighbours_6 {z479 : Int} (h0 : z479 < 7) (h1 : 1 ≤ z479 ∧ z479 ≤ 6) : 1 ≤ z479 ∧ z479 ≤ 6 := by omega
theorem vc_X4_addNeighbours_8 {z524 z531 z532 : Int} (h0 : z531 ≤ z524) (h1 : 0 ≤ z532 ∧ z532 ≤ z524) (h2 : 0 ≤ z524 ∧ z524 ≤ 5) (h3 : 0 ≤ z531 ∧ z531 ≤ 5) (h4 : 0 ≤ z532 ∧ z532 ≤ 46656) : 0 ≤ z532 ∧ z532 ≤ 5 := by omega
theorem vc_X4_addNeighbours_9 {f_st n_312 n_316 p1 : Int} (h0 : p1 < f_st) (h1 : f_st ≤ n_312) (h2 : f_st ≤ n_316) (h3 : 1 ≤ f_st ∧ f_st ≤ 46656) (h4 : 0 ≤ n_312 ∧ n_312 ≤ 93312) (h5 : 0 ≤ n_316 ∧ n_316 ≤ 93312) (h6 : 0 ≤ p1 ∧ p1 ≤ 46655) : 0 ≤ p1 ∧ p1 < f_st := by omega
theorem vc_X4_addNeighbours_10 {z524 z531 z532 : Int} (h0 : z531 ≤ z524) (h1 : 0 ≤ z532 ∧ z532 ≤ z524) (h2 : 0 ≤ z524 ∧ z524 ≤ 5) (h3 : 0 ≤ z531 ∧ z531 ≤ 5) (h4 : 0 ≤ z532 ∧ z532 ≤ 5) : 0 ≤ z524 := by omega
theorem vc_X4_addNeighbours_11 {z524 z531 z532 : Int} (h0 : z531 ≤ z524) (h1 : 0 ≤ z532 ∧ z532 ≤ z524) (h2 : 0 ≤ z524 ∧ z524 ≤ 5) (h3 : 0 ≤ z531 ∧ z531 ≤ 5) (h4 : 0 ≤ z532 ∧ z532 ≤ 5) : 0 ≤ z531 ∧ z531 ≤ z524 := by omega
theorem vc_X4_addNeighbours_12 {f_st n_312 n_316 p1 z540 : Int} (h0 : p1 < f_st) (h1 : f_st ≤ n_316) (h2 : 0 ≤ (p1 + z540) ∧ (p1 + z540) < f_st) (h3 : f_st ≤ n_312) (h4 : 1 ≤ f_st ∧ f_st ≤ 46656) (h5 : 0 ≤ n_312 ∧ n_312 ≤ 93312) (h6 : 0 ≤ n_316 ∧ n_316 ≤ 93312) (h7 : 0 ≤ p1 ∧ p1 ≤ 46655) (h8 : (-233280) ≤ z540 ∧ z540 ≤ 233280) : 0 ≤ (p1 + z540) ∧ (p1 + z540) < n_316 := by omega
theorem vc_X4_addNeighbours_14 {z544 : Int} (h0 : z544 = 0) (h1 : (-128) ≤ z544 ∧ z544 ≤ 127) : 0 ≤ z544 ∧ z544 ≤ 0 := by omega
theorem vc_X4_addNeighbours_15 {p2 z480 : Int} (h0 : p2 ≤ z480) (h1 : 1 ≤ p2 ∧ p2 ≤ 46656) (h2 : 1 ≤ z480 ∧ z480 ≤ 46656) : 0 ≤ z480 := by omega
theorem vc_X4_addNeighbours_16 {f_st n_312 n_316 p1 z540 : Int} (h0 : p1 < f_st) (h1 : f_st ≤ n_312) (h2 : f_st ≤ n_316) (h3 : 0 ≤ (p1 + z540) ∧ (p1 + z540) < f_st) (h4 : 1 ≤ f_st ∧ f_st ≤ 46656) (h5 : 0 ≤ n_312 ∧ n_312 ≤ 93312) (h6 : 0 ≤ n_316 ∧ n_316 ≤ 93312) (h7 : 0 ≤ p1 ∧ p1 ≤ 46655) (h8 : (-233280) ≤ z540 ∧ z540 ≤ 233280) : 0 ≤ (p1 + z540) ∧ (p1 + z540) < f_st := by omega
theorem vc_X4_addNeighbours_18 {f_st n_312 n_316 p1 z480 z540 : Int} (h0 : p1 < f_st) (h1 : f_st ≤ n_316) (h2 : 0 ≤ (p1 + z540) ∧ (p1 + z540) < f_st) (h3 : f_st ≤ n_312) (h4 : z480 < f_st) (h5 : 1 ≤ f_st ∧ f_st ≤ 46656) (h6 : 0 ≤ n_312 ∧ n_312 ≤ 93312) (h7 : 0 ≤ n_316 ∧ n_316 ≤ 93312) (h8 : 0 ≤ p1 ∧ p1 ≤ 46655) (h9 : 1 ≤ z480 ∧ z480 ≤ 46656) (h10 : (-233280) ≤ z540 ∧ z540 ≤ 233280) : 0 ≤ (p1 + z540) ∧ (p1 + z540) < n_316 := by omega
theorem vc_X4_addNeighbours_19 {f_st n_312 n_316 p1 p2 z480 z540 : Int} (h0 : f_st ≤ n_312) (h1 : p2 ≤ z480) (h2 : z480 < f_st) (h3 : p1 < f_st) (h4 : f_st ≤ n_316) (h5 : 0 ≤ (p1 + z540) ∧ (p1 + z540) < f_st) (h6 : 1 ≤ f_st ∧ f_st ≤ 46656) (h7 : 0 ≤ n_312 ∧ n_312 ≤ 93312) (h8 : 0 ≤ n_316 ∧ n_316 ≤ 93312) (h9 : 0 ≤ p1 ∧ p1 ≤ 46655) (h10 : 1 ≤ p2 ∧ p2 ≤ 46656) (h11 : 1 ≤ z480 ∧ z480 ≤ 46656) (h12 : (-233280) ≤ z540 ∧ z540 ≤ 233280) : 0 ≤ z480 ∧ z480 < n_312 := by omega
theorem vc_X4_addNeighbours_20 {f_st n_312 n_316 p1 z480 z540 : Int} (h0 : p1 < f_st) (h1 : 0 ≤ (p1 + z540) ∧ (p1 + z540) < f_st) (h2 : f_st ≤ n_312) (h3 : f_st ≤ n_316) (h4 : z480 < f_st) (h5 : 1 ≤ f_st ∧ f_st ≤ 46656) (h6 : 0 ≤ n_312 ∧ n_312 ≤ 93312) (h7 : 0 ≤ n_316 ∧ n_316 ≤ 93312) (h8 : 0 ≤ p1 ∧ p1 ≤ 46655) (h9 : 1 ≤ z480 ∧ z480 ≤ 46656) (h10 : (-233280) ≤ z540 ∧ z540 ≤ 233280) : 0 ≤ (p1 + z540) ∧ (p1 + z540) ≤ 46655 := by omega
theorem vc_X4_addNeighbours_21 {f_st n_312 n_316 p1 p2 z480 z540 : Int} (h0 : p2 ≤ z480) (h1 : z480 < f_st) (h2 : p1 < f_st) (h3 : f_st ≤ n_312) (h4 : f_st ≤ n_316) (h5 : 0 ≤ (p1 + z540) ∧ (p1 + z540) < f_st) (h6 : 1 ≤ f_st ∧ f_st ≤ 46656) (h7 : 0 ≤ n_312 ∧ n_312 ≤ 93312) (h8 : 0 ≤ n_316 ∧ n_316 ≤ 93312) (h9 : 0 ≤ p1 ∧ p1 ≤ 46655) (h10 : 1 ≤ p2 ∧ p2 ≤ 46656) (h11 : 1 ≤ z480 ∧ z480 ≤ 46656) (h12 : (-233280) ≤ z540 ∧ z540 ≤ 233280) : 0 ≤ z480 := by omega
theorem vc_X4_addNeighbours_22 {f_st n_312 n_316 p1 p2 z480 z540 : Int} (h0 : p1 < f_st) (h1 : f_st ≤ n_312) (h2 : f_st ≤ n_316) (h3 : 0 ≤ (p1 + z540) ∧ (p1 + z540) < f_st) (h4 : z480 < f_st) (h5 : p2 ≤ z480) (h6 : 1 ≤ f_st ∧ f_st ≤ 46656) (h7 : 0 ≤ n_312 ∧ n_312 ≤ 93312) (h8 : 0 ≤ n_316 ∧ n_316 ≤ 93312) (h9 : 0 ≤ p1 ∧ p1 ≤ 46655) (h10 : 1 ≤ p2 ∧ p2 ≤ 46656) (h11 : 1 ≤ z480 ∧ z480 ≤ 46656) (h12 : (-233280) ≤ z540 ∧ z540 ≤ 233280) : 0 ≤ (p1 + z540) ∧ (p1 + z540) < f_st := by omega
theorem vc_X4_addNeighbours_23 {f_st n_312 n_316 p1 p2 z480 z540 : Int} (h0 : p2 ≤ z480) (h1 : z480 < f_st) (h2 : p1 < f_st) (h3 : f_st ≤ n_312) (h4 : f_st ≤ n_316) (h5 : 0 ≤ (p1 + z540) ∧ (p1 + z540) < f_st) (h6 : 1 ≤ f_st ∧ f_st ≤ 46656) (h7 : 0 ≤ n_312 ∧ n_312 ≤ 93312) (h8 : 0 ≤ n_316 ∧ n_316 ≤ 93312) (h9 : 0 ≤ p1 ∧ p1 ≤ 46655) (h10 : 1 ≤ p2 ∧ p2 ≤ 46656) (h11 : 1 ≤ z480 ∧ z480 ≤ 46656) (h12 : (-233280) ≤ z540 ∧ z540 ≤ 233280) : 1 ≤ (z480 + 1) ∧ (z480 + 1) ≤ 46656 := by omega
theorem vc_X4_addNeighbours_24 {f_st n_312 n_316 p1 p2 z480 z540 : Int} (h0 : p2 ≤ z480) (h1 : z480 < f_st) (h2 : p1 < f_st) (h3 : f_st ≤ n_312) (h4 : f_st ≤ n_316) (h5 : 0 ≤ (p1 + z540) ∧ (p1 + z540) < f_st) (h6 : 1 ≤ f_st ∧ f_st ≤ 46656) (h7 : 0 ≤ n_312 ∧ n_312 ≤ 93312) (h8 : 0 ≤ n_316 ∧ n_316 ≤ 93312) (h9 : 0 ≤ p1 ∧ p1 ≤ 46655) (h10 : 1 ≤ p2 ∧ p2 ≤ 46656) (h11 : 1 ≤ z480 ∧ z480 ≤ 46656) (h12 : (-233280) ≤ z540 ∧ z540 ≤ 233280) : p2 ≤ (z480 + 1) := by omega
theorem vc_X4_addNeighbours_25 {p2 : Int} (h0 : 1 ≤ p2 ∧ p2 ≤ 46656) : p2 ≤ p2 := by omega
set_option maxRecDepth 4000 in
set_option maxHeartbeats 4000000 in
theorem c_X4_addNeighbours {l : Launch} {D : va_G} {c : Nat → ClassId} {H0 : Heap} {sa : Nat × Nat × (Nat → Int32)} {w : mW} {μ : mM} (hw : mWF w) (hT : mT w μ) {p1 : Int} (hp1 : 0 ≤ p1 ∧ p1 ≤ 46655) {p2 : Int} (hp2 : 1 ≤ p2 ∧ p2 ≤ 46656) {f_st : Int} (q_f_st : μ 94 9 = f_st) {bq : Nat} (q_bq : μ 94 6 = (bq : Int)) (hA_bq : mAt w bq 102) {bf : Nat} (q_bf : μ 94 8 = (bf : Int)) (hA_bf : mAt w bf 104) (hq0 : p1 < f_st) (hlq : μ 94 9 ≤ (w.2.2.1 bq : Int)) (hlf : μ 94 9 ≤ (w.2.2.1 bf : Int)) (hrx : radix μ 100 95 f_st) (hdg : digs μ 101 100 95 p1) (hqu : quC μ bq bf p2 f_st 0) : sC (gG l D c H0 sa) mX4_addNeighbours 2 0 0 [.ref 94, iv p1, iv p2] (mk w μ) (qI w [102999, 104999] μ (fun z μ1 => (1 ≤ z ∧ z ≤ 46656) ∧ (p2 ≤ z) ∧ (quC μ1 bq bf z f_st 0) ∧ True)) := by
  refine sC.of rfl (by decide) (le_t rfl) ?_
  have ht_f_st : (0 ≤ f_st ∧ f_st ≤ 46656) := by rw [← q_f_st]; exact hT 94 94 (A_94 hw) 9
  have h1 : 1 ≤ f_st ∧ f_st ≤ 46656 := (vc_X4_addNeighbours_1 hq0 ht_f_st hp1)
  refine mr_lvE (lv' := [(0, .ref 94), (1, iv p1), (2, iv p2)]) rfl ?_
  obtain ⟨n_312, q313⟩ : ∃ n : Int, (w.2.2.1 bq : Int) = n := ⟨_, rfl⟩
  have h314 : 0 ≤ n_312 ∧ n_312 ≤ 93312 := lnR (m := 93312) q313 hA_bq rfl
  have h315 : f_st ≤ n_312 := lenLe hlq q_f_st q313
  obtain ⟨n_316, q317⟩ : ∃ n : Int, (w.2.2.1 bf : Int) = n := ⟨_, rfl⟩
  have h318 : 0 ≤ n_316 ∧ n_316 ≤ 93312 := lnR (m := 93312) q317 hA_bf rfl
  have h319 : f_st ≤ n_316 := lenLe hlf q_f_st q317
  refine mr_iload_n (pc := 0) (z := p2) dX4_addNeighbours_0 rfl rfl ?_
  refine mr_istore_n (pc := 1) (lv' := [(3, iv p2), (0, .ref 94), (1, iv p1), (2, iv p2)]) dX4_addNeighbours_1 rfl (by decide) rfl ?_
  refine mr_iconst (pc := 2) (z := 1) dX4_addNeighbours_2 ?_
  refine mr_istore (pc := 3) (lv' := [(4, iv 1), (3, iv p2), (0, .ref 94), (1, iv p1), (2, iv p2)]) dX4_addNeighbours_3 (by decide) rfl ?_
  have L482 : ∀ (nL482 : Nat) (z480 z479 : Int) (μ481 : mM), mT w μ481 → mF [102999, 104999] w μ μ481 → (1 ≤ z480 ∧ z480 ≤ 46656) → (1 ≤ z479 ∧ z479 ≤ 7) → (p2 ≤ z480) → quC μ481 bq bf z480 f_st 0 → (8 - z479) < (nL482 : Int) → sV (gG l D c H0 sa) mX4_addNeighbours (sRm 2 0 0) (sZ (gG l D c H0 sa) 0 0 (qI w [102999, 104999] μ (fun z μ1 => (1 ≤ z ∧ z ≤ 46656) ∧ (p2 ≤ z) ∧ (quC μ1 bq bf z f_st 0) ∧ True))) 5 [(0, .ref 94), (1, iv p1), (3, iv z480), (4, iv z479)] [] (mk w μ481) 0 0 := by
    intro nL482
    induction nL482 with
    | zero => intro z480 z479 μ481 T485 F486 h483 h484 h488 R489 h490; exact ((vc_X12_clear_1 h490 h484)).elim
    | succ nL482 ih491 =>
      intro z480 z479 μ481 T485 F486 h483 h484 h488 R489 h490
      refine mr_iload (pc := 5) (z := z479) dX4_addNeighbours_5 rfl ?_
      refine mr_bipush (pc := 7) (z := 7) dX4_addNeighbours_7 (by decide) ?_
      refine mr_icmp_ge (pc := 9) (tgt := 73) dX4_addNeighbours_9 (by decide) (r32 h484 rfl) (r32 (rR (x := 7)) rfl) (fun h521 => ?_) (fun h521 => ?_)
      · have h522 : 7 ≤ z479 ∧ z479 ≤ 7 := (vc_X4_forget_2 h521 h484)
        refine mr_iload_n (pc := 73) (z := z480) dX4_addNeighbours_73 rfl rfl ?_
        exact mr_iret dX4_addNeighbours_74 rfl (le_t rfl) (le_t rfl) T485 (mF.call mF.refl F486 rfl) ⟨h483, (vc_X4_addNeighbours_4 h488 hp2 h483), R489, trivial⟩
      have h523 : 1 ≤ z479 ∧ z479 ≤ 6 := (vc_X4_forget_3 h521 h484)
      refine mr_iload_n (pc := 12) (z := p1) dX4_addNeighbours_12 rfl rfl ?_
      refine sv_aload_n (pc := 13) dX4_addNeighbours_13 rfl rfl ?_
      refine mr_iload (pc := 14) (z := z479) dX4_addNeighbours_14 rfl ?_
      obtain ⟨z524, q525⟩ : ∃ z, μ481 95 (z479.toNat) = z := ⟨_, rfl⟩
      have h526 : (0 ≤ z524 ∧ z524 ≤ 5) := by rw [← q525]; exact T485 95 95 (A_95 hw) (z479.toNat)
      refine mr_cVP (pc := 16) (c_X4_actOf_v hw T485 h523 q525) (gOk _ _ _ _ _) dX4_addNeighbours_16 (tX4_actOf _ _ _ _ _) ⟨wV_X4_actOf, wL_X4_actOf⟩ wM_X4_71 (gCX4 _ _ _ _ _) rfl (A_94 hw) rfl ⟨le_t rfl, le_t rfl⟩ ⟨le_t rfl, le_t rfl⟩ rfl (le_t rfl) fun z531 h530 => ?_
      refine sv_aload_n (pc := 19) dX4_addNeighbours_19 rfl rfl ?_
      refine gf_X4_5 (pc := 20) dX4_addNeighbours_20 wF_X4_30 (A_94 hw) T485 ?_
      refine mr_iload (pc := 23) (z := z479) dX4_addNeighbours_23 rfl ?_
      refine la_101 (pc := 25) dX4_addNeighbours_25 (A_101 hw) T485 (rIx (n := 7) h523 rfl) fun z532 q533 h534 => ?_
      have h535 : 0 ≤ z532 ∧ z532 ≤ z524 := digs.le (digs.keep hdg ((mF.call mF.refl F486 rfl) : mF [102999, 104999] w μ μ481) (A_101 hw) (A_100 hw) (A_95 hw) (fun _ => rfl) (fun _ => rfl) (fun _ => rfl)) (vc_X4_addNeighbours_6 h521 h523) q525 q533 (vc_X12_tries_65 h530.2.1 h526 h530.1)
      have h536 : 0 ≤ z532 ∧ z532 ≤ 5 := (vc_X4_addNeighbours_8 h530.2.1 h535 h526 h530.1 h534)
      refine mr_isub (pc := 26) (x := z531) (y := z532) dX4_addNeighbours_26 ?_
      refine sv_aload_n (pc := 27) dX4_addNeighbours_27 rfl rfl ?_
      refine gf_X4_4 (pc := 28) dX4_addNeighbours_28 wF_X4_27 (A_94 hw) T485 ?_
      refine mr_iload (pc := 31) (z := z479) dX4_addNeighbours_31 rfl ?_
      refine la_100 (pc := 33) dX4_addNeighbours_33 (A_100 hw) T485 (rIx (n := 7) h523 rfl) fun z537 q538 h539 => ?_
      refine mr_imul (pc := 34) (x := (z531 - z532)) (y := z537) dX4_addNeighbours_34 ?_
      refine mr_gen (P := fun z => (-233280) ≤ z ∧ z ≤ 233280) (rMulS (m := 5) (k := 46656) (e := 233280) (rSub (e := (-5)) (f := 5) h530.1 h536 rfl) h539 (by decide) rfl) fun z540 q541 h542 => ?_
      refine mr_iadd (pc := 35) (x := p1) (y := z540) dX4_addNeighbours_35 ?_
      have h543 : 0 ≤ (p1 + z540) ∧ (p1 + z540) < f_st := net_t (radix.keep hrx ((mF.call mF.refl F486 rfl) : mF [102999, 104999] w μ μ481) (A_100 hw) (A_95 hw) (fun _ => rfl) (fun _ => rfl)) (digs.keep hdg ((mF.call mF.refl F486 rfl) : mF [102999, 104999] w μ μ481) (A_101 hw) (A_100 hw) (A_95 hw) (fun _ => rfl) (fun _ => rfl) (fun _ => rfl)) (vc_X4_addNeighbours_6 h521 h523) (vc_X4_addNeighbours_9 hq0 h315 h319 h1 h314 h318 hp1) q538 q525 q533 (vc_X4_addNeighbours_10 h530.2.1 h535 h526 h530.1 h536) (vc_X4_addNeighbours_11 h530.2.1 h535 h526 h530.1 h536) q541
      refine mr_istore (pc := 36) (lv' := [(5, iv (p1 + z540)), (0, .ref 94), (1, iv p1), (3, iv z480), (4, iv z479)]) dX4_addNeighbours_36 (by decide) rfl ?_
      refine sv_aload_n (pc := 38) dX4_addNeighbours_38 rfl rfl ?_
      refine gk_X4_8 (pc := 39) dX4_addNeighbours_39 wF_X4_39 (A_94 hw) (F486.f (A_94 hw) rfl q_bf) ?_
      refine mr_iload (pc := 42) (z := (p1 + z540)) dX4_addNeighbours_42 rfl ?_
      refine la_104 (pc := 44) dX4_addNeighbours_44 hA_bf T485 (lnC q317 (vc_X4_addNeighbours_12 hq0 h319 h543 h315 h1 h314 h318 hp1 h542)) fun z544 q545 h546 => ?_
      refine mr_if_ne (pc := 45) (tgt := 67) dX4_addNeighbours_45 (by decide) (r32 h546 rfl) (fun h547 => ?_) (fun h547 => ?_)
      · refine mr_iinc (pc := 67) (lv' := [(4, iv (z479 + 1)), (5, iv (p1 + z540)), (0, .ref 94), (1, iv p1), (3, iv z480)]) dX4_addNeighbours_67 rfl (by decide) rfl ?_
        refine sv_goto (pc := 70) (tgt := 5) dX4_addNeighbours_70 (by decide) ?_
        refine mr_lvS (lv' := [(0, .ref 94), (1, iv p1), (3, iv z480), (4, iv (z479 + 1))]) (List.forall_mem_cons.mpr ⟨rfl, List.forall_mem_cons.mpr ⟨rfl, List.forall_mem_cons.mpr ⟨rfl, List.forall_mem_cons.mpr ⟨rfl, fun _ h => absurd h List.not_mem_nil⟩⟩⟩⟩) ?_
        exact ih491 z480 (z479 + 1) μ481 T485 (mF.call mF.refl F486 rfl) h483 (rW (c := 1) (d := 7) (rAdd (e := 2) (f := 7) h523 (rR (x := 1)) rfl) rfl) (vc_X4_addNeighbours_4 h488 hp2 h483) R489 (vc_X4_forget_4 (nS h490) h521 h523)
      have h548 : 0 ≤ z544 ∧ z544 ≤ 0 := (vc_X4_addNeighbours_14 h547 h546)
      have h549 : z480 < f_st := quC.room R489 (mAt.ne hA_bq hA_bf rfl) (vc_X4_addNeighbours_15 h488 hp2 h483) (vc_X4_addNeighbours_16 hq0 h315 h319 h543 h1 h314 h318 hp1 h542) q545 (vc_X12_goes_7 h547 h548)
      refine sv_aload_n (pc := 48) dX4_addNeighbours_48 rfl rfl ?_
      refine gk_X4_8 (pc := 49) dX4_addNeighbours_49 wF_X4_39 (A_94 hw) (F486.f (A_94 hw) rfl q_bf) ?_
      refine mr_iload (pc := 52) (z := (p1 + z540)) dX4_addNeighbours_52 rfl ?_
      refine mr_iconst (pc := 54) (z := 1) dX4_addNeighbours_54 ?_
      refine ss_104 (pc := 55) dX4_addNeighbours_55 hA_bf T485 (lnC q317 (vc_X4_addNeighbours_18 hq0 h319 h543 h315 h549 h1 h314 h318 hp1 h483 h542)) (rW (c := (-128)) (d := 127) (rR (x := 1)) rfl) fun μ550 u551 T552 => ?_
      refine sv_aload_n (pc := 56) dX4_addNeighbours_56 rfl rfl ?_
      refine gk_X4_6 (pc := 57) dX4_addNeighbours_57 wF_X4_33 (A_94 hw) (u551.f (Or.inl (mAt.ne hA_bf (A_94 hw) rfl)) (F486.f (A_94 hw) rfl q_bq)) ?_
      refine mr_iload_n (pc := 60) (z := z480) dX4_addNeighbours_60 rfl rfl ?_
      refine mr_iload (pc := 61) (z := (p1 + z540)) dX4_addNeighbours_61 rfl ?_
      refine ss_102 (pc := 63) dX4_addNeighbours_63 hA_bq T552 (lnC q313 (vc_X4_addNeighbours_19 h315 h488 h549 hq0 h319 h543 h1 h314 h318 hp1 hp2 h483 h542)) (vc_X4_addNeighbours_20 hq0 h543 h315 h319 h549 h1 h314 h318 hp1 h483 h542) fun μ553 u554 T555 => ?_
      have Q556 : quC μ553 bq bf (z480 + 1) f_st 0 := quC.push R489 (mAt.ne hA_bq hA_bf rfl) (vc_X4_addNeighbours_21 h488 h549 hq0 h315 h319 h543 h1 h314 h318 hp1 hp2 h483 h542) (vc_X4_addNeighbours_22 hq0 h315 h319 h543 h549 h488 h1 h314 h318 hp1 hp2 h483 h542) q545 (vc_X12_goes_7 h547 h548) u551 (by decide) u554
      refine mr_iinc (pc := 64) (lv' := [(3, iv (z480 + 1)), (5, iv (p1 + z540)), (0, .ref 94), (1, iv p1), (4, iv z479)]) dX4_addNeighbours_64 rfl (by decide) rfl ?_
      refine mr_iinc (pc := 67) (lv' := [(4, iv (z479 + 1)), (3, iv (z480 + 1)), (5, iv (p1 + z540)), (0, .ref 94), (1, iv p1)]) dX4_addNeighbours_67 rfl (by decide) rfl ?_
      refine sv_goto (pc := 70) (tgt := 5) dX4_addNeighbours_70 (by decide) ?_
      refine mr_lvS (lv' := [(0, .ref 94), (1, iv p1), (3, iv (z480 + 1)), (4, iv (z479 + 1))]) (List.forall_mem_cons.mpr ⟨rfl, List.forall_mem_cons.mpr ⟨rfl, List.forall_mem_cons.mpr ⟨rfl, List.forall_mem_cons.mpr ⟨rfl, fun _ h => absurd h List.not_mem_nil⟩⟩⟩⟩) ?_
      exact ih491 (z480 + 1) (z479 + 1) μ553 T555 (mF.up (mF.up (mF.call mF.refl F486 rfl) hA_bf u551 rfl) hA_bq u554 rfl) (vc_X4_addNeighbours_23 h488 h549 hq0 h315 h319 h543 h1 h314 h318 hp1 hp2 h483 h542) (rW (c := 1) (d := 7) (rAdd (e := 2) (f := 7) h523 (rR (x := 1)) rfl) rfl) (vc_X4_addNeighbours_24 h488 h549 hq0 h315 h319 h543 h1 h314 h318 hp1 hp2 h483 h542) Q556 (vc_X4_forget_4 (nS h490) h521 h523)
  refine mr_lvS (lv' := [(0, .ref 94), (1, iv p1), (3, iv p2), (4, iv 1)]) (List.forall_mem_cons.mpr ⟨rfl, List.forall_mem_cons.mpr ⟨rfl, List.forall_mem_cons.mpr ⟨rfl, List.forall_mem_cons.mpr ⟨rfl, fun _ h => absurd h List.not_mem_nil⟩⟩⟩⟩) ?_
  exact L482 8 p2 1 μ hT mF.refl hp2 (rW (c := 1) (d := 7) (rR (x := 1)) rfl) (vc_X4_addNeighbours_25 hp2) hqu vc_X12_clear_5
theorem vc_X4_addSources_4 {p2 z1285 : Int} (h0 : p2 ≤ z1285) (h1 : 0 ≤ p2 ∧ p2 ≤ 46656) (h2 : 0 ≤ z1285 ∧ z1285 ≤ 46656) : p2 ≤ z1285 := by omega
theorem vc_X4_addSources_10 {z1369 z1376 z1377 z1549 : Int} (h0 : z1369 < z1549) (h1 : z1376 ≤ z1369) (h2 : 0 ≤ z1377 ∧ z1377 ≤ z1369) (h3 : 0 ≤ z1369 ∧ z1369 ≤ 5) (h4 : 0 ≤ z1376 ∧ z1376 ≤ 5) (h5 : 0 ≤ z1377 ∧ z1377 ≤ 5) (h6 : 0 ≤ z1549 ∧ z1549 ≤ 6) : 1 ≤ z1549 ∧ z1549 ≤ 6 := by omega
theorem vc_X4_addSources_11 {p2 z1285 z1550 : Int} (h0 : p2 ≤ z1285) (h1 : p2 ≤ z1550) (h2 : 0 ≤ p2 ∧ p2 ≤ 46656) (h3 : 0 ≤ z1285 ∧ z1285 ≤ 46656) (h4 : 0 ≤ z1550 ∧ z1550 ≤ 46656) : p2 ≤ z1550 := by omega
theorem vc_X4_addSources_13 {z1369 z1376 z1377 z1549 : Int} (h0 : z1549 ≤ z1369) (h1 : z1376 ≤ z1369) (h2 : 0 ≤ z1377 ∧ z1377 ≤ z1369) (h3 : 0 ≤ z1369 ∧ z1369 ≤ 5) (h4 : 0 ≤ z1376 ∧ z1376 ≤ 5) (h5 : 0 ≤ z1377 ∧ z1377 ≤ 5) (h6 : 0 ≤ z1549 ∧ z1549 ≤ 6) : 0 ≤ z1549 ∧ z1549 ≤ 5 := by omega
theorem vc_X4_addSources_14 {z1369 z1376 z1377 z1549 : Int} (h0 : z1376 ≤ z1369) (h1 : 0 ≤ z1377 ∧ z1377 ≤ z1369) (h2 : z1549 ≤ z1369) (h3 : z1376 = z1377) (h4 : 0 ≤ z1369 ∧ z1369 ≤ 5) (h5 : 0 ≤ z1376 ∧ z1376 ≤ 5) (h6 : 0 ≤ z1377 ∧ z1377 ≤ 5) (h7 : 0 ≤ z1549 ∧ z1549 ≤ 5) : 0 ≤ z1369 := by omega
theorem vc_X4_addSources_15 {z1369 z1376 z1377 z1549 : Int} (h0 : z1376 ≤ z1369) (h1 : 0 ≤ z1377 ∧ z1377 ≤ z1369) (h2 : z1376 = z1377) (h3 : z1549 ≤ z1369) (h4 : 0 ≤ z1369 ∧ z1369 ≤ 5) (h5 : 0 ≤ z1376 ∧ z1376 ≤ 5) (h6 : 0 ≤ z1377 ∧ z1377 ≤ 5) (h7 : 0 ≤ z1549 ∧ z1549 ≤ 5) : 0 ≤ z1377 ∧ z1377 ≤ 5 := by omega
theorem vc_X4_addSources_17 {z1369 z1376 z1377 z1549 : Int} (h0 : z1376 ≤ z1369) (h1 : 0 ≤ z1377 ∧ z1377 ≤ z1369) (h2 : z1549 ≤ z1369) (h3 : z1376 = z1377) (h4 : 0 ≤ z1369 ∧ z1369 ≤ 5) (h5 : 0 ≤ z1376 ∧ z1376 ≤ 5) (h6 : 0 ≤ z1377 ∧ z1377 ≤ 5) (h7 : 0 ≤ z1549 ∧ z1549 ≤ 5) : 0 ≤ z1549 ∧ z1549 ≤ z1369 := by omega
theorem vc_X4_addSources_19 {N z1369 z1376 z1377 z1549 : Int} (h0 : (7 - z1549) < N + 1) (h1 : z1549 ≤ z1369) (h2 : z1376 ≤ z1369) (h3 : 0 ≤ z1377 ∧ z1377 ≤ z1369) (h4 : 0 ≤ z1369 ∧ z1369 ≤ 5) (h5 : 0 ≤ z1376 ∧ z1376 ≤ 5) (h6 : 0 ≤ z1377 ∧ z1377 ≤ 5) (h7 : 0 ≤ z1549 ∧ z1549 ≤ 5) : (7 - (z1549 + 1)) < N := by omega
theorem vc_X4_addSources_20 {z1574 : Int} (h0 : z1574 = 1) (h1 : (-128) ≤ z1574 ∧ z1574 ≤ 127) : 1 ≤ z1574 ∧ z1574 ≤ 1 := by omega
theorem vc_X4_addSources_21 {p2 z1285 z1550 : Int} (h0 : p2 ≤ z1550) (h1 : p2 ≤ z1285) (h2 : 0 ≤ p2 ∧ p2 ≤ 46656) (h3 : 0 ≤ z1285 ∧ z1285 ≤ 46656) (h4 : 0 ≤ z1550 ∧ z1550 ≤ 46656) : 0 ≤ z1550 := by omega
theorem vc_X4_addSources_23 {z1574 : Int} (h0 : z1574 = 1) (h1 : 1 ≤ z1574 ∧ z1574 ≤ 1) : z1574 = 1 := by omega
theorem vc_X4_addSources_24 {f_st n_846 n_850 p1 z1550 z1570 : Int} (h0 : p1 < f_st) (h1 : f_st ≤ n_850) (h2 : 0 ≤ (p1 + z1570) ∧ (p1 + z1570) < f_st) (h3 : f_st ≤ n_846) (h4 : z1550 < f_st) (h5 : 1 ≤ f_st ∧ f_st ≤ 46656) (h6 : 0 ≤ n_846 ∧ n_846 ≤ 93312) (h7 : 0 ≤ n_850 ∧ n_850 ≤ 93312) (h8 : 0 ≤ p1 ∧ p1 ≤ 46655) (h9 : 0 ≤ z1550 ∧ z1550 ≤ 46656) (h10 : (-233280) ≤ z1570 ∧ z1570 ≤ 233280) : 0 ≤ (p1 + z1570) ∧ (p1 + z1570) < n_850 := by omega
theorem vc_X4_addSources_25 {z1574 : Int} (h0 : z1574 = 1) (h1 : 1 ≤ z1574 ∧ z1574 ≤ 1) : -128 ≤ z1574 ∧ z1574 ≤ 127 := by omega
theorem vc_X4_addSources_26 {f_st n_846 n_850 p1 p2 z1285 z1550 z1570 : Int} (h0 : f_st ≤ n_846) (h1 : p2 ≤ z1550) (h2 : z1550 < f_st) (h3 : p1 < f_st) (h4 : f_st ≤ n_850) (h5 : p2 ≤ z1285) (h6 : 0 ≤ (p1 + z1570) ∧ (p1 + z1570) < f_st) (h7 : 1 ≤ f_st ∧ f_st ≤ 46656) (h8 : 0 ≤ n_846 ∧ n_846 ≤ 93312) (h9 : 0 ≤ n_850 ∧ n_850 ≤ 93312) (h10 : 0 ≤ p1 ∧ p1 ≤ 46655) (h11 : 0 ≤ p2 ∧ p2 ≤ 46656) (h12 : 0 ≤ z1285 ∧ z1285 ≤ 46656) (h13 : 0 ≤ z1550 ∧ z1550 ≤ 46656) (h14 : (-233280) ≤ z1570 ∧ z1570 ≤ 233280) : 0 ≤ z1550 ∧ z1550 < n_846 := by omega
theorem vc_X4_addSources_27 {f_st n_846 n_850 p1 z1550 z1570 : Int} (h0 : p1 < f_st) (h1 : 0 ≤ (p1 + z1570) ∧ (p1 + z1570) < f_st) (h2 : f_st ≤ n_846) (h3 : f_st ≤ n_850) (h4 : z1550 < f_st) (h5 : 1 ≤ f_st ∧ f_st ≤ 46656) (h6 : 0 ≤ n_846 ∧ n_846 ≤ 93312) (h7 : 0 ≤ n_850 ∧ n_850 ≤ 93312) (h8 : 0 ≤ p1 ∧ p1 ≤ 46655) (h9 : 0 ≤ z1550 ∧ z1550 ≤ 46656) (h10 : (-233280) ≤ z1570 ∧ z1570 ≤ 233280) : 0 ≤ (p1 + z1570) ∧ (p1 + z1570) ≤ 46655 := by omega
theorem vc_X4_addSources_28 {f_st n_846 n_850 p1 p2 z1285 z1550 z1570 : Int} (h0 : p2 ≤ z1550) (h1 : z1550 < f_st) (h2 : p1 < f_st) (h3 : f_st ≤ n_846) (h4 : f_st ≤ n_850) (h5 : p2 ≤ z1285) (h6 : 0 ≤ (p1 + z1570) ∧ (p1 + z1570) < f_st) (h7 : 1 ≤ f_st ∧ f_st ≤ 46656) (h8 : 0 ≤ n_846 ∧ n_846 ≤ 93312) (h9 : 0 ≤ n_850 ∧ n_850 ≤ 93312) (h10 : 0 ≤ p1 ∧ p1 ≤ 46655) (h11 : 0 ≤ p2 ∧ p2 ≤ 46656) (h12 : 0 ≤ z1285 ∧ z1285 ≤ 46656) (h13 : 0 ≤ z1550 ∧ z1550 ≤ 46656) (h14 : (-233280) ≤ z1570 ∧ z1570 ≤ 233280) : 0 ≤ z1550 := by omega
theorem vc_X4_addSources_29 {f_st n_846 n_850 p1 p2 z1550 z1570 : Int} (h0 : p1 < f_st) (h1 : f_st ≤ n_846) (h2 : f_st ≤ n_850) (h3 : 0 ≤ (p1 + z1570) ∧ (p1 + z1570) < f_st) (h4 : z1550 < f_st) (h5 : p2 ≤ z1550) (h6 : 1 ≤ f_st ∧ f_st ≤ 46656) (h7 : 0 ≤ n_846 ∧ n_846 ≤ 93312) (h8 : 0 ≤ n_850 ∧ n_850 ≤ 93312) (h9 : 0 ≤ p1 ∧ p1 ≤ 46655) (h10 : 0 ≤ p2 ∧ p2 ≤ 46656) (h11 : 0 ≤ z1550 ∧ z1550 ≤ 46656) (h12 : (-233280) ≤ z1570 ∧ z1570 ≤ 233280) : 0 ≤ (p1 + z1570) ∧ (p1 + z1570) < f_st := by omega
theorem vc_X4_addSources_30 {f_st n_846 n_850 p1 p2 z1285 z1550 z1570 : Int} (h0 : p2 ≤ z1550) (h1 : z1550 < f_st) (h2 : p1 < f_st) (h3 : f_st ≤ n_846) (h4 : f_st ≤ n_850) (h5 : p2 ≤ z1285) (h6 : 0 ≤ (p1 + z1570) ∧ (p1 + z1570) < f_st) (h7 : 1 ≤ f_st ∧ f_st ≤ 46656) (h8 : 0 ≤ n_846 ∧ n_846 ≤ 93312) (h9 : 0 ≤ n_850 ∧ n_850 ≤ 93312) (h10 : 0 ≤ p1 ∧ p1 ≤ 46655) (h11 : 0 ≤ p2 ∧ p2 ≤ 46656) (h12 : 0 ≤ z1285 ∧ z1285 ≤ 46656) (h13 : 0 ≤ z1550 ∧ z1550 ≤ 46656) (h14 : (-233280) ≤ z1570 ∧ z1570 ≤ 233280) : 0 ≤ (z1550 + 1) ∧ (z1550 + 1) ≤ 46656 := by omega
theorem vc_X4_addSources_31 {f_st n_846 n_850 p1 p2 z1285 z1550 z1570 : Int} (h0 : p2 ≤ z1285) (h1 : p2 ≤ z1550) (h2 : z1550 < f_st) (h3 : p1 < f_st) (h4 : f_st ≤ n_846) (h5 : f_st ≤ n_850) (h6 : 0 ≤ (p1 + z1570) ∧ (p1 + z1570) < f_st) (h7 : 1 ≤ f_st ∧ f_st ≤ 46656) (h8 : 0 ≤ n_846 ∧ n_846 ≤ 93312) (h9 : 0 ≤ n_850 ∧ n_850 ≤ 93312) (h10 : 0 ≤ p1 ∧ p1 ≤ 46655) (h11 : 0 ≤ p2 ∧ p2 ≤ 46656) (h12 : 0 ≤ z1285 ∧ z1285 ≤ 46656) (h13 : 0 ≤ z1550 ∧ z1550 ≤ 46656) (h14 : (-233280) ≤ z1570 ∧ z1570 ≤ 233280) : p2 ≤ (z1550 + 1) := by omega
set_option maxRecDepth 4000 in
set_option maxHeartbeats 4000000 in
theorem c_X4_addSources {l : Launch} {D : va_G} {c : Nat → ClassId} {H0 : Heap} {sa : Nat × Nat × (Nat → Int32)} {w : mW} {μ : mM} (hw : mWF w) (hT : mT w μ) {p1 : Int} (hp1 : 0 ≤ p1 ∧ p1 ≤ 46655) {p2 : Int} (hp2 : 0 ≤ p2 ∧ p2 ≤ 46656) {f_st : Int} (q_f_st : μ 94 9 = f_st) {bq : Nat} (q_bq : μ 94 6 = (bq : Int)) (hA_bq : mAt w bq 102) {bf : Nat} (q_bf : μ 94 8 = (bf : Int)) (hA_bf : mAt w bf 104) (hq0 : p1 < f_st) (hlq : μ 94 9 ≤ (w.2.2.1 bq : Int)) (hlf : μ 94 9 ≤ (w.2.2.1 bf : Int)) (hrx : radix μ 100 95 f_st) (hdg : digs μ 101 100 95 p1) (hqu : quC μ bq bf p2 f_st 1) : sC (gG l D c H0 sa) mX4_addSources 2 0 0 [.ref 94, iv p1, iv p2] (mk w μ) (qI w [102999, 104999] μ (fun z μ1 => (0 ≤ z ∧ z ≤ 46656) ∧ (p2 ≤ z) ∧ (quC μ1 bq bf z f_st 1) ∧ True)) := by
  refine sC.of rfl (by decide) (le_t rfl) ?_
  have ht_f_st : (0 ≤ f_st ∧ f_st ≤ 46656) := by rw [← q_f_st]; exact hT 94 94 (A_94 hw) 9
  have h1 : 1 ≤ f_st ∧ f_st ≤ 46656 := (vc_X4_addNeighbours_1 hq0 ht_f_st hp1)
  refine mr_lvE (lv' := [(0, .ref 94), (1, iv p1), (2, iv p2)]) rfl ?_
  obtain ⟨n_846, q847⟩ : ∃ n : Int, (w.2.2.1 bq : Int) = n := ⟨_, rfl⟩
  have h848 : 0 ≤ n_846 ∧ n_846 ≤ 93312 := lnR (m := 93312) q847 hA_bq rfl
  have h849 : f_st ≤ n_846 := lenLe hlq q_f_st q847
  obtain ⟨n_850, q851⟩ : ∃ n : Int, (w.2.2.1 bf : Int) = n := ⟨_, rfl⟩
  have h852 : 0 ≤ n_850 ∧ n_850 ≤ 93312 := lnR (m := 93312) q851 hA_bf rfl
  have h853 : f_st ≤ n_850 := lenLe hlf q_f_st q851
  refine mr_iload_n (pc := 0) (z := p2) dX4_addSources_0 rfl rfl ?_
  refine mr_istore_n (pc := 1) (lv' := [(3, iv p2), (0, .ref 94), (1, iv p1), (2, iv p2)]) dX4_addSources_1 rfl (by decide) rfl ?_
  refine mr_iconst (pc := 2) (z := 1) dX4_addSources_2 ?_
  refine mr_istore (pc := 3) (lv' := [(4, iv 1), (3, iv p2), (0, .ref 94), (1, iv p1), (2, iv p2)]) dX4_addSources_3 (by decide) rfl ?_
  have L1287 : ∀ (nL1287 : Nat) (z1285 z1284 : Int) (μ1286 : mM), mT w μ1286 → mF [102999, 104999] w μ μ1286 → (0 ≤ z1285 ∧ z1285 ≤ 46656) → (1 ≤ z1284 ∧ z1284 ≤ 7) → (p2 ≤ z1285) → quC μ1286 bq bf z1285 f_st 1 → (8 - z1284) < (nL1287 : Int) → sV (gG l D c H0 sa) mX4_addSources (sRm 2 0 0) (sZ (gG l D c H0 sa) 0 0 (qI w [102999, 104999] μ (fun z μ1 => (0 ≤ z ∧ z ≤ 46656) ∧ (p2 ≤ z) ∧ (quC μ1 bq bf z f_st 1) ∧ True))) 5 [(0, .ref 94), (1, iv p1), (3, iv z1285), (4, iv z1284)] [] (mk w μ1286) 0 0 := by
    intro nL1287
    induction nL1287 with
    | zero => intro z1285 z1284 μ1286 T1290 F1291 h1288 h1289 h1293 R1294 h1295; exact ((vc_X12_clear_1 h1295 h1289)).elim
    | succ nL1287 ih1296 =>
      intro z1285 z1284 μ1286 T1290 F1291 h1288 h1289 h1293 R1294 h1295
      refine mr_iload (pc := 5) (z := z1284) dX4_addSources_5 rfl ?_
      refine mr_bipush (pc := 7) (z := 7) dX4_addSources_7 (by decide) ?_
      refine mr_icmp_ge (pc := 9) (tgt := 114) dX4_addSources_9 (by decide) (r32 h1289 rfl) (r32 (rR (x := 7)) rfl) (fun h1366 => ?_) (fun h1366 => ?_)
      · have h1367 : 7 ≤ z1284 ∧ z1284 ≤ 7 := (vc_X4_forget_2 h1366 h1289)
        refine mr_iload_n (pc := 114) (z := z1285) dX4_addSources_114 rfl rfl ?_
        exact mr_iret dX4_addSources_115 rfl (le_t rfl) (le_t rfl) T1290 (mF.call mF.refl F1291 rfl) ⟨h1288, (vc_X4_addSources_4 h1293 hp2 h1288), R1294, trivial⟩
      have h1368 : 1 ≤ z1284 ∧ z1284 ≤ 6 := (vc_X4_forget_3 h1366 h1289)
      refine sv_aload_n (pc := 12) dX4_addSources_12 rfl rfl ?_
      refine mr_iload (pc := 13) (z := z1284) dX4_addSources_13 rfl ?_
      obtain ⟨z1369, q1370⟩ : ∃ z, μ1286 95 (z1284.toNat) = z := ⟨_, rfl⟩
      have h1371 : (0 ≤ z1369 ∧ z1369 ≤ 5) := by rw [← q1370]; exact T1290 95 95 (A_95 hw) (z1284.toNat)
      refine mr_cVP (pc := 15) (c_X4_actOf_v hw T1290 h1368 q1370) (gOk _ _ _ _ _) dX4_addSources_15 (tX4_actOf _ _ _ _ _) ⟨wV_X4_actOf, wL_X4_actOf⟩ wM_X4_71 (gCX4 _ _ _ _ _) rfl (A_94 hw) rfl ⟨le_t rfl, le_t rfl⟩ ⟨le_t rfl, le_t rfl⟩ rfl (le_t rfl) fun z1376 h1375 => ?_
      refine sv_aload_n (pc := 18) dX4_addSources_18 rfl rfl ?_
      refine gf_X4_5 (pc := 19) dX4_addSources_19 wF_X4_30 (A_94 hw) T1290 ?_
      refine mr_iload (pc := 22) (z := z1284) dX4_addSources_22 rfl ?_
      refine la_101 (pc := 24) dX4_addSources_24 (A_101 hw) T1290 (rIx (n := 7) h1368 rfl) fun z1377 q1378 h1379 => ?_
      have h1380 : 0 ≤ z1377 ∧ z1377 ≤ z1369 := digs.le (digs.keep hdg ((mF.call mF.refl F1291 rfl) : mF [102999, 104999] w μ μ1286) (A_101 hw) (A_100 hw) (A_95 hw) (fun _ => rfl) (fun _ => rfl) (fun _ => rfl)) (vc_X4_addNeighbours_6 h1366 h1368) q1370 q1378 (vc_X12_tries_65 h1375.2.1 h1371 h1375.1)
      have h1381 : 0 ≤ z1377 ∧ z1377 ≤ 5 := (vc_X4_addNeighbours_8 h1375.2.1 h1380 h1371 h1375.1 h1379)
      refine mr_icmp_eq (pc := 25) (tgt := 31) dX4_addSources_25 (by decide) (r32 h1375.1 rfl) (r32 h1381 rfl) (fun h1382 => ?_) (fun h1382 => ?_)
      · refine mr_iconst (pc := 31) (z := 0) dX4_addSources_31 ?_
        refine mr_istore (pc := 32) (lv' := [(5, iv 0), (0, .ref 94), (1, iv p1), (3, iv z1285), (4, iv z1284)]) dX4_addSources_32 (by decide) rfl ?_
        have L1552 : ∀ (nL1552 : Nat) (z1550 z1549 : Int) (μ1551 : mM), mT w μ1551 → mF [102999, 104999] w μ1286 μ1551 → (0 ≤ z1550 ∧ z1550 ≤ 46656) → (0 ≤ z1549 ∧ z1549 ≤ 6) → (p2 ≤ z1550) → quC μ1551 bq bf z1550 f_st 1 → (7 - z1549) < (nL1552 : Int) → sV (gG l D c H0 sa) mX4_addSources (sRm 2 0 0) (sZ (gG l D c H0 sa) 0 0 (qI w [102999, 104999] μ (fun z μ1 => (0 ≤ z ∧ z ≤ 46656) ∧ (p2 ≤ z) ∧ (quC μ1 bq bf z f_st 1) ∧ True))) 34 [(0, .ref 94), (1, iv p1), (3, iv z1550), (4, iv z1284), (5, iv z1549)] [] (mk w μ1551) 0 0 := by
          intro nL1552
          induction nL1552 with
          | zero => intro z1550 z1549 μ1551 T1555 F1556 h1553 h1554 h1558 R1559 h1560; exact ((vc_X12_wish_49 h1560 h1554)).elim
          | succ nL1552 ih1561 =>
            intro z1550 z1549 μ1551 T1555 F1556 h1553 h1554 h1558 R1559 h1560
            refine mr_iload (pc := 34) (z := z1549) dX4_addSources_34 rfl ?_
            refine sv_aload_n (pc := 36) dX4_addSources_36 rfl rfl ?_
            refine gf_X4_12 (pc := 37) dX4_addSources_37 wF_X4_11 (A_94 hw) T1555 ?_
            refine mr_iload (pc := 40) (z := z1284) dX4_addSources_40 rfl ?_
            refine lk_95 (pc := 42) dX4_addSources_42 (A_95 hw) (rIx (n := 7) h1368 rfl) (F1556.f (A_95 hw) rfl q1370) ?_
            refine mr_icmp_gt (pc := 43) (tgt := 108) dX4_addSources_43 (by decide) (r32 h1554 rfl) (r32 h1371 rfl) (fun h1562 => ?_) (fun h1562 => ?_)
            · have h1563 : 1 ≤ z1549 ∧ z1549 ≤ 6 := (vc_X4_addSources_10 h1562 h1375.2.1 h1380 h1371 h1375.1 h1381 h1554)
              refine mr_iinc (pc := 108) (lv' := [(4, iv (z1284 + 1)), (0, .ref 94), (1, iv p1), (3, iv z1550), (5, iv z1549)]) dX4_addSources_108 rfl (by decide) rfl ?_
              refine sv_goto (pc := 111) (tgt := 5) dX4_addSources_111 (by decide) ?_
              refine mr_lvS (lv' := [(0, .ref 94), (1, iv p1), (3, iv z1550), (4, iv (z1284 + 1))]) (List.forall_mem_cons.mpr ⟨rfl, List.forall_mem_cons.mpr ⟨rfl, List.forall_mem_cons.mpr ⟨rfl, List.forall_mem_cons.mpr ⟨rfl, fun _ h => absurd h List.not_mem_nil⟩⟩⟩⟩) ?_
              exact ih1296 z1550 (z1284 + 1) μ1551 T1555 (mF.call (mF.call mF.refl F1291 rfl) F1556 rfl) h1553 (rW (c := 1) (d := 7) (rAdd (e := 2) (f := 7) h1368 (rR (x := 1)) rfl) rfl) (vc_X4_addSources_11 h1293 h1558 hp2 h1288 h1553) R1559 (vc_X4_forget_4 (nS h1295) h1366 h1368)
            have h1564 : 0 ≤ z1549 ∧ z1549 ≤ 5 := (vc_X4_addSources_13 h1562 h1375.2.1 h1380 h1371 h1375.1 h1381 h1554)
            refine mr_iload_n (pc := 46) (z := p1) dX4_addSources_46 rfl rfl ?_
            refine mr_iload (pc := 47) (z := z1549) dX4_addSources_47 rfl ?_
            refine sv_aload_n (pc := 49) dX4_addSources_49 rfl rfl ?_
            refine gf_X4_5 (pc := 50) dX4_addSources_50 wF_X4_30 (A_94 hw) T1555 ?_
            refine mr_iload (pc := 53) (z := z1284) dX4_addSources_53 rfl ?_
            refine lk_101 (pc := 55) dX4_addSources_55 (A_101 hw) (rIx (n := 7) h1368 rfl) (F1556.f (A_101 hw) rfl q1378) ?_
            have h1565 : 0 ≤ z1377 ∧ z1377 ≤ z1369 := digs.le (digs.keep hdg ((mF.call (mF.call mF.refl F1291 rfl) F1556 rfl) : mF [102999, 104999] w μ μ1551) (A_101 hw) (A_100 hw) (A_95 hw) (fun _ => rfl) (fun _ => rfl) (fun _ => rfl)) (vc_X4_addNeighbours_6 h1366 h1368) (F1556.f (A_95 hw) rfl q1370) (F1556.f (A_101 hw) rfl q1378) (vc_X4_addSources_14 h1375.2.1 h1380 h1562 h1382 h1371 h1375.1 h1381 h1564)
            have h1566 : 0 ≤ z1377 ∧ z1377 ≤ 5 := (vc_X4_addSources_15 h1375.2.1 h1380 h1382 h1562 h1371 h1375.1 h1381 h1564)
            refine mr_isub (pc := 56) (x := z1549) (y := z1377) dX4_addSources_56 ?_
            refine sv_aload_n (pc := 57) dX4_addSources_57 rfl rfl ?_
            refine gf_X4_4 (pc := 58) dX4_addSources_58 wF_X4_27 (A_94 hw) T1555 ?_
            refine mr_iload (pc := 61) (z := z1284) dX4_addSources_61 rfl ?_
            refine la_100 (pc := 63) dX4_addSources_63 (A_100 hw) T1555 (rIx (n := 7) h1368 rfl) fun z1567 q1568 h1569 => ?_
            refine mr_imul (pc := 64) (x := (z1549 - z1377)) (y := z1567) dX4_addSources_64 ?_
            refine mr_gen (P := fun z => (-233280) ≤ z ∧ z ≤ 233280) (rMulS (m := 5) (k := 46656) (e := 233280) (rSub (e := (-5)) (f := 5) h1564 h1566 rfl) h1569 (by decide) rfl) fun z1570 q1571 h1572 => ?_
            refine mr_iadd (pc := 65) (x := p1) (y := z1570) dX4_addSources_65 ?_
            have h1573 : 0 ≤ (p1 + z1570) ∧ (p1 + z1570) < f_st := net_t (radix.keep hrx ((mF.call (mF.call mF.refl F1291 rfl) F1556 rfl) : mF [102999, 104999] w μ μ1551) (A_100 hw) (A_95 hw) (fun _ => rfl) (fun _ => rfl)) (digs.keep hdg ((mF.call (mF.call mF.refl F1291 rfl) F1556 rfl) : mF [102999, 104999] w μ μ1551) (A_101 hw) (A_100 hw) (A_95 hw) (fun _ => rfl) (fun _ => rfl) (fun _ => rfl)) (vc_X4_addNeighbours_6 h1366 h1368) (vc_X4_addNeighbours_9 hq0 h849 h853 h1 h848 h852 hp1) q1568 (F1556.f (A_95 hw) rfl q1370) (F1556.f (A_101 hw) rfl q1378) (vc_X4_addSources_14 h1375.2.1 h1380 h1562 h1382 h1371 h1375.1 h1566 h1564) (vc_X4_addSources_17 h1375.2.1 h1380 h1562 h1382 h1371 h1375.1 h1566 h1564) q1571
            refine mr_istore (pc := 66) (lv' := [(6, iv (p1 + z1570)), (0, .ref 94), (1, iv p1), (3, iv z1550), (4, iv z1284), (5, iv z1549)]) dX4_addSources_66 (by decide) rfl ?_
            refine sv_aload_n (pc := 68) dX4_addSources_68 rfl rfl ?_
            refine gk_X4_8 (pc := 69) dX4_addSources_69 wF_X4_39 (A_94 hw) (F1556.f (A_94 hw) rfl (F1291.f (A_94 hw) rfl q_bf)) ?_
            refine mr_iload (pc := 72) (z := (p1 + z1570)) dX4_addSources_72 rfl ?_
            refine la_104 (pc := 74) dX4_addSources_74 hA_bf T1555 (lnC q851 (vc_X4_addNeighbours_12 hq0 h853 h1573 h849 h1 h848 h852 hp1 h1572)) fun z1574 q1575 h1576 => ?_
            refine mr_iconst (pc := 75) (z := 1) dX4_addSources_75 ?_
            refine mr_icmp_ne (pc := 76) (tgt := 102) dX4_addSources_76 (by decide) (r32 h1576 rfl) (r32 (rR (x := 1)) rfl) (fun h1577 => ?_) (fun h1577 => ?_)
            · refine mr_iinc (pc := 102) (lv' := [(5, iv (z1549 + 1)), (6, iv (p1 + z1570)), (0, .ref 94), (1, iv p1), (3, iv z1550), (4, iv z1284)]) dX4_addSources_102 rfl (by decide) rfl ?_
              refine sv_goto (pc := 105) (tgt := 34) dX4_addSources_105 (by decide) ?_
              refine mr_lvS (lv' := [(0, .ref 94), (1, iv p1), (3, iv z1550), (4, iv z1284), (5, iv (z1549 + 1))]) (List.forall_mem_cons.mpr ⟨rfl, List.forall_mem_cons.mpr ⟨rfl, List.forall_mem_cons.mpr ⟨rfl, List.forall_mem_cons.mpr ⟨rfl, List.forall_mem_cons.mpr ⟨rfl, fun _ h => absurd h List.not_mem_nil⟩⟩⟩⟩⟩) ?_
              exact ih1561 z1550 (z1549 + 1) μ1551 T1555 (mF.call mF.refl F1556 rfl) h1553 (rW (c := 0) (d := 6) (rAdd (e := 1) (f := 6) h1564 (rR (x := 1)) rfl) rfl) (vc_X4_addSources_11 h1293 h1558 hp2 h1288 h1553) R1559 (vc_X4_addSources_19 (nS h1560) h1562 h1375.2.1 h1380 h1371 h1375.1 h1566 h1564)
            have h1578 : 1 ≤ z1574 ∧ z1574 ≤ 1 := (vc_X4_addSources_20 h1577 h1576)
            have h1579 : z1550 < f_st := quC.room R1559 (mAt.ne hA_bq hA_bf rfl) (vc_X4_addSources_21 h1558 h1293 hp2 h1288 h1553) (vc_X4_addNeighbours_16 hq0 h849 h853 h1573 h1 h848 h852 hp1 h1572) q1575 (vc_X4_addSources_23 h1577 h1578)
            refine sv_aload_n (pc := 79) dX4_addSources_79 rfl rfl ?_
            refine gk_X4_8 (pc := 80) dX4_addSources_80 wF_X4_39 (A_94 hw) (F1556.f (A_94 hw) rfl (F1291.f (A_94 hw) rfl q_bf)) ?_
            refine mr_iload (pc := 83) (z := (p1 + z1570)) dX4_addSources_83 rfl ?_
            refine sv_dup2 (pc := 85) dX4_addSources_85 rfl rfl ?_
            refine lk_104 (pc := 86) dX4_addSources_86 hA_bf (lnC q851 (vc_X4_addSources_24 hq0 h853 h1573 h849 h1579 h1 h848 h852 hp1 h1553 h1572)) q1575 ?_
            refine mr_iconst (pc := 87) (z := 2) dX4_addSources_87 ?_
            refine mr_ior (pc := 88) (x := z1574) (y := 2) dX4_addSources_88 ?_
            refine mr_gen (P := fun z => 0 ≤ z ∧ z ≤ 3) (rOr 2 h1578 (rR (x := 2)) rfl) fun z1580 q1581 h1582 => ?_
            refine mr_i2b (pc := 89) dX4_addSources_89 ?_
            refine mr_gen (P := fun z => (-128) ≤ z ∧ z ≤ 127) (rByte _) fun z1583 q1584 h1585 => ?_
            have B1586 := flag2 (vc_X4_addSources_25 h1577 h1578) q1581 q1584
            refine ss_104 (pc := 90) dX4_addSources_90 hA_bf T1555 (lnC q851 (vc_X4_addSources_24 hq0 h853 h1573 h849 h1579 h1 h848 h852 hp1 h1553 h1572)) h1585 fun μ1587 u1588 T1589 => ?_
            refine sv_aload_n (pc := 91) dX4_addSources_91 rfl rfl ?_
            refine gk_X4_6 (pc := 92) dX4_addSources_92 wF_X4_33 (A_94 hw) (u1588.f (Or.inl (mAt.ne hA_bf (A_94 hw) rfl)) (F1556.f (A_94 hw) rfl (F1291.f (A_94 hw) rfl q_bq))) ?_
            refine mr_iload_n (pc := 95) (z := z1550) dX4_addSources_95 rfl rfl ?_
            refine mr_iload (pc := 96) (z := (p1 + z1570)) dX4_addSources_96 rfl ?_
            refine ss_102 (pc := 98) dX4_addSources_98 hA_bq T1589 (lnC q847 (vc_X4_addSources_26 h849 h1558 h1579 hq0 h853 h1293 h1573 h1 h848 h852 hp1 hp2 h1288 h1553 h1572)) (vc_X4_addSources_27 hq0 h1573 h849 h853 h1579 h1 h848 h852 hp1 h1553 h1572) fun μ1590 u1591 T1592 => ?_
            have Q1593 : quC μ1590 bq bf (z1550 + 1) f_st 1 := quC.push R1559 (mAt.ne hA_bq hA_bf rfl) (vc_X4_addSources_28 h1558 h1579 hq0 h849 h853 h1293 h1573 h1 h848 h852 hp1 hp2 h1288 h1553 h1572) (vc_X4_addSources_29 hq0 h849 h853 h1573 h1579 h1558 h1 h848 h852 hp1 hp2 h1553 h1572) q1575 (vc_X4_addSources_23 h1577 h1578) u1588 B1586.2 u1591
            refine mr_iinc (pc := 99) (lv' := [(3, iv (z1550 + 1)), (6, iv (p1 + z1570)), (0, .ref 94), (1, iv p1), (4, iv z1284), (5, iv z1549)]) dX4_addSources_99 rfl (by decide) rfl ?_
            refine mr_iinc (pc := 102) (lv' := [(5, iv (z1549 + 1)), (3, iv (z1550 + 1)), (6, iv (p1 + z1570)), (0, .ref 94), (1, iv p1), (4, iv z1284)]) dX4_addSources_102 rfl (by decide) rfl ?_
            refine sv_goto (pc := 105) (tgt := 34) dX4_addSources_105 (by decide) ?_
            refine mr_lvS (lv' := [(0, .ref 94), (1, iv p1), (3, iv (z1550 + 1)), (4, iv z1284), (5, iv (z1549 + 1))]) (List.forall_mem_cons.mpr ⟨rfl, List.forall_mem_cons.mpr ⟨rfl, List.forall_mem_cons.mpr ⟨rfl, List.forall_mem_cons.mpr ⟨rfl, List.forall_mem_cons.mpr ⟨rfl, fun _ h => absurd h List.not_mem_nil⟩⟩⟩⟩⟩) ?_
            exact ih1561 (z1550 + 1) (z1549 + 1) μ1590 T1592 (mF.up (mF.up (mF.call mF.refl F1556 rfl) hA_bf u1588 rfl) hA_bq u1591 rfl) (vc_X4_addSources_30 h1558 h1579 hq0 h849 h853 h1293 h1573 h1 h848 h852 hp1 hp2 h1288 h1553 h1572) (rW (c := 0) (d := 6) (rAdd (e := 1) (f := 6) h1564 (rR (x := 1)) rfl) rfl) (vc_X4_addSources_31 h1293 h1558 h1579 hq0 h849 h853 h1573 h1 h848 h852 hp1 hp2 h1288 h1553 h1572) Q1593 (vc_X4_addSources_19 (nS h1560) h1562 h1375.2.1 h1380 h1371 h1375.1 h1566 h1564)
        refine mr_lvS (lv' := [(0, .ref 94), (1, iv p1), (3, iv z1285), (4, iv z1284), (5, iv 0)]) (List.forall_mem_cons.mpr ⟨rfl, List.forall_mem_cons.mpr ⟨rfl, List.forall_mem_cons.mpr ⟨rfl, List.forall_mem_cons.mpr ⟨rfl, List.forall_mem_cons.mpr ⟨rfl, fun _ h => absurd h List.not_mem_nil⟩⟩⟩⟩⟩) ?_
        exact L1552 8 z1285 0 μ1286 T1290 mF.refl h1288 (rW (c := 0) (d := 6) (rR (x := 0)) rfl) (vc_X4_addSources_4 h1293 hp2 h1288) R1294 vc_X12_wish_56
      refine sv_goto (pc := 28) (tgt := 108) dX4_addSources_28 (by decide) ?_
      refine mr_iinc (pc := 108) (lv' := [(4, iv (z1284 + 1)), (0, .ref 94), (1, iv p1), (3, iv z1285)]) dX4_addSources_108 rfl (by decide) rfl ?_
      refine sv_goto (pc := 111) (tgt := 5) dX4_addSources_111 (by decide) ?_
      refine mr_lvS (lv' := [(0, .ref 94), (1, iv p1), (3, iv z1285), (4, iv (z1284 + 1))]) (List.forall_mem_cons.mpr ⟨rfl, List.forall_mem_cons.mpr ⟨rfl, List.forall_mem_cons.mpr ⟨rfl, List.forall_mem_cons.mpr ⟨rfl, fun _ h => absurd h List.not_mem_nil⟩⟩⟩⟩) ?_
      exact ih1296 z1285 (z1284 + 1) μ1286 T1290 (mF.call mF.refl F1291 rfl) h1288 (rW (c := 1) (d := 7) (rAdd (e := 2) (f := 7) h1368 (rR (x := 1)) rfl) rfl) (vc_X4_addSources_4 h1293 hp2 h1288) R1294 (vc_X4_forget_4 (nS h1295) h1366 h1368)
  refine mr_lvS (lv' := [(0, .ref 94), (1, iv p1), (3, iv p2), (4, iv 1)]) (List.forall_mem_cons.mpr ⟨rfl, List.forall_mem_cons.mpr ⟨rfl, List.forall_mem_cons.mpr ⟨rfl, List.forall_mem_cons.mpr ⟨rfl, fun _ h => absurd h List.not_mem_nil⟩⟩⟩⟩) ?_
  exact L1287 8 p2 1 μ hT mF.refl hp2 (rW (c := 1) (d := 7) (rR (x := 1)) rfl) (vc_X12_tries_75 hp2) hqu vc_X12_clear_5
theorem vc_X4_spread_8 {f_st n_1488 n_1492 : Int} (h0 : f_st ≤ n_1488) (h1 : 1 ≤ f_st) (h2 : f_st ≤ n_1492) (h3 : 1 ≤ f_st ∧ f_st ≤ 46656) (h4 : 0 ≤ n_1488 ∧ n_1488 ≤ 93312) (h5 : 0 ≤ n_1492 ∧ n_1492 ≤ 93312) : 0 ≤ (0 : Int) ∧ (0 : Int) < n_1488 := by omega
theorem vc_X4_spread_9 {f_st n_1488 n_1492 : Int} (h0 : 1 ≤ f_st) (h1 : f_st ≤ n_1488) (h2 : f_st ≤ n_1492) (h3 : 1 ≤ f_st ∧ f_st ≤ 46656) (h4 : 0 ≤ n_1488 ∧ n_1488 ≤ 93312) (h5 : 0 ≤ n_1492 ∧ n_1492 ≤ 93312) : 0 ≤ (f_st - 1) ∧ (f_st - 1) < n_1492 := by omega
theorem vc_X4_spread_10 {f_st n_1488 n_1492 : Int} (h0 : 1 ≤ f_st) (h1 : f_st ≤ n_1488) (h2 : f_st ≤ n_1492) (h3 : 1 ≤ f_st ∧ f_st ≤ 46656) (h4 : 0 ≤ n_1488 ∧ n_1488 ≤ 93312) (h5 : 0 ≤ n_1492 ∧ n_1492 ≤ 93312) : (f_st - 1) = f_st - 1 := by omega
theorem vc_X4_spread_11 {f_st n_1488 n_1492 : Int} (h0 : 1 ≤ f_st) (h1 : f_st ≤ n_1488) (h2 : f_st ≤ n_1492) (h3 : 1 ≤ f_st ∧ f_st ≤ 46656) (h4 : 0 ≤ n_1488 ∧ n_1488 ≤ 93312) (h5 : 0 ≤ n_1492 ∧ n_1492 ≤ 93312) : 1 ≤ f_st := by omega
theorem vc_X4_spread_12 {z2721 z2723 z2724 : Int} (h0 : (46657 - z2721) < ((0 : Nat) : Int)) (h1 : z2721 ≤ z2724) (h2 : z2723 ≤ z2721) (h3 : 0 ≤ z2721 ∧ z2721 ≤ 46656) (h4 : 0 ≤ z2723 ∧ z2723 ≤ 46656) (h5 : 1 ≤ z2724 ∧ z2724 ≤ 46656) : False := by omega
theorem vc_X4_spread_13 {f_st n_1488 n_1492 : Int} (h0 : 1 ≤ f_st) (h1 : f_st ≤ n_1488) (h2 : f_st ≤ n_1492) (h3 : 1 ≤ f_st ∧ f_st ≤ 46656) (h4 : 0 ≤ n_1488 ∧ n_1488 ≤ 93312) (h5 : 0 ≤ n_1492 ∧ n_1492 ≤ 93312) : 0 ≤ f_st := by omega
theorem vc_X4_spread_14 {f_st z2721 z2723 z2724 : Int} (h0 : z2724 ≤ z2721) (h1 : z2721 ≤ z2724) (h2 : z2723 ≤ z2721) (h3 : z2724 ≤ f_st) (h4 : 1 ≤ f_st ∧ f_st ≤ 46656) (h5 : 0 ≤ z2721 ∧ z2721 ≤ 46656) (h6 : 0 ≤ z2723 ∧ z2723 ≤ 46656) (h7 : 1 ≤ z2724 ∧ z2724 ≤ 46656) : 1 ≤ z2721 ∧ z2721 ≤ 46656 := by omega
theorem vc_X4_spread_15 {f_st z2721 z2723 z2724 : Int} (h0 : z2721 < z2724) (h1 : z2721 ≤ z2724) (h2 : z2723 ≤ z2721) (h3 : z2724 ≤ f_st) (h4 : 1 ≤ f_st ∧ f_st ≤ 46656) (h5 : 0 ≤ z2721 ∧ z2721 ≤ 46656) (h6 : 0 ≤ z2723 ∧ z2723 ≤ 46656) (h7 : 1 ≤ z2724 ∧ z2724 ≤ 46656) : 0 ≤ z2721 ∧ z2721 ≤ 46655 := by omega
theorem vc_X4_spread_16 {f_st n_1488 n_1492 z2721 z2723 z2724 z2823 : Int} (h0 : f_st ≤ n_1488) (h1 : z2721 ≤ z2724) (h2 : z2723 ≤ z2721) (h3 : z2721 < z2724) (h4 : z2823 ≤ z2721 + 1) (h5 : 1 ≤ f_st) (h6 : f_st ≤ n_1492) (h7 : z2724 ≤ f_st) (h8 : 1 ≤ f_st ∧ f_st ≤ 46656) (h9 : 0 ≤ n_1488 ∧ n_1488 ≤ 93312) (h10 : 0 ≤ n_1492 ∧ n_1492 ≤ 93312) (h11 : 0 ≤ z2721 ∧ z2721 ≤ 46655) (h12 : 0 ≤ z2723 ∧ z2723 ≤ 46656) (h13 : 1 ≤ z2724 ∧ z2724 ≤ 46656) (h14 : 0 ≤ z2823 ∧ z2823 ≤ 46657) : 0 ≤ z2721 ∧ z2721 < n_1488 := by omega
theorem vc_X4_spread_17 {f_st z2721 z2723 z2724 z2823 : Int} (h0 : z2721 ≤ z2724) (h1 : z2723 ≤ z2721) (h2 : z2721 < z2724) (h3 : z2823 ≤ z2721 + 1) (h4 : z2724 ≤ f_st) (h5 : 1 ≤ f_st ∧ f_st ≤ 46656) (h6 : 0 ≤ z2721 ∧ z2721 ≤ 46655) (h7 : 0 ≤ z2723 ∧ z2723 ≤ 46656) (h8 : 1 ≤ z2724 ∧ z2724 ≤ 46656) (h9 : 0 ≤ z2823 ∧ z2823 ≤ 46657) : 0 ≤ z2721 := by omega
theorem vc_X4_spread_18 {f_st n_1488 n_1492 z2721 z2723 z2724 z2823 : Int} (h0 : z2721 ≤ z2724) (h1 : z2723 ≤ z2721) (h2 : z2724 ≤ f_st) (h3 : z2721 < z2724) (h4 : z2823 ≤ z2721 + 1) (h5 : 1 ≤ f_st) (h6 : f_st ≤ n_1488) (h7 : f_st ≤ n_1492) (h8 : 1 ≤ f_st ∧ f_st ≤ 46656) (h9 : 0 ≤ n_1488 ∧ n_1488 ≤ 93312) (h10 : 0 ≤ n_1492 ∧ n_1492 ≤ 93312) (h11 : 0 ≤ z2721 ∧ z2721 ≤ 46655) (h12 : 0 ≤ z2723 ∧ z2723 ≤ 46656) (h13 : 1 ≤ z2724 ∧ z2724 ≤ 46656) (h14 : 0 ≤ z2823 ∧ z2823 ≤ 46657) : z2721 < z2724 := by omega
theorem vc_X4_spread_25 {f_st n_1488 n_1492 z2721 z2723 z2724 z2823 z2829 : Int} (h0 : f_st ≤ n_1488) (h1 : z2721 ≤ z2724) (h2 : z2723 ≤ z2721) (h3 : z2721 < z2724) (h4 : z2823 ≤ z2721 + 1) (h5 : 1 ≤ f_st) (h6 : f_st ≤ n_1492) (h7 : z2724 ≤ f_st) (h8 : 0 ≤ z2829 ∧ z2829 < f_st) (h9 : 1 ≤ f_st ∧ f_st ≤ 46656) (h10 : 0 ≤ n_1488 ∧ n_1488 ≤ 93312) (h11 : 0 ≤ n_1492 ∧ n_1492 ≤ 93312) (h12 : 0 ≤ z2721 ∧ z2721 ≤ 46655) (h13 : 0 ≤ z2723 ∧ z2723 ≤ 46656) (h14 : 1 ≤ z2724 ∧ z2724 ≤ 46656) (h15 : 0 ≤ z2823 ∧ z2823 ≤ 46657) (h16 : 0 ≤ z2829 ∧ z2829 ≤ 46655) : 0 ≤ z2721 ∧ z2721 < n_1488 := by omega
theorem vc_X4_spread_26 {f_st n_1488 n_1492 z2721 z2723 z2724 z2823 z2829 : Int} (h0 : z2721 ≤ z2724) (h1 : z2723 ≤ z2721) (h2 : z2724 ≤ f_st) (h3 : z2721 < z2724) (h4 : z2823 ≤ z2721 + 1) (h5 : 1 ≤ f_st) (h6 : f_st ≤ n_1488) (h7 : f_st ≤ n_1492) (h8 : 0 ≤ z2829 ∧ z2829 < f_st) (h9 : 1 ≤ f_st ∧ f_st ≤ 46656) (h10 : 0 ≤ n_1488 ∧ n_1488 ≤ 93312) (h11 : 0 ≤ n_1492 ∧ n_1492 ≤ 93312) (h12 : 0 ≤ z2721 ∧ z2721 ≤ 46655) (h13 : 0 ≤ z2723 ∧ z2723 ≤ 46656) (h14 : 1 ≤ z2724 ∧ z2724 ≤ 46656) (h15 : 0 ≤ z2823 ∧ z2823 ≤ 46657) (h16 : 0 ≤ z2829 ∧ z2829 ≤ 46655) : z2721 < z2724 := by omega
theorem vc_X4_spread_27 {f_st n_1488 n_1492 z2721 z2724 z2829 : Int} (h0 : 1 ≤ f_st) (h1 : f_st ≤ n_1488) (h2 : f_st ≤ n_1492) (h3 : z2724 ≤ f_st) (h4 : 0 ≤ z2829 ∧ z2829 < f_st) (h5 : z2721 ≤ z2724) (h6 : z2721 < z2724) (h7 : 1 ≤ f_st ∧ f_st ≤ 46656) (h8 : 0 ≤ n_1488 ∧ n_1488 ≤ 93312) (h9 : 0 ≤ n_1492 ∧ n_1492 ≤ 93312) (h10 : 0 ≤ z2721 ∧ z2721 ≤ 46655) (h11 : 1 ≤ z2724 ∧ z2724 ≤ 46656) (h12 : 0 ≤ z2829 ∧ z2829 ≤ 46655) : z2829 < f_st := by omega
theorem vc_X4_spread_28 {f_st n_1488 n_1492 z2721 z2724 z2829 : Int} (h0 : 1 ≤ f_st) (h1 : f_st ≤ n_1488) (h2 : f_st ≤ n_1492) (h3 : z2724 ≤ f_st) (h4 : 0 ≤ z2829 ∧ z2829 < f_st) (h5 : z2721 ≤ z2724) (h6 : z2721 < z2724) (h7 : 1 ≤ f_st ∧ f_st ≤ 46656) (h8 : 0 ≤ n_1488 ∧ n_1488 ≤ 93312) (h9 : 0 ≤ n_1492 ∧ n_1492 ≤ 93312) (h10 : 0 ≤ z2721 ∧ z2721 ≤ 46655) (h11 : 1 ≤ z2724 ∧ z2724 ≤ 46656) (h12 : 0 ≤ z2829 ∧ z2829 ≤ 46655) : f_st ≤ n_1488 := by omega
theorem vc_X4_spread_29 {f_st n_1488 n_1492 z2721 z2724 z2829 : Int} (h0 : 1 ≤ f_st) (h1 : f_st ≤ n_1488) (h2 : f_st ≤ n_1492) (h3 : z2724 ≤ f_st) (h4 : 0 ≤ z2829 ∧ z2829 < f_st) (h5 : z2721 ≤ z2724) (h6 : z2721 < z2724) (h7 : 1 ≤ f_st ∧ f_st ≤ 46656) (h8 : 0 ≤ n_1488 ∧ n_1488 ≤ 93312) (h9 : 0 ≤ n_1492 ∧ n_1492 ≤ 93312) (h10 : 0 ≤ z2721 ∧ z2721 ≤ 46655) (h11 : 1 ≤ z2724 ∧ z2724 ≤ 46656) (h12 : 0 ≤ z2829 ∧ z2829 ≤ 46655) : f_st ≤ n_1492 := by omega
theorem vc_X4_spread_31 {z2721 z2723 z2724 z2823 : Int} (h0 : z2823 ≤ z2721 + 1) (h1 : z2721 ≤ z2724) (h2 : z2723 ≤ z2721) (h3 : z2721 < z2724) (h4 : 0 ≤ z2721 ∧ z2721 ≤ 46655) (h5 : 0 ≤ z2723 ∧ z2723 ≤ 46656) (h6 : 1 ≤ z2724 ∧ z2724 ≤ 46656) (h7 : 0 ≤ z2823 ∧ z2823 ≤ 46657) : 0 ≤ z2823 ∧ z2823 ≤ 46656 := by omega
theorem vc_X4_spread_32 {f_st z2721 z2723 z2724 z2823 z2860 : Int} (h0 : z2721 ≤ z2724) (h1 : z2723 ≤ z2721) (h2 : z2721 < z2724) (h3 : z2823 ≤ z2721 + 1) (h4 : z2724 ≤ z2860) (h5 : z2724 ≤ f_st) (h6 : 1 ≤ f_st ∧ f_st ≤ 46656) (h7 : 0 ≤ z2721 ∧ z2721 ≤ 46655) (h8 : 0 ≤ z2723 ∧ z2723 ≤ 46656) (h9 : 1 ≤ z2724 ∧ z2724 ≤ 46656) (h10 : 0 ≤ z2823 ∧ z2823 ≤ 46657) (h11 : 1 ≤ z2860 ∧ z2860 ≤ 46656) : (z2721 + 1) ≤ z2860 := by omega
theorem vc_X4_spread_33 {f_st z2721 z2723 z2724 z2823 z2860 : Int} (h0 : z2721 ≤ z2724) (h1 : z2723 ≤ z2721) (h2 : z2721 < z2724) (h3 : z2823 ≤ z2721 + 1) (h4 : z2724 ≤ f_st) (h5 : z2724 ≤ z2860) (h6 : 1 ≤ f_st ∧ f_st ≤ 46656) (h7 : 0 ≤ z2721 ∧ z2721 ≤ 46655) (h8 : 0 ≤ z2723 ∧ z2723 ≤ 46656) (h9 : 1 ≤ z2724 ∧ z2724 ≤ 46656) (h10 : 0 ≤ z2823 ∧ z2823 ≤ 46657) (h11 : 1 ≤ z2860 ∧ z2860 ≤ 46656) : z2823 ≤ (z2721 + 1) := by omega
theorem vc_X4_spread_34 {N f_st z2721 z2723 z2724 z2823 z2860 : Int} (h0 : (46657 - z2721) < N + 1) (h1 : z2721 ≤ z2724) (h2 : z2723 ≤ z2721) (h3 : z2721 < z2724) (h4 : z2823 ≤ z2721 + 1) (h5 : z2724 ≤ f_st) (h6 : z2724 ≤ z2860) (h7 : 1 ≤ f_st ∧ f_st ≤ 46656) (h8 : 0 ≤ z2721 ∧ z2721 ≤ 46655) (h9 : 0 ≤ z2723 ∧ z2723 ≤ 46656) (h10 : 1 ≤ z2724 ∧ z2724 ≤ 46656) (h11 : 0 ≤ z2823 ∧ z2823 ≤ 46657) (h12 : 1 ≤ z2860 ∧ z2860 ≤ 46656) : (46657 - (z2721 + 1)) < N := by omega
theorem vc_X4_spread_36 {f_st n_1488 n_1492 z2721 z2723 z2724 z2823 z2829 z2860 : Int} (h0 : f_st ≤ n_1488) (h1 : z2721 ≤ z2724) (h2 : z2723 ≤ z2721) (h3 : z2721 < z2724) (h4 : z2823 ≤ z2721 + 1) (h5 : 1 ≤ f_st) (h6 : f_st ≤ n_1492) (h7 : z2724 ≤ f_st) (h8 : 0 ≤ z2829 ∧ z2829 < f_st) (h9 : z2724 ≤ z2860) (h10 : 1 ≤ f_st ∧ f_st ≤ 46656) (h11 : 0 ≤ n_1488 ∧ n_1488 ≤ 93312) (h12 : 0 ≤ n_1492 ∧ n_1492 ≤ 93312) (h13 : 0 ≤ z2721 ∧ z2721 ≤ 46655) (h14 : 0 ≤ z2723 ∧ z2723 ≤ 46656) (h15 : 1 ≤ z2724 ∧ z2724 ≤ 46656) (h16 : 0 ≤ z2823 ∧ z2823 ≤ 46657) (h17 : 0 ≤ z2829 ∧ z2829 ≤ 46655) (h18 : 1 ≤ z2860 ∧ z2860 ≤ 46656) : 0 ≤ z2721 ∧ z2721 < n_1488 := by omega
theorem vc_X4_spread_37 {f_st z2721 z2723 z2724 z2823 z2860 : Int} (h0 : z2721 ≤ z2724) (h1 : z2723 ≤ z2721) (h2 : z2721 < z2724) (h3 : z2823 ≤ z2721 + 1) (h4 : z2724 ≤ f_st) (h5 : z2724 ≤ z2860) (h6 : 1 ≤ f_st ∧ f_st ≤ 46656) (h7 : 0 ≤ z2721 ∧ z2721 ≤ 46655) (h8 : 0 ≤ z2723 ∧ z2723 ≤ 46656) (h9 : 1 ≤ z2724 ∧ z2724 ≤ 46656) (h10 : 0 ≤ z2823 ∧ z2823 ≤ 46657) (h11 : 1 ≤ z2860 ∧ z2860 ≤ 46656) : 0 ≤ z2721 := by omega
theorem vc_X4_spread_38 {f_st z2721 z2723 z2724 z2823 z2860 : Int} (h0 : z2721 ≤ z2724) (h1 : z2723 ≤ z2721) (h2 : z2721 < z2724) (h3 : z2823 ≤ z2721 + 1) (h4 : z2724 ≤ z2860) (h5 : z2724 ≤ f_st) (h6 : 1 ≤ f_st ∧ f_st ≤ 46656) (h7 : 0 ≤ z2721 ∧ z2721 ≤ 46655) (h8 : 0 ≤ z2723 ∧ z2723 ≤ 46656) (h9 : 1 ≤ z2724 ∧ z2724 ≤ 46656) (h10 : 0 ≤ z2823 ∧ z2823 ≤ 46657) (h11 : 1 ≤ z2860 ∧ z2860 ≤ 46656) : z2721 < z2860 := by omega
theorem vc_X4_spread_39 {f_st n_1488 n_1492 z2724 z2829 z2869 : Int} (h0 : f_st ≤ n_1492) (h1 : 0 ≤ z2869 ∧ z2869 < f_st) (h2 : 1 ≤ f_st) (h3 : f_st ≤ n_1488) (h4 : z2724 ≤ f_st) (h5 : 0 ≤ z2829 ∧ z2829 < f_st) (h6 : 1 ≤ f_st ∧ f_st ≤ 46656) (h7 : 0 ≤ n_1488 ∧ n_1488 ≤ 93312) (h8 : 0 ≤ n_1492 ∧ n_1492 ≤ 93312) (h9 : 1 ≤ z2724 ∧ z2724 ≤ 46656) (h10 : 0 ≤ z2829 ∧ z2829 ≤ 46655) (h11 : 0 ≤ z2869 ∧ z2869 ≤ 46655) : 0 ≤ z2869 ∧ z2869 < n_1492 := by omega
theorem vc_X4_spread_40 {z2873 : Int} (h0 : (-128) ≤ z2873 ∧ z2873 ≤ 127) : -128 ≤ z2873 ∧ z2873 ≤ 127 := by omega
theorem vc_X4_spread_43 {f_st z2721 z2722 z2723 z2724 : Int} (h0 : z2721 ≤ z2724) (h1 : z2723 ≤ z2721) (h2 : z2721 < z2724) (h3 : ¬ z2721 = z2722) (h4 : z2724 ≤ f_st) (h5 : 1 ≤ f_st ∧ f_st ≤ 46656) (h6 : 0 ≤ z2721 ∧ z2721 ≤ 46655) (h7 : 1 ≤ z2722 ∧ z2722 ≤ 46656) (h8 : 0 ≤ z2723 ∧ z2723 ≤ 46656) (h9 : 1 ≤ z2724 ∧ z2724 ≤ 46656) : z2723 ≤ z2721 + 1 := by omega
theorem vc_X4_spread_44 {z2721 z2722 z2723 z2724 : Int} (h0 : z2721 = z2722) (h1 : z2721 ≤ z2724) (h2 : z2723 ≤ z2721) (h3 : z2721 < z2724) (h4 : 0 ≤ z2721 ∧ z2721 ≤ 46655) (h5 : 1 ≤ z2722 ∧ z2722 ≤ 46656) (h6 : 0 ≤ z2723 ∧ z2723 ≤ 46656) (h7 : 1 ≤ z2724 ∧ z2724 ≤ 46656) : 1 ≤ z2721 ∧ z2721 ≤ 46655 := by omega
theorem vc_X4_spread_45 {z2721 z2722 z2723 z2724 : Int} (h0 : z2721 = z2722) (h1 : z2721 ≤ z2724) (h2 : z2723 ≤ z2721) (h3 : z2721 < z2724) (h4 : 1 ≤ z2721 ∧ z2721 ≤ 46655) (h5 : 1 ≤ z2722 ∧ z2722 ≤ 46656) (h6 : 0 ≤ z2723 ∧ z2723 ≤ 46656) (h7 : 1 ≤ z2724 ∧ z2724 ≤ 46656) : 1 ≤ z2722 ∧ z2722 ≤ 46655 := by omega
theorem vc_X4_spread_46 {f_st z2721 z2722 z2723 z2724 : Int} (h0 : z2721 ≤ z2724) (h1 : z2723 ≤ z2721) (h2 : z2721 < z2724) (h3 : z2721 = z2722) (h4 : z2724 ≤ f_st) (h5 : 1 ≤ f_st ∧ f_st ≤ 46656) (h6 : 1 ≤ z2721 ∧ z2721 ≤ 46655) (h7 : 1 ≤ z2722 ∧ z2722 ≤ 46655) (h8 : 0 ≤ z2723 ∧ z2723 ≤ 46656) (h9 : 1 ≤ z2724 ∧ z2724 ≤ 46656) : (z2723 + 1) ≤ z2721 + 1 := by omega
set_option maxRecDepth 4000 in
set_option maxHeartbeats 4000000 in
theorem c_X4_spread {l : Launch} {D : va_G} {c : Nat → ClassId} {H0 : Heap} {sa : Nat × Nat × (Nat → Int32)} {w : mW} {μ : mM} (hw : mWF w) (hT : mT w μ) {f_st : Int} (q_f_st : μ 94 9 = f_st) {bq : Nat} (q_bq : μ 94 6 = (bq : Int)) (hA_bq : mAt w bq 102) {bf : Nat} (q_bf : μ 94 8 = (bf : Int)) (hA_bf : mAt w bf 104) (hq0 : 1 ≤ f_st) (hlq : μ 94 9 ≤ (w.2.2.1 bq : Int)) (hlf : μ 94 9 ≤ (w.2.2.1 bf : Int)) (hrx : radix μ 100 95 f_st) : sC (gG l D c H0 sa) mX4_spread 3 0 0 [.ref 94] (mk w μ) (qI w [101999, 102999, 104999, 105999] μ (fun z μ1 => (1 ≤ z ∧ z ≤ 46656) ∧ True)) := by
  refine sC.of rfl (by decide) (le_t rfl) ?_
  have ht_f_st : (0 ≤ f_st ∧ f_st ≤ 46656) := by rw [← q_f_st]; exact hT 94 94 (A_94 hw) 9
  have h1 : 1 ≤ f_st ∧ f_st ≤ 46656 := (vc_X12_open_1 hq0 ht_f_st)
  refine mr_lvE (lv' := [(0, .ref 94)]) rfl ?_
  obtain ⟨n_1488, q1489⟩ : ∃ n : Int, (w.2.2.1 bq : Int) = n := ⟨_, rfl⟩
  have h1490 : 0 ≤ n_1488 ∧ n_1488 ≤ 93312 := lnR (m := 93312) q1489 hA_bq rfl
  have h1491 : f_st ≤ n_1488 := lenLe hlq q_f_st q1489
  obtain ⟨n_1492, q1493⟩ : ∃ n : Int, (w.2.2.1 bf : Int) = n := ⟨_, rfl⟩
  have h1494 : 0 ≤ n_1492 ∧ n_1492 ≤ 93312 := lnR (m := 93312) q1493 hA_bf rfl
  have h1495 : f_st ≤ n_1492 := lenLe hlf q_f_st q1493
  obtain ⟨z1496, q1497⟩ : ∃ z, μ 100 ((1 : Int).toNat) = z := ⟨_, rfl⟩
  have h1498 : (0 ≤ z1496 ∧ z1496 ≤ 46656) := by rw [← q1497]; exact hT 100 100 (A_100 hw) ((1 : Int).toNat)
  have h1499 : 1 ≤ z1496 := by have h : 0 < μ 100 ((1 : Int).toNat) := hrx.1.1; rw [q1497] at h; omega
  have h1500 : 1 ≤ z1496 ∧ z1496 ≤ 46656 := (vc_X12_open_1 h1499 h1498)
  obtain ⟨z1501, q1502⟩ : ∃ z, μ 100 ((2 : Int).toNat) = z := ⟨_, rfl⟩
  have h1503 : (0 ≤ z1501 ∧ z1501 ≤ 46656) := by rw [← q1502]; exact hT 100 100 (A_100 hw) ((2 : Int).toNat)
  have h1504 : 1 ≤ z1501 := by have h : 0 < μ 100 ((2 : Int).toNat) := hrx.2.1.1; rw [q1502] at h; omega
  have h1505 : 1 ≤ z1501 ∧ z1501 ≤ 46656 := (vc_X12_open_1 h1504 h1503)
  obtain ⟨z1506, q1507⟩ : ∃ z, μ 100 ((3 : Int).toNat) = z := ⟨_, rfl⟩
  have h1508 : (0 ≤ z1506 ∧ z1506 ≤ 46656) := by rw [← q1507]; exact hT 100 100 (A_100 hw) ((3 : Int).toNat)
  have h1509 : 1 ≤ z1506 := by have h : 0 < μ 100 ((3 : Int).toNat) := hrx.2.2.1.1; rw [q1507] at h; omega
  have h1510 : 1 ≤ z1506 ∧ z1506 ≤ 46656 := (vc_X12_open_1 h1509 h1508)
  obtain ⟨z1511, q1512⟩ : ∃ z, μ 100 ((4 : Int).toNat) = z := ⟨_, rfl⟩
  have h1513 : (0 ≤ z1511 ∧ z1511 ≤ 46656) := by rw [← q1512]; exact hT 100 100 (A_100 hw) ((4 : Int).toNat)
  have h1514 : 1 ≤ z1511 := by have h : 0 < μ 100 ((4 : Int).toNat) := hrx.2.2.2.1.1; rw [q1512] at h; omega
  have h1515 : 1 ≤ z1511 ∧ z1511 ≤ 46656 := (vc_X12_open_1 h1514 h1513)
  obtain ⟨z1516, q1517⟩ : ∃ z, μ 100 ((5 : Int).toNat) = z := ⟨_, rfl⟩
  have h1518 : (0 ≤ z1516 ∧ z1516 ≤ 46656) := by rw [← q1517]; exact hT 100 100 (A_100 hw) ((5 : Int).toNat)
  have h1519 : 1 ≤ z1516 := by have h : 0 < μ 100 ((5 : Int).toNat) := hrx.2.2.2.2.1.1; rw [q1517] at h; omega
  have h1520 : 1 ≤ z1516 ∧ z1516 ≤ 46656 := (vc_X12_open_1 h1519 h1518)
  obtain ⟨z1521, q1522⟩ : ∃ z, μ 100 ((6 : Int).toNat) = z := ⟨_, rfl⟩
  have h1523 : (0 ≤ z1521 ∧ z1521 ≤ 46656) := by rw [← q1522]; exact hT 100 100 (A_100 hw) ((6 : Int).toNat)
  have h1524 : 1 ≤ z1521 := by have h : 0 < μ 100 ((6 : Int).toNat) := hrx.2.2.2.2.2.1; rw [q1522] at h; omega
  have h1525 : 1 ≤ z1521 ∧ z1521 ≤ 46656 := (vc_X12_open_1 h1524 h1523)
  refine sv_aload_n (pc := 0) dX4_spread_0 rfl rfl ?_
  refine gf_X4_13 (pc := 1) dX4_spread_1 wF_X4_43 (A_94 hw) hT ?_
  refine mr_iconst (pc := 4) (z := 1) dX4_spread_4 ?_
  refine mr_iconst (pc := 5) (z := 0) dX4_spread_5 ?_
  refine ss_105 (pc := 6) dX4_spread_6 (A_105 hw) hT (rIx (n := 4) (rR (x := 1)) rfl) (rW (c := (-2147483648)) (d := 2147483647) (rR (x := 0)) rfl) fun μ1526 u1527 T1528 => ?_
  refine sv_aload_n (pc := 7) dX4_spread_7 rfl rfl ?_
  refine gf_X4_13 (pc := 8) dX4_spread_8 wF_X4_43 (A_94 hw) T1528 ?_
  refine mr_iconst (pc := 11) (z := 3) dX4_spread_11 ?_
  refine mr_ldc (pc := 12) (z := (-99999999)) dX4_spread_12 wG_X4_123 (by decide) ?_
  refine ss_105 (pc := 14) dX4_spread_14 (A_105 hw) T1528 (rIx (n := 4) (rR (x := 3)) rfl) (rW (c := (-2147483648)) (d := 2147483647) (rR (x := (-99999999))) rfl) fun μ1529 u1530 T1531 => ?_
  refine sv_aload_n (pc := 15) dX4_spread_15 rfl rfl ?_
  refine gk_X4_6 (pc := 16) dX4_spread_16 wF_X4_33 (A_94 hw) (u1530.f (Or.inl (mAt.ne (A_105 hw) (A_94 hw) rfl)) (u1527.f (Or.inl (mAt.ne (A_105 hw) (A_94 hw) rfl)) q_bq)) ?_
  refine mr_iconst (pc := 19) (z := 0) dX4_spread_19 ?_
  refine sv_aload_n (pc := 20) dX4_spread_20 rfl rfl ?_
  refine gk_X4_9 (pc := 21) dX4_spread_21 wF_X4_59 (A_94 hw) (u1530.f (Or.inl (mAt.ne (A_105 hw) (A_94 hw) rfl)) (u1527.f (Or.inl (mAt.ne (A_105 hw) (A_94 hw) rfl)) q_f_st)) ?_
  refine mr_iconst (pc := 24) (z := 1) dX4_spread_24 ?_
  refine mr_isub (pc := 25) (x := f_st) (y := 1) dX4_spread_25 ?_
  refine ss_102 (pc := 26) dX4_spread_26 hA_bq T1531 (lnC q1489 (vc_X4_spread_8 h1491 hq0 h1495 h1 h1490 h1494)) (rSub (e := 0) (f := 46655) h1 (rR (x := 1)) rfl) fun μ1532 u1533 T1534 => ?_
  refine sv_aload_n (pc := 27) dX4_spread_27 rfl rfl ?_
  refine gk_X4_8 (pc := 28) dX4_spread_28 wF_X4_39 (A_94 hw) (u1533.f (Or.inl (mAt.ne hA_bq (A_94 hw) rfl)) (u1530.f (Or.inl (mAt.ne (A_105 hw) (A_94 hw) rfl)) (u1527.f (Or.inl (mAt.ne (A_105 hw) (A_94 hw) rfl)) q_bf))) ?_
  refine sv_aload_n (pc := 31) dX4_spread_31 rfl rfl ?_
  refine gk_X4_9 (pc := 32) dX4_spread_32 wF_X4_59 (A_94 hw) (u1533.f (Or.inl (mAt.ne hA_bq (A_94 hw) rfl)) (u1530.f (Or.inl (mAt.ne (A_105 hw) (A_94 hw) rfl)) (u1527.f (Or.inl (mAt.ne (A_105 hw) (A_94 hw) rfl)) q_f_st))) ?_
  refine mr_iconst (pc := 35) (z := 1) dX4_spread_35 ?_
  refine mr_isub (pc := 36) (x := f_st) (y := 1) dX4_spread_36 ?_
  refine mr_iconst (pc := 37) (z := 1) dX4_spread_37 ?_
  refine ss_104 (pc := 38) dX4_spread_38 hA_bf T1534 (lnC q1493 (vc_X4_spread_9 hq0 h1491 h1495 h1 h1490 h1494)) (rW (c := (-128)) (d := 127) (rR (x := 1)) rfl) fun μ1535 u1536 T1537 => ?_
  have Q1538 : quC μ1535 bq bf 1 f_st 0 := quC.init (mAt.ne hA_bf hA_bq rfl) (vc_X4_spread_10 hq0 h1491 h1495 h1 h1490 h1494) (vc_X4_spread_11 hq0 h1491 h1495 h1 h1490 h1494) u1533 u1536
  refine mr_iconst (pc := 39) (z := 1) dX4_spread_39 ?_
  refine mr_istore_n (pc := 40) (lv' := [(1, iv 1), (0, .ref 94)]) dX4_spread_40 rfl (by decide) rfl ?_
  refine mr_iconst (pc := 41) (z := 0) dX4_spread_41 ?_
  refine mr_istore_n (pc := 42) (lv' := [(2, iv 0), (1, iv 1), (0, .ref 94)]) dX4_spread_42 rfl (by decide) rfl ?_
  refine mr_iconst (pc := 43) (z := 1) dX4_spread_43 ?_
  refine mr_istore_n (pc := 44) (lv' := [(3, iv 1), (2, iv 0), (1, iv 1), (0, .ref 94)]) dX4_spread_44 rfl (by decide) rfl ?_
  refine mr_iconst (pc := 45) (z := 0) dX4_spread_45 ?_
  refine mr_istore (pc := 46) (lv' := [(4, iv 0), (3, iv 1), (2, iv 0), (1, iv 1), (0, .ref 94)]) dX4_spread_46 (by decide) rfl ?_
  have L2726 : ∀ (nL2726 : Nat) (z2724 z2723 z2722 z2721 : Int) (μ2725 : mM), mT w μ2725 → mF [101999, 102999, 104999, 105999] w μ1535 μ2725 → (1 ≤ z2724 ∧ z2724 ≤ 46656) → (0 ≤ z2723 ∧ z2723 ≤ 46656) → (1 ≤ z2722 ∧ z2722 ≤ 46656) → (0 ≤ z2721 ∧ z2721 ≤ 46656) → (z2721 ≤ z2724) → (z2723 ≤ z2721) → quC μ2725 bq bf z2724 f_st 0 → (46657 - z2721) < (nL2726 : Int) → sV (gG l D c H0 sa) mX4_spread (sRm 3 0 0) (sZ (gG l D c H0 sa) 0 0 (qI w [101999, 102999, 104999, 105999] μ (fun z μ1 => (1 ≤ z ∧ z ≤ 46656) ∧ True))) 48 [(0, .ref 94), (1, iv z2724), (2, iv z2723), (3, iv z2722), (4, iv z2721)] [] (mk w μ2725) 0 0 := by
    intro nL2726
    induction nL2726 with
    | zero => intro z2724 z2723 z2722 z2721 μ2725 T2731 F2732 h2727 h2728 h2729 h2730 h2734 h2735 R2736 h2737; exact ((vc_X4_spread_12 h2737 h2734 h2735 h2730 h2728 h2727)).elim
    | succ nL2726 ih2738 =>
      intro z2724 z2723 z2722 z2721 μ2725 T2731 F2732 h2727 h2728 h2729 h2730 h2734 h2735 R2736 h2737
      refine mr_iload (pc := 48) (z := z2721) dX4_spread_48 rfl ?_
      have h2739 : z2724 ≤ f_st := quC.pig R2736 (vc_X4_spread_13 hq0 h1491 h1495 h1 h1490 h1494)
      refine mr_iload_n (pc := 50) (z := z2724) dX4_spread_50 rfl rfl ?_
      refine mr_icmp_ge (pc := 51) (tgt := 156) dX4_spread_51 (by decide) (r32 h2730 rfl) (r32 h2727 rfl) (fun h2818 => ?_) (fun h2818 => ?_)
      · have h2819 : 1 ≤ z2721 ∧ z2721 ≤ 46656 := (vc_X4_spread_14 h2818 h2734 h2735 h2739 h1 h2730 h2728 h2727)
        refine mr_iload_n (pc := 156) (z := z2724) dX4_spread_156 rfl rfl ?_
        exact mr_iret dX4_spread_157 rfl (le_t rfl) (le_t rfl) T2731 (mF.call (mF.up (mF.up (mF.up (mF.up mF.refl (A_105 hw) u1527 rfl) (A_105 hw) u1530 rfl) hA_bq u1533 rfl) hA_bf u1536 rfl) F2732 rfl) ⟨h2727, trivial⟩
      have h2820 : 0 ≤ z2721 ∧ z2721 ≤ 46655 := (vc_X4_spread_15 h2818 h2734 h2735 h2739 h1 h2730 h2728 h2727)
      refine mr_iload (pc := 54) (z := z2721) dX4_spread_54 rfl ?_
      refine mr_iload_n (pc := 56) (z := z2722) dX4_spread_56 rfl rfl ?_
      have J2828 : ∀ (z2823 z2825 : Int), ((0 ≤ z2823 ∧ z2823 ≤ 46657)) → ((1 ≤ z2825 ∧ z2825 ≤ 46656)) → (z2823 ≤ z2721 + 1) → sV (gG l D c H0 sa) mX4_spread (sRm 3 0 0) (sZ (gG l D c H0 sa) 0 0 (qI w [101999, 102999, 104999, 105999] μ (fun z μ1 => (1 ≤ z ∧ z ≤ 46656) ∧ True))) 65 [(0, .ref 94), (1, iv z2724), (2, iv z2823), (3, iv z2825), (4, iv z2721)] [] (mk w μ2725) 0 0 := by
        intro z2823 z2825 h2824 h2826 h2827
        refine sv_aload_n (pc := 65) dX4_spread_65 rfl rfl ?_
        refine sv_aload_n (pc := 66) dX4_spread_66 rfl rfl ?_
        refine gk_X4_6 (pc := 67) dX4_spread_67 wF_X4_33 (A_94 hw) (F2732.f (A_94 hw) rfl (u1536.f (Or.inl (mAt.ne hA_bf (A_94 hw) rfl)) (u1533.f (Or.inl (mAt.ne hA_bq (A_94 hw) rfl)) (u1530.f (Or.inl (mAt.ne (A_105 hw) (A_94 hw) rfl)) (u1527.f (Or.inl (mAt.ne (A_105 hw) (A_94 hw) rfl)) q_bq))))) ?_
        refine mr_iload (pc := 70) (z := z2721) dX4_spread_70 rfl ?_
        refine la_102 (pc := 72) dX4_spread_72 hA_bq T2731 (lnC q1489 (vc_X4_spread_16 h1491 h2734 h2735 h2818 h2827 hq0 h1495 h2739 h1 h1490 h1494 h2820 h2728 h2727 h2824)) fun z2829 q2830 h2831 => ?_
        have h2832 : 0 ≤ z2829 ∧ z2829 < f_st := quC.st R2736 (vc_X4_spread_17 h2734 h2735 h2818 h2827 h2739 h1 h2820 h2728 h2727 h2824) (vc_X4_spread_18 h2734 h2735 h2739 h2818 h2827 hq0 h1491 h1495 h1 h1490 h1494 h2820 h2728 h2727 h2824) q2830
        obtain ⟨z2833, q2834⟩ : ∃ z, μ2725 95 ((1 : Int).toNat) = z := ⟨_, rfl⟩
        have h2835 : (0 ≤ z2833 ∧ z2833 ≤ 5) := by rw [← q2834]; exact T2731 95 95 (A_95 hw) ((1 : Int).toNat)
        obtain ⟨z2836, q2837⟩ : ∃ z, μ2725 95 ((2 : Int).toNat) = z := ⟨_, rfl⟩
        have h2838 : (0 ≤ z2836 ∧ z2836 ≤ 5) := by rw [← q2837]; exact T2731 95 95 (A_95 hw) ((2 : Int).toNat)
        obtain ⟨z2839, q2840⟩ : ∃ z, μ2725 95 ((3 : Int).toNat) = z := ⟨_, rfl⟩
        have h2841 : (0 ≤ z2839 ∧ z2839 ≤ 5) := by rw [← q2840]; exact T2731 95 95 (A_95 hw) ((3 : Int).toNat)
        obtain ⟨z2842, q2843⟩ : ∃ z, μ2725 95 ((4 : Int).toNat) = z := ⟨_, rfl⟩
        have h2844 : (0 ≤ z2842 ∧ z2842 ≤ 5) := by rw [← q2843]; exact T2731 95 95 (A_95 hw) ((4 : Int).toNat)
        obtain ⟨z2845, q2846⟩ : ∃ z, μ2725 95 ((5 : Int).toNat) = z := ⟨_, rfl⟩
        have h2847 : (0 ≤ z2845 ∧ z2845 ≤ 5) := by rw [← q2846]; exact T2731 95 95 (A_95 hw) ((5 : Int).toNat)
        obtain ⟨z2848, q2849⟩ : ∃ z, μ2725 95 ((6 : Int).toNat) = z := ⟨_, rfl⟩
        have h2850 : (0 ≤ z2848 ∧ z2848 ≤ 5) := by rw [← q2849]; exact T2731 95 95 (A_95 hw) ((6 : Int).toNat)
        refine mr_cVV (pc := 73) (c_X4_unfold_r hw T2731 h2831 (F2732.f (A_100 hw) rfl (u1536.f (Or.inl (mAt.ne hA_bf (A_100 hw) rfl)) (u1533.f (Or.inl (mAt.ne hA_bq (A_100 hw) rfl)) (u1530.f (Or.inl (mAt.ne (A_105 hw) (A_100 hw) rfl)) (u1527.f (Or.inl (mAt.ne (A_105 hw) (A_100 hw) rfl)) q1497))))) (F2732.f (A_100 hw) rfl (u1536.f (Or.inl (mAt.ne hA_bf (A_100 hw) rfl)) (u1533.f (Or.inl (mAt.ne hA_bq (A_100 hw) rfl)) (u1530.f (Or.inl (mAt.ne (A_105 hw) (A_100 hw) rfl)) (u1527.f (Or.inl (mAt.ne (A_105 hw) (A_100 hw) rfl)) q1502))))) (F2732.f (A_100 hw) rfl (u1536.f (Or.inl (mAt.ne hA_bf (A_100 hw) rfl)) (u1533.f (Or.inl (mAt.ne hA_bq (A_100 hw) rfl)) (u1530.f (Or.inl (mAt.ne (A_105 hw) (A_100 hw) rfl)) (u1527.f (Or.inl (mAt.ne (A_105 hw) (A_100 hw) rfl)) q1507))))) (F2732.f (A_100 hw) rfl (u1536.f (Or.inl (mAt.ne hA_bf (A_100 hw) rfl)) (u1533.f (Or.inl (mAt.ne hA_bq (A_100 hw) rfl)) (u1530.f (Or.inl (mAt.ne (A_105 hw) (A_100 hw) rfl)) (u1527.f (Or.inl (mAt.ne (A_105 hw) (A_100 hw) rfl)) q1512))))) (F2732.f (A_100 hw) rfl (u1536.f (Or.inl (mAt.ne hA_bf (A_100 hw) rfl)) (u1533.f (Or.inl (mAt.ne hA_bq (A_100 hw) rfl)) (u1530.f (Or.inl (mAt.ne (A_105 hw) (A_100 hw) rfl)) (u1527.f (Or.inl (mAt.ne (A_105 hw) (A_100 hw) rfl)) q1517))))) (F2732.f (A_100 hw) rfl (u1536.f (Or.inl (mAt.ne hA_bf (A_100 hw) rfl)) (u1533.f (Or.inl (mAt.ne hA_bq (A_100 hw) rfl)) (u1530.f (Or.inl (mAt.ne (A_105 hw) (A_100 hw) rfl)) (u1527.f (Or.inl (mAt.ne (A_105 hw) (A_100 hw) rfl)) q1522))))) q2834 q2837 q2840 q2843 q2846 q2849 (vc_X12_isRest_7 h1499 h1500) (vc_X12_isRest_7 h1504 h1505) (vc_X12_isRest_7 h1509 h1510) (vc_X12_isRest_7 h1514 h1515) (vc_X12_isRest_7 h1519 h1520) (vc_X12_isRest_7 h1524 h1525)) (gOk _ _ _ _ _) dX4_spread_73 (tX4_unfold _ _ _ _ _) ⟨wV_X4_unfold, wL_X4_unfold⟩ wM_X4_85 (gCX4 _ _ _ _ _) rfl (A_94 hw) rfl ⟨le_t rfl, le_t rfl⟩ ⟨le_t rfl, le_t rfl⟩ rfl (le_t rfl) fun μ2851 T2852 F2853 h2854 => ?_
        refine sv_aload_n (pc := 76) dX4_spread_76 rfl rfl ?_
        refine sv_aload_n (pc := 77) dX4_spread_77 rfl rfl ?_
        refine gk_X4_6 (pc := 78) dX4_spread_78 wF_X4_33 (A_94 hw) (F2853.f (A_94 hw) rfl (F2732.f (A_94 hw) rfl (u1536.f (Or.inl (mAt.ne hA_bf (A_94 hw) rfl)) (u1533.f (Or.inl (mAt.ne hA_bq (A_94 hw) rfl)) (u1530.f (Or.inl (mAt.ne (A_105 hw) (A_94 hw) rfl)) (u1527.f (Or.inl (mAt.ne (A_105 hw) (A_94 hw) rfl)) q_bq)))))) ?_
        refine mr_iload (pc := 81) (z := z2721) dX4_spread_81 rfl ?_
        refine lk_102 (pc := 83) dX4_spread_83 hA_bq (lnC q1489 (vc_X4_spread_25 h1491 h2734 h2735 h2818 h2827 hq0 h1495 h2739 h2832 h1 h1490 h1494 h2820 h2728 h2727 h2824 h2831)) (F2853.f hA_bq rfl q2830) ?_
        have h2855 : 0 ≤ z2829 ∧ z2829 < f_st := quC.st (quC.keep R2736 ((mF.call mF.refl F2853 rfl) : mF [101999] w μ2725 μ2851) hA_bq hA_bf (fun _ => rfl) (fun _ => rfl)) (vc_X4_spread_17 h2734 h2735 h2818 h2827 h2739 h1 h2820 h2728 h2727 h2824) (vc_X4_spread_26 h2734 h2735 h2739 h2818 h2827 hq0 h1491 h1495 h2832 h1 h1490 h1494 h2820 h2728 h2727 h2824 h2831) (F2853.f hA_bq rfl q2830)
        refine mr_iload_n (pc := 84) (z := z2724) dX4_spread_84 rfl rfl ?_
        refine mr_cVI (pc := 85) (c_X4_addNeighbours hw T2852 h2831 h2727 (F2853.f (A_94 hw) rfl (F2732.f (A_94 hw) rfl (u1536.f (Or.inl (mAt.ne hA_bf (A_94 hw) rfl)) (u1533.f (Or.inl (mAt.ne hA_bq (A_94 hw) rfl)) (u1530.f (Or.inl (mAt.ne (A_105 hw) (A_94 hw) rfl)) (u1527.f (Or.inl (mAt.ne (A_105 hw) (A_94 hw) rfl)) q_f_st)))))) (F2853.f (A_94 hw) rfl (F2732.f (A_94 hw) rfl (u1536.f (Or.inl (mAt.ne hA_bf (A_94 hw) rfl)) (u1533.f (Or.inl (mAt.ne hA_bq (A_94 hw) rfl)) (u1530.f (Or.inl (mAt.ne (A_105 hw) (A_94 hw) rfl)) (u1527.f (Or.inl (mAt.ne (A_105 hw) (A_94 hw) rfl)) q_bq)))))) hA_bq (F2853.f (A_94 hw) rfl (F2732.f (A_94 hw) rfl (u1536.f (Or.inl (mAt.ne hA_bf (A_94 hw) rfl)) (u1533.f (Or.inl (mAt.ne hA_bq (A_94 hw) rfl)) (u1530.f (Or.inl (mAt.ne (A_105 hw) (A_94 hw) rfl)) (u1527.f (Or.inl (mAt.ne (A_105 hw) (A_94 hw) rfl)) q_bf)))))) hA_bf (vc_X4_spread_27 hq0 h1491 h1495 h2739 h2832 h2734 h2818 h1 h1490 h1494 h2820 h2727 h2831) (lenGe (F2853.f (A_94 hw) rfl (F2732.f (A_94 hw) rfl (u1536.f (Or.inl (mAt.ne hA_bf (A_94 hw) rfl)) (u1533.f (Or.inl (mAt.ne hA_bq (A_94 hw) rfl)) (u1530.f (Or.inl (mAt.ne (A_105 hw) (A_94 hw) rfl)) (u1527.f (Or.inl (mAt.ne (A_105 hw) (A_94 hw) rfl)) q_f_st)))))) q1489 (vc_X4_spread_28 hq0 h1491 h1495 h2739 h2832 h2734 h2818 h1 h1490 h1494 h2820 h2727 h2831)) (lenGe (F2853.f (A_94 hw) rfl (F2732.f (A_94 hw) rfl (u1536.f (Or.inl (mAt.ne hA_bf (A_94 hw) rfl)) (u1533.f (Or.inl (mAt.ne hA_bq (A_94 hw) rfl)) (u1530.f (Or.inl (mAt.ne (A_105 hw) (A_94 hw) rfl)) (u1527.f (Or.inl (mAt.ne (A_105 hw) (A_94 hw) rfl)) q_f_st)))))) q1493 (vc_X4_spread_29 hq0 h1491 h1495 h2739 h2832 h2734 h2818 h1 h1490 h1494 h2820 h2727 h2831)) (radix.keep hrx ((mF.call (mF.call (mF.up (mF.up (mF.up (mF.up mF.refl (A_105 hw) u1527 rfl) (A_105 hw) u1530 rfl) hA_bq u1533 rfl) hA_bf u1536 rfl) F2732 rfl) F2853 rfl) : mF [101999, 102999, 104999, 105999] w μ μ2851) (A_100 hw) (A_95 hw) (fun _ => rfl) (fun _ => rfl)) h2854.1 (quC.keep R2736 ((mF.call mF.refl F2853 rfl) : mF [101999] w μ2725 μ2851) hA_bq hA_bf (fun _ => rfl) (fun _ => rfl))) (gOk _ _ _ _ _) dX4_spread_85 (tX4_addNeighbours _ _ _ _ _) ⟨wV_X4_addNeighbours, wL_X4_addNeighbours⟩ wM_X4_124 (gCX4 _ _ _ _ _) rfl (A_94 hw) rfl ⟨le_t rfl, le_t rfl⟩ ⟨le_t rfl, le_t rfl⟩ rfl (le_t rfl) fun z2860 μ2856 T2857 F2858 h2859 => ?_
        refine mr_istore_n (pc := 88) (lv' := [(1, iv z2860), (0, .ref 94), (2, iv z2823), (3, iv z2825), (4, iv z2721)]) dX4_spread_88 rfl (by decide) rfl ?_
        refine sv_aload_n (pc := 89) dX4_spread_89 rfl rfl ?_
        refine mr_cVP (pc := 90) (c_X4_isRest hw T2857) (gOk _ _ _ _ _) dX4_spread_90 (tX4_isRest _ _ _ _ _) ⟨wV_X4_isRest, wL_X4_isRest⟩ wM_X4_88 (gCX4 _ _ _ _ _) rfl (A_94 hw) rfl ⟨le_t rfl, le_t rfl⟩ ⟨le_t rfl, le_t rfl⟩ rfl (le_t rfl) fun z2865 h2864 => ?_
        refine mr_if_eq (pc := 93) (tgt := 150) dX4_spread_93 (by decide) (r32 h2864.1 rfl) (fun h2866 => ?_) (fun h2866 => ?_)
        · have h2867 : 0 ≤ z2865 ∧ z2865 ≤ 0 := (vc_X12_ring_22 h2866 h2864.1)
          refine mr_iinc (pc := 150) (lv' := [(4, iv (z2721 + 1)), (1, iv z2860), (0, .ref 94), (2, iv z2823), (3, iv z2825)]) dX4_spread_150 rfl (by decide) rfl ?_
          refine sv_goto (pc := 153) (tgt := 48) dX4_spread_153 (by decide) ?_
          refine mr_lvS (lv' := [(0, .ref 94), (1, iv z2860), (2, iv z2823), (3, iv z2825), (4, iv (z2721 + 1))]) (List.forall_mem_cons.mpr ⟨rfl, List.forall_mem_cons.mpr ⟨rfl, List.forall_mem_cons.mpr ⟨rfl, List.forall_mem_cons.mpr ⟨rfl, List.forall_mem_cons.mpr ⟨rfl, fun _ h => absurd h List.not_mem_nil⟩⟩⟩⟩⟩) ?_
          exact ih2738 z2860 z2823 z2825 (z2721 + 1) μ2856 T2857 (mF.call (mF.call (mF.call mF.refl F2732 rfl) F2853 rfl) F2858 rfl) h2859.1 (vc_X4_spread_31 h2827 h2734 h2735 h2818 h2820 h2728 h2727 h2824) h2826 (rW (c := 0) (d := 46656) (rAdd (e := 1) (f := 46656) h2820 (rR (x := 1)) rfl) rfl) (vc_X4_spread_32 h2734 h2735 h2818 h2827 h2859.2.1 h2739 h1 h2820 h2728 h2727 h2824 h2859.1) (vc_X4_spread_33 h2734 h2735 h2818 h2827 h2739 h2859.2.1 h1 h2820 h2728 h2727 h2824 h2859.1) h2859.2.2.1 (vc_X4_spread_34 (nS h2737) h2734 h2735 h2818 h2827 h2739 h2859.2.1 h1 h2820 h2728 h2727 h2824 h2859.1)
        have h2868 : 1 ≤ z2865 ∧ z2865 ≤ 1 := (vc_X12_ring_24 h2866 h2864.1)
        refine sv_aload_n (pc := 96) dX4_spread_96 rfl rfl ?_
        refine gk_X4_8 (pc := 97) dX4_spread_97 wF_X4_39 (A_94 hw) (F2858.f (A_94 hw) rfl (F2853.f (A_94 hw) rfl (F2732.f (A_94 hw) rfl (u1536.f (Or.inl (mAt.ne hA_bf (A_94 hw) rfl)) (u1533.f (Or.inl (mAt.ne hA_bq (A_94 hw) rfl)) (u1530.f (Or.inl (mAt.ne (A_105 hw) (A_94 hw) rfl)) (u1527.f (Or.inl (mAt.ne (A_105 hw) (A_94 hw) rfl)) q_bf))))))) ?_
        refine sv_aload_n (pc := 100) dX4_spread_100 rfl rfl ?_
        refine gk_X4_6 (pc := 101) dX4_spread_101 wF_X4_33 (A_94 hw) (F2858.f (A_94 hw) rfl (F2853.f (A_94 hw) rfl (F2732.f (A_94 hw) rfl (u1536.f (Or.inl (mAt.ne hA_bf (A_94 hw) rfl)) (u1533.f (Or.inl (mAt.ne hA_bq (A_94 hw) rfl)) (u1530.f (Or.inl (mAt.ne (A_105 hw) (A_94 hw) rfl)) (u1527.f (Or.inl (mAt.ne (A_105 hw) (A_94 hw) rfl)) q_bq))))))) ?_
        refine mr_iload (pc := 104) (z := z2721) dX4_spread_104 rfl ?_
        refine la_102 (pc := 106) dX4_spread_106 hA_bq T2857 (lnC q1489 (vc_X4_spread_36 h1491 h2734 h2735 h2818 h2827 hq0 h1495 h2739 h2832 h2859.2.1 h1 h1490 h1494 h2820 h2728 h2727 h2824 h2831 h2859.1)) fun z2869 q2870 h2871 => ?_
        have h2872 : 0 ≤ z2869 ∧ z2869 < f_st := quC.st h2859.2.2.1 (vc_X4_spread_37 h2734 h2735 h2818 h2827 h2739 h2859.2.1 h1 h2820 h2728 h2727 h2824 h2859.1) (vc_X4_spread_38 h2734 h2735 h2818 h2827 h2859.2.1 h2739 h1 h2820 h2728 h2727 h2824 h2859.1) q2870
        refine sv_dup2 (pc := 107) dX4_spread_107 rfl rfl ?_
        refine la_104 (pc := 108) dX4_spread_108 hA_bf T2857 (lnC q1493 (vc_X4_spread_39 h1495 h2872 hq0 h1491 h2739 h2832 h1 h1490 h1494 h2727 h2831 h2871)) fun z2873 q2874 h2875 => ?_
        refine mr_iconst (pc := 109) (z := 2) dX4_spread_109 ?_
        refine mr_ior (pc := 110) (x := z2873) (y := 2) dX4_spread_110 ?_
        refine mr_gen (P := fun z => (-2147483648) ≤ z ∧ z ≤ 2147483647) (r32i _) fun z2876 q2877 h2878 => ?_
        refine mr_i2b (pc := 111) dX4_spread_111 ?_
        refine mr_gen (P := fun z => (-128) ≤ z ∧ z ≤ 127) (rByte _) fun z2879 q2880 h2881 => ?_
        have B2882 := flag2 (vc_X4_spread_40 h2875) q2877 q2880
        refine ss_104 (pc := 112) dX4_spread_112 hA_bf T2857 (lnC q1493 (vc_X4_spread_39 h1495 h2872 hq0 h1491 h2739 h2832 h1 h1490 h1494 h2727 h2831 h2871)) h2881 fun μ2883 u2884 T2885 => ?_
        have Q2886 := quC.set h2859.2.2.1 (mAt.ne hA_bf hA_bq rfl) u2884 B2882.1
        refine sv_aload_n (pc := 113) dX4_spread_113 rfl rfl ?_
        refine gf_X4_13 (pc := 114) dX4_spread_114 wF_X4_43 (A_94 hw) T2885 ?_
        refine mr_iconst (pc := 117) (z := 1) dX4_spread_117 ?_
        refine sv_dup2 (pc := 118) dX4_spread_118 rfl rfl ?_
        refine la_105 (pc := 119) dX4_spread_119 (A_105 hw) T2885 (rIx (n := 4) (rR (x := 1)) rfl) fun z2887 q2888 h2889 => ?_
        refine mr_iconst (pc := 120) (z := 1) dX4_spread_120 ?_
        refine mr_iadd (pc := 121) (x := z2887) (y := 1) dX4_spread_121 ?_
        refine mr_wrap fun z2890 h2891 => ?_
        refine ss_105 (pc := 122) dX4_spread_122 (A_105 hw) T2885 (rIx (n := 4) (rR (x := 1)) rfl) h2891 fun μ2892 u2893 T2894 => ?_
        refine sv_aload_n (pc := 123) dX4_spread_123 rfl rfl ?_
        refine gf_X4_13 (pc := 124) dX4_spread_124 wF_X4_43 (A_94 hw) T2894 ?_
        refine mr_iconst (pc := 127) (z := 3) dX4_spread_127 ?_
        refine sv_aload_n (pc := 128) dX4_spread_128 rfl rfl ?_
        refine gf_X4_13 (pc := 129) dX4_spread_129 wF_X4_43 (A_94 hw) T2894 ?_
        refine mr_iconst (pc := 132) (z := 3) dX4_spread_132 ?_
        refine la_105 (pc := 133) dX4_spread_133 (A_105 hw) T2894 (rIx (n := 4) (rR (x := 3)) rfl) fun z2895 q2896 h2897 => ?_
        refine mr_ldc (pc := 134) (z := (-99999999)) dX4_spread_134 wG_X4_123 (by decide) ?_
        refine mr_icmp_ne (pc := 136) (tgt := 143) dX4_spread_136 (by decide) h2897 (r32 (rR (x := (-99999999))) rfl) (fun h2899 => ?_) (fun h2899 => ?_)
        · refine sv_aload_n (pc := 143) dX4_spread_143 rfl rfl ?_
          refine gf_X4_13 (pc := 144) dX4_spread_144 wF_X4_43 (A_94 hw) T2894 ?_
          refine mr_iconst (pc := 147) (z := 3) dX4_spread_147 ?_
          refine lk_105 (pc := 148) dX4_spread_148 (A_105 hw) (rIx (n := 4) (rR (x := 3)) rfl) q2896 ?_
          refine ss_105 (pc := 149) dX4_spread_149 (A_105 hw) T2894 (rIx (n := 4) (rR (x := 3)) rfl) h2897 fun μ2900 u2901 T2902 => ?_
          refine mr_iinc (pc := 150) (lv' := [(4, iv (z2721 + 1)), (1, iv z2860), (0, .ref 94), (2, iv z2823), (3, iv z2825)]) dX4_spread_150 rfl (by decide) rfl ?_
          refine sv_goto (pc := 153) (tgt := 48) dX4_spread_153 (by decide) ?_
          refine mr_lvS (lv' := [(0, .ref 94), (1, iv z2860), (2, iv z2823), (3, iv z2825), (4, iv (z2721 + 1))]) (List.forall_mem_cons.mpr ⟨rfl, List.forall_mem_cons.mpr ⟨rfl, List.forall_mem_cons.mpr ⟨rfl, List.forall_mem_cons.mpr ⟨rfl, List.forall_mem_cons.mpr ⟨rfl, fun _ h => absurd h List.not_mem_nil⟩⟩⟩⟩⟩) ?_
          exact ih2738 z2860 z2823 z2825 (z2721 + 1) μ2900 T2902 (mF.up (mF.up (mF.up (mF.call (mF.call (mF.call mF.refl F2732 rfl) F2853 rfl) F2858 rfl) hA_bf u2884 rfl) (A_105 hw) u2893 rfl) (A_105 hw) u2901 rfl) h2859.1 (vc_X4_spread_31 h2827 h2734 h2735 h2818 h2820 h2728 h2727 h2824) h2826 (rW (c := 0) (d := 46656) (rAdd (e := 1) (f := 46656) h2820 (rR (x := 1)) rfl) rfl) (vc_X4_spread_32 h2734 h2735 h2818 h2827 h2859.2.1 h2739 h1 h2820 h2728 h2727 h2824 h2859.1) (vc_X4_spread_33 h2734 h2735 h2818 h2827 h2739 h2859.2.1 h1 h2820 h2728 h2727 h2824 h2859.1) (quC.keep Q2886 ((mF.up (mF.up mF.refl (A_105 hw) u2893 rfl) (A_105 hw) u2901 rfl) : mF [105999] w μ2883 μ2900) hA_bq hA_bf (fun _ => rfl) (fun _ => rfl)) (vc_X4_spread_34 (nS h2737) h2734 h2735 h2818 h2827 h2739 h2859.2.1 h1 h2820 h2728 h2727 h2824 h2859.1)
        have h2903 : (-99999999) ≤ z2895 ∧ z2895 ≤ (-99999999) := (vc_X12_judgedAnew_21 h2899 h2897)
        refine mr_iload_n (pc := 139) (z := z2823) dX4_spread_139 rfl rfl ?_
        refine sv_goto (pc := 140) (tgt := 149) dX4_spread_140 (by decide) ?_
        refine ss_105 (pc := 149) dX4_spread_149 (A_105 hw) T2894 (rIx (n := 4) (rR (x := 3)) rfl) (rW (c := (-2147483648)) (d := 2147483647) h2824 rfl) fun μ2904 u2905 T2906 => ?_
        refine mr_iinc (pc := 150) (lv' := [(4, iv (z2721 + 1)), (1, iv z2860), (0, .ref 94), (2, iv z2823), (3, iv z2825)]) dX4_spread_150 rfl (by decide) rfl ?_
        refine sv_goto (pc := 153) (tgt := 48) dX4_spread_153 (by decide) ?_
        refine mr_lvS (lv' := [(0, .ref 94), (1, iv z2860), (2, iv z2823), (3, iv z2825), (4, iv (z2721 + 1))]) (List.forall_mem_cons.mpr ⟨rfl, List.forall_mem_cons.mpr ⟨rfl, List.forall_mem_cons.mpr ⟨rfl, List.forall_mem_cons.mpr ⟨rfl, List.forall_mem_cons.mpr ⟨rfl, fun _ h => absurd h List.not_mem_nil⟩⟩⟩⟩⟩) ?_
        exact ih2738 z2860 z2823 z2825 (z2721 + 1) μ2904 T2906 (mF.up (mF.up (mF.up (mF.call (mF.call (mF.call mF.refl F2732 rfl) F2853 rfl) F2858 rfl) hA_bf u2884 rfl) (A_105 hw) u2893 rfl) (A_105 hw) u2905 rfl) h2859.1 (vc_X4_spread_31 h2827 h2734 h2735 h2818 h2820 h2728 h2727 h2824) h2826 (rW (c := 0) (d := 46656) (rAdd (e := 1) (f := 46656) h2820 (rR (x := 1)) rfl) rfl) (vc_X4_spread_32 h2734 h2735 h2818 h2827 h2859.2.1 h2739 h1 h2820 h2728 h2727 h2824 h2859.1) (vc_X4_spread_33 h2734 h2735 h2818 h2827 h2739 h2859.2.1 h1 h2820 h2728 h2727 h2824 h2859.1) (quC.keep Q2886 ((mF.up (mF.up mF.refl (A_105 hw) u2893 rfl) (A_105 hw) u2905 rfl) : mF [105999] w μ2883 μ2904) hA_bq hA_bf (fun _ => rfl) (fun _ => rfl)) (vc_X4_spread_34 (nS h2737) h2734 h2735 h2818 h2827 h2739 h2859.2.1 h1 h2820 h2728 h2727 h2824 h2859.1)
      refine mr_icmp_ne (pc := 57) (tgt := 65) dX4_spread_57 (by decide) (r32 h2820 rfl) (r32 h2729 rfl) (fun h2907 => ?_) (fun h2907 => ?_)
      · exact J2828 z2723 z2722 (rW (c := 0) (d := 46657) h2728 rfl) h2729 (vc_X4_spread_43 h2734 h2735 h2818 h2907 h2739 h1 h2820 h2729 h2728 h2727)
      have h2908 : 1 ≤ z2721 ∧ z2721 ≤ 46655 := (vc_X4_spread_44 h2907 h2734 h2735 h2818 h2820 h2729 h2728 h2727)
      have h2909 : 1 ≤ z2722 ∧ z2722 ≤ 46655 := (vc_X4_spread_45 h2907 h2734 h2735 h2818 h2908 h2729 h2728 h2727)
      refine mr_iinc (pc := 60) (lv' := [(2, iv (z2723 + 1)), (0, .ref 94), (1, iv z2724), (3, iv z2722), (4, iv z2721)]) dX4_spread_60 rfl (by decide) rfl ?_
      refine mr_iload_n (pc := 63) (z := z2724) dX4_spread_63 rfl rfl ?_
      refine mr_istore_n (pc := 64) (lv' := [(3, iv z2724), (2, iv (z2723 + 1)), (0, .ref 94), (1, iv z2724), (4, iv z2721)]) dX4_spread_64 rfl (by decide) rfl ?_
      refine mr_lvS (lv' := [(0, .ref 94), (1, iv z2724), (2, iv (z2723 + 1)), (3, iv z2724), (4, iv z2721)]) (List.forall_mem_cons.mpr ⟨rfl, List.forall_mem_cons.mpr ⟨rfl, List.forall_mem_cons.mpr ⟨rfl, List.forall_mem_cons.mpr ⟨rfl, List.forall_mem_cons.mpr ⟨rfl, fun _ h => absurd h List.not_mem_nil⟩⟩⟩⟩⟩) ?_
      exact J2828 (z2723 + 1) z2724 (rW (c := 0) (d := 46657) (rAdd (e := 1) (f := 46657) h2728 (rR (x := 1)) rfl) rfl) h2727 (vc_X4_spread_46 h2734 h2735 h2818 h2907 h2739 h1 h2908 h2909 h2728 h2727)
  refine mr_lvS (lv' := [(0, .ref 94), (1, iv 1), (2, iv 0), (3, iv 1), (4, iv 0)]) (List.forall_mem_cons.mpr ⟨rfl, List.forall_mem_cons.mpr ⟨rfl, List.forall_mem_cons.mpr ⟨rfl, List.forall_mem_cons.mpr ⟨rfl, List.forall_mem_cons.mpr ⟨rfl, fun _ h => absurd h List.not_mem_nil⟩⟩⟩⟩⟩) ?_
  exact L2726 46658 1 0 1 0 μ1535 T1537 mF.refl (rW (c := 1) (d := 46656) (rR (x := 1)) rfl) (rW (c := 0) (d := 46656) (rR (x := 0)) rfl) (rW (c := 1) (d := 46656) (rR (x := 1)) rfl) (rW (c := 0) (d := 46656) (rR (x := 0)) rfl) vc_X12_tries_128 vc_X12_dropMark_20 Q1538 vc_X12_rests_19
end
section
theorem vc_X4_leadBack_8 {f_st n_1852 n_1856 z2918 z2919 : Int} (h0 : (46657 - z2918) < ((0 : Nat) : Int)) (h1 : z2919 ≤ z2918) (h2 : z2918 ≤ f_st) (h3 : 1 ≤ f_st) (h4 : f_st ≤ n_1852) (h5 : f_st ≤ n_1856) (h6 : 1 ≤ f_st ∧ f_st ≤ 46656) (h7 : 0 ≤ n_1852 ∧ n_1852 ≤ 93312) (h8 : 0 ≤ n_1856 ∧ n_1856 ≤ 93312) (h9 : 0 ≤ z2918 ∧ z2918 ≤ 46656) (h10 : 0 ≤ z2919 ∧ z2919 ≤ 46656) : False := by omega
theorem vc_X4_leadBack_9 {f_st n_1852 n_1856 z2918 z2919 : Int} (h0 : f_st ≤ z2918) (h1 : 1 ≤ f_st) (h2 : f_st ≤ n_1852) (h3 : f_st ≤ n_1856) (h4 : z2919 ≤ z2918) (h5 : z2918 ≤ f_st) (h6 : 1 ≤ f_st ∧ f_st ≤ 46656) (h7 : 0 ≤ n_1852 ∧ n_1852 ≤ 93312) (h8 : 0 ≤ n_1856 ∧ n_1856 ≤ 93312) (h9 : 0 ≤ z2918 ∧ z2918 ≤ 46656) (h10 : 0 ≤ z2919 ∧ z2919 ≤ 46656) : 1 ≤ z2918 ∧ z2918 ≤ 46656 := by omega
theorem vc_X4_leadBack_10 {f_st n_1852 n_1856 z2918 z2919 : Int} (h0 : 1 ≤ f_st) (h1 : f_st ≤ n_1852) (h2 : f_st ≤ n_1856) (h3 : z2919 ≤ z2918) (h4 : z2918 ≤ f_st) (h5 : f_st ≤ z2918) (h6 : 1 ≤ f_st ∧ f_st ≤ 46656) (h7 : 0 ≤ n_1852 ∧ n_1852 ≤ 93312) (h8 : 0 ≤ n_1856 ∧ n_1856 ≤ 93312) (h9 : 1 ≤ z2918 ∧ z2918 ≤ 46656) (h10 : 0 ≤ z2919 ∧ z2919 ≤ 46656) : z2918 ≤ f_st := by omega
theorem vc_X4_leadBack_11 {z3391 z3392 : Int} (h0 : (46657 - z3391) < ((0 : Nat) : Int)) (h1 : z3391 ≤ z3392) (h2 : 0 ≤ z3391 ∧ z3391 ≤ 46656) (h3 : 0 ≤ z3392 ∧ z3392 ≤ 46656) : False := by omega
theorem vc_X4_leadBack_12 {f_st n_1852 n_1856 z2918 z2919 : Int} (h0 : 1 ≤ f_st) (h1 : f_st ≤ n_1852) (h2 : f_st ≤ n_1856) (h3 : z2918 ≤ f_st) (h4 : f_st ≤ z2918) (h5 : z2919 ≤ z2918) (h6 : 1 ≤ f_st ∧ f_st ≤ 46656) (h7 : 0 ≤ n_1852 ∧ n_1852 ≤ 93312) (h8 : 0 ≤ n_1856 ∧ n_1856 ≤ 93312) (h9 : 1 ≤ z2918 ∧ z2918 ≤ 46656) (h10 : 0 ≤ z2919 ∧ z2919 ≤ 46656) : 0 ≤ f_st := by omega
theorem vc_X4_leadBack_13 {f_st z3391 z3392 : Int} (h0 : z3391 < z3392) (h1 : z3391 ≤ z3392) (h2 : z3392 ≤ f_st) (h3 : 1 ≤ f_st ∧ f_st ≤ 46656) (h4 : 0 ≤ z3391 ∧ z3391 ≤ 46656) (h5 : 0 ≤ z3392 ∧ z3392 ≤ 46656) : 0 ≤ z3391 ∧ z3391 ≤ 46655 := by omega
theorem vc_X4_leadBack_14 {f_st z3391 z3392 : Int} (h0 : z3391 < z3392) (h1 : z3391 ≤ z3392) (h2 : z3392 ≤ f_st) (h3 : 1 ≤ f_st ∧ f_st ≤ 46656) (h4 : 0 ≤ z3391 ∧ z3391 ≤ 46655) (h5 : 0 ≤ z3392 ∧ z3392 ≤ 46656) : 1 ≤ z3392 ∧ z3392 ≤ 46656 := by omega
theorem vc_X4_leadBack_15 {f_st n_1852 n_1856 z2918 z3391 z3392 : Int} (h0 : f_st ≤ n_1852) (h1 : z3391 ≤ z3392) (h2 : z3391 < z3392) (h3 : 1 ≤ f_st) (h4 : f_st ≤ n_1856) (h5 : z2918 ≤ f_st) (h6 : f_st ≤ z2918) (h7 : z3392 ≤ f_st) (h8 : 1 ≤ f_st ∧ f_st ≤ 46656) (h9 : 0 ≤ n_1852 ∧ n_1852 ≤ 93312) (h10 : 0 ≤ n_1856 ∧ n_1856 ≤ 93312) (h11 : 1 ≤ z2918 ∧ z2918 ≤ 46656) (h12 : 0 ≤ z3391 ∧ z3391 ≤ 46655) (h13 : 1 ≤ z3392 ∧ z3392 ≤ 46656) : 0 ≤ z3391 ∧ z3391 < n_1852 := by omega
theorem vc_X4_leadBack_16 {f_st z3391 z3392 : Int} (h0 : z3391 ≤ z3392) (h1 : z3391 < z3392) (h2 : z3392 ≤ f_st) (h3 : 1 ≤ f_st ∧ f_st ≤ 46656) (h4 : 0 ≤ z3391 ∧ z3391 ≤ 46655) (h5 : 1 ≤ z3392 ∧ z3392 ≤ 46656) : 0 ≤ z3391 := by omega
theorem vc_X4_leadBack_17 {f_st n_1852 n_1856 z2918 z3391 z3392 : Int} (h0 : z3391 ≤ z3392) (h1 : z3392 ≤ f_st) (h2 : z3391 < z3392) (h3 : 1 ≤ f_st) (h4 : f_st ≤ n_1852) (h5 : f_st ≤ n_1856) (h6 : z2918 ≤ f_st) (h7 : f_st ≤ z2918) (h8 : 1 ≤ f_st ∧ f_st ≤ 46656) (h9 : 0 ≤ n_1852 ∧ n_1852 ≤ 93312) (h10 : 0 ≤ n_1856 ∧ n_1856 ≤ 93312) (h11 : 1 ≤ z2918 ∧ z2918 ≤ 46656) (h12 : 0 ≤ z3391 ∧ z3391 ≤ 46655) (h13 : 1 ≤ z3392 ∧ z3392 ≤ 46656) : z3391 < z3392 := by omega
theorem vc_X4_leadBack_24 {f_st n_1852 n_1856 z2918 z3391 z3392 z3441 : Int} (h0 : f_st ≤ n_1852) (h1 : z3391 ≤ z3392) (h2 : z3391 < z3392) (h3 : 1 ≤ f_st) (h4 : f_st ≤ n_1856) (h5 : z2918 ≤ f_st) (h6 : f_st ≤ z2918) (h7 : z3392 ≤ f_st) (h8 : 0 ≤ z3441 ∧ z3441 < f_st) (h9 : 1 ≤ f_st ∧ f_st ≤ 46656) (h10 : 0 ≤ n_1852 ∧ n_1852 ≤ 93312) (h11 : 0 ≤ n_1856 ∧ n_1856 ≤ 93312) (h12 : 1 ≤ z2918 ∧ z2918 ≤ 46656) (h13 : 0 ≤ z3391 ∧ z3391 ≤ 46655) (h14 : 1 ≤ z3392 ∧ z3392 ≤ 46656) (h15 : 0 ≤ z3441 ∧ z3441 ≤ 46655) : 0 ≤ z3391 ∧ z3391 < n_1852 := by omega
theorem vc_X4_leadBack_25 {f_st n_1852 n_1856 z2918 z3391 z3392 z3441 : Int} (h0 : z3391 ≤ z3392) (h1 : z3392 ≤ f_st) (h2 : z3391 < z3392) (h3 : 1 ≤ f_st) (h4 : f_st ≤ n_1852) (h5 : f_st ≤ n_1856) (h6 : z2918 ≤ f_st) (h7 : f_st ≤ z2918) (h8 : 0 ≤ z3441 ∧ z3441 < f_st) (h9 : 1 ≤ f_st ∧ f_st ≤ 46656) (h10 : 0 ≤ n_1852 ∧ n_1852 ≤ 93312) (h11 : 0 ≤ n_1856 ∧ n_1856 ≤ 93312) (h12 : 1 ≤ z2918 ∧ z2918 ≤ 46656) (h13 : 0 ≤ z3391 ∧ z3391 ≤ 46655) (h14 : 1 ≤ z3392 ∧ z3392 ≤ 46656) (h15 : 0 ≤ z3441 ∧ z3441 ≤ 46655) : z3391 < z3392 := by omega
theorem vc_X4_leadBack_26 {f_st n_1852 n_1856 z2918 z2919 z3391 z3392 z3441 : Int} (h0 : 1 ≤ f_st) (h1 : f_st ≤ n_1852) (h2 : f_st ≤ n_1856) (h3 : z2918 ≤ f_st) (h4 : f_st ≤ z2918) (h5 : z3392 ≤ f_st) (h6 : 0 ≤ z3441 ∧ z3441 < f_st) (h7 : z2919 ≤ z2918) (h8 : z3391 ≤ z3392) (h9 : z3391 < z3392) (h10 : 1 ≤ f_st ∧ f_st ≤ 46656) (h11 : 0 ≤ n_1852 ∧ n_1852 ≤ 93312) (h12 : 0 ≤ n_1856 ∧ n_1856 ≤ 93312) (h13 : 1 ≤ z2918 ∧ z2918 ≤ 46656) (h14 : 0 ≤ z2919 ∧ z2919 ≤ 46656) (h15 : 0 ≤ z3391 ∧ z3391 ≤ 46655) (h16 : 1 ≤ z3392 ∧ z3392 ≤ 46656) (h17 : 0 ≤ z3441 ∧ z3441 ≤ 46655) : z3441 < f_st := by omega
theorem vc_X4_leadBack_27 {f_st n_1852 n_1856 z2918 z2919 z3391 z3392 z3441 : Int} (h0 : 1 ≤ f_st) (h1 : f_st ≤ n_1852) (h2 : f_st ≤ n_1856) (h3 : z2918 ≤ f_st) (h4 : f_st ≤ z2918) (h5 : z3392 ≤ f_st) (h6 : 0 ≤ z3441 ∧ z3441 < f_st) (h7 : z2919 ≤ z2918) (h8 : z3391 ≤ z3392) (h9 : z3391 < z3392) (h10 : 1 ≤ f_st ∧ f_st ≤ 46656) (h11 : 0 ≤ n_1852 ∧ n_1852 ≤ 93312) (h12 : 0 ≤ n_1856 ∧ n_1856 ≤ 93312) (h13 : 1 ≤ z2918 ∧ z2918 ≤ 46656) (h14 : 0 ≤ z2919 ∧ z2919 ≤ 46656) (h15 : 0 ≤ z3391 ∧ z3391 ≤ 46655) (h16 : 1 ≤ z3392 ∧ z3392 ≤ 46656) (h17 : 0 ≤ z3441 ∧ z3441 ≤ 46655) : f_st ≤ n_1852 := by omega
theorem vc_X4_leadBack_28 {f_st n_1852 n_1856 z2918 z2919 z3391 z3392 z3441 : Int} (h0 : 1 ≤ f_st) (h1 : f_st ≤ n_1852) (h2 : f_st ≤ n_1856) (h3 : z2918 ≤ f_st) (h4 : f_st ≤ z2918) (h5 : z3392 ≤ f_st) (h6 : 0 ≤ z3441 ∧ z3441 < f_st) (h7 : z2919 ≤ z2918) (h8 : z3391 ≤ z3392) (h9 : z3391 < z3392) (h10 : 1 ≤ f_st ∧ f_st ≤ 46656) (h11 : 0 ≤ n_1852 ∧ n_1852 ≤ 93312) (h12 : 0 ≤ n_1856 ∧ n_1856 ≤ 93312) (h13 : 1 ≤ z2918 ∧ z2918 ≤ 46656) (h14 : 0 ≤ z2919 ∧ z2919 ≤ 46656) (h15 : 0 ≤ z3391 ∧ z3391 ≤ 46655) (h16 : 1 ≤ z3392 ∧ z3392 ≤ 46656) (h17 : 0 ≤ z3441 ∧ z3441 ≤ 46655) : f_st ≤ n_1856 := by omega
theorem vc_X4_leadBack_29 {f_st z3391 z3392 z3472 : Int} (h0 : z3392 ≤ z3472) (h1 : z3391 ≤ z3392) (h2 : z3392 ≤ f_st) (h3 : z3391 < z3392) (h4 : 1 ≤ f_st ∧ f_st ≤ 46656) (h5 : 0 ≤ z3391 ∧ z3391 ≤ 46655) (h6 : 1 ≤ z3392 ∧ z3392 ≤ 46656) (h7 : 0 ≤ z3472 ∧ z3472 ≤ 46656) : 1 ≤ z3472 ∧ z3472 ≤ 46656 := by omega
theorem vc_X4_leadBack_30 {f_st z3391 z3392 z3472 : Int} (h0 : z3391 ≤ z3392) (h1 : z3391 < z3392) (h2 : z3392 ≤ z3472) (h3 : z3392 ≤ f_st) (h4 : 1 ≤ f_st ∧ f_st ≤ 46656) (h5 : 0 ≤ z3391 ∧ z3391 ≤ 46655) (h6 : 1 ≤ z3392 ∧ z3392 ≤ 46656) (h7 : 1 ≤ z3472 ∧ z3472 ≤ 46656) : (z3391 + 1) ≤ z3472 := by omega
theorem vc_X4_leadBack_31 {N f_st z3391 z3392 z3472 : Int} (h0 : (46657 - z3391) < N + 1) (h1 : z3391 ≤ z3392) (h2 : z3391 < z3392) (h3 : z3392 ≤ f_st) (h4 : z3392 ≤ z3472) (h5 : 1 ≤ f_st ∧ f_st ≤ 46656) (h6 : 0 ≤ z3391 ∧ z3391 ≤ 46655) (h7 : 1 ≤ z3392 ∧ z3392 ≤ 46656) (h8 : 1 ≤ z3472 ∧ z3472 ≤ 46656) : (46657 - (z3391 + 1)) < N := by omega
theorem vc_X4_leadBack_32 {f_st z2918 z2919 : Int} (h0 : z2919 ≤ z2918) (h1 : z2918 ≤ f_st) (h2 : f_st ≤ z2918) (h3 : 1 ≤ f_st ∧ f_st ≤ 46656) (h4 : 1 ≤ z2918 ∧ z2918 ≤ 46656) (h5 : 0 ≤ z2919 ∧ z2919 ≤ 46656) : (0 : Int) ≤ z2919 := by omega
theorem vc_X4_leadBack_34 {f_st n_1852 n_1856 z2918 z2919 : Int} (h0 : z2918 < f_st) (h1 : 1 ≤ f_st) (h2 : f_st ≤ n_1852) (h3 : f_st ≤ n_1856) (h4 : z2919 ≤ z2918) (h5 : z2918 ≤ f_st) (h6 : 1 ≤ f_st ∧ f_st ≤ 46656) (h7 : 0 ≤ n_1852 ∧ n_1852 ≤ 93312) (h8 : 0 ≤ n_1856 ∧ n_1856 ≤ 93312) (h9 : 0 ≤ z2918 ∧ z2918 ≤ 46656) (h10 : 0 ≤ z2919 ∧ z2919 ≤ 46656) : 0 ≤ z2918 ∧ z2918 ≤ 46655 := by omega
theorem vc_X4_leadBack_35 {f_st n_1852 n_1856 z2918 z2919 : Int} (h0 : f_st ≤ n_1856) (h1 : z2919 ≤ z2918) (h2 : z2918 ≤ f_st) (h3 : z2918 < f_st) (h4 : 1 ≤ f_st) (h5 : f_st ≤ n_1852) (h6 : 1 ≤ f_st ∧ f_st ≤ 46656) (h7 : 0 ≤ n_1852 ∧ n_1852 ≤ 93312) (h8 : 0 ≤ n_1856 ∧ n_1856 ≤ 93312) (h9 : 0 ≤ z2918 ∧ z2918 ≤ 46655) (h10 : 0 ≤ z2919 ∧ z2919 ≤ 46656) : 0 ≤ z2918 ∧ z2918 < n_1856 := by omega
theorem vc_X4_leadBack_37 {f_st n_1852 n_1856 z2918 z2919 : Int} (h0 : z2919 ≤ z2918) (h1 : z2918 ≤ f_st) (h2 : z2918 < f_st) (h3 : 1 ≤ f_st) (h4 : f_st ≤ n_1852) (h5 : f_st ≤ n_1856) (h6 : 1 ≤ f_st ∧ f_st ≤ 46656) (h7 : 0 ≤ n_1852 ∧ n_1852 ≤ 93312) (h8 : 0 ≤ n_1856 ∧ n_1856 ≤ 93312) (h9 : 0 ≤ z2918 ∧ z2918 ≤ 46655) (h10 : 0 ≤ z2919 ∧ z2919 ≤ 46656) : z2919 ≤ (z2918 + 1) := by omega
theorem vc_X4_leadBack_38 {f_st n_1852 n_1856 z2918 z2919 : Int} (h0 : 1 ≤ f_st) (h1 : f_st ≤ n_1852) (h2 : f_st ≤ n_1856) (h3 : z2919 ≤ z2918) (h4 : z2918 ≤ f_st) (h5 : z2918 < f_st) (h6 : 1 ≤ f_st ∧ f_st ≤ 46656) (h7 : 0 ≤ n_1852 ∧ n_1852 ≤ 93312) (h8 : 0 ≤ n_1856 ∧ n_1856 ≤ 93312) (h9 : 0 ≤ z2918 ∧ z2918 ≤ 46655) (h10 : 0 ≤ z2919 ∧ z2919 ≤ 46656) : (z2918 + 1) ≤ f_st := by omega
theorem vc_X4_leadBack_39 {N f_st n_1852 n_1856 z2918 z2919 : Int} (h0 : (46657 - z2918) < N + 1) (h1 : z2919 ≤ z2918) (h2 : z2918 ≤ f_st) (h3 : z2918 < f_st) (h4 : 1 ≤ f_st) (h5 : f_st ≤ n_1852) (h6 : f_st ≤ n_1856) (h7 : 1 ≤ f_st ∧ f_st ≤ 46656) (h8 : 0 ≤ n_1852 ∧ n_1852 ≤ 93312) (h9 : 0 ≤ n_1856 ∧ n_1856 ≤ 93312) (h10 : 0 ≤ z2918 ∧ z2918 ≤ 46655) (h11 : 0 ≤ z2919 ∧ z2919 ≤ 46656) : (46657 - (z2918 + 1)) < N := by omega
theorem vc_X4_leadBack_40 {f_st n_1852 n_1856 z2918 z2919 : Int} (h0 : z2919 ≤ z2918) (h1 : z2918 ≤ f_st) (h2 : z2918 < f_st) (h3 : 1 ≤ f_st) (h4 : f_st ≤ n_1852) (h5 : f_st ≤ n_1856) (h6 : 1 ≤ f_st ∧ f_st ≤ 46656) (h7 : 0 ≤ n_1852 ∧ n_1852 ≤ 93312) (h8 : 0 ≤ n_1856 ∧ n_1856 ≤ 93312) (h9 : 0 ≤ z2918 ∧ z2918 ≤ 46655) (h10 : 0 ≤ z2919 ∧ z2919 ≤ 46656) : z2918 ≤ z2918 + 1 := by omega
theorem vc_X4_leadBack_42 {z3478 : Int} (h0 : ¬ z3478 = 0) (h1 : 1 ≤ z3478 ∧ z3478 ≤ 2) : ¬ z3478 = 0 := by omega
theorem vc_X4_leadBack_43 {f_st n_1852 n_1856 z2918 z2919 : Int} (h0 : f_st ≤ n_1852) (h1 : z2919 ≤ z2918) (h2 : 1 ≤ f_st) (h3 : f_st ≤ n_1856) (h4 : z2918 ≤ f_st) (h5 : z2918 < f_st) (h6 : 1 ≤ f_st ∧ f_st ≤ 46656) (h7 : 0 ≤ n_1852 ∧ n_1852 ≤ 93312) (h8 : 0 ≤ n_1856 ∧ n_1856 ≤ 93312) (h9 : 0 ≤ z2918 ∧ z2918 ≤ 46655) (h10 : 0 ≤ z2919 ∧ z2919 ≤ 46656) : 0 ≤ z2919 ∧ z2919 < n_1852 := by omega
theorem vc_X4_leadBack_44 {f_st z2918 z2919 : Int} (h0 : z2919 ≤ z2918) (h1 : z2918 ≤ f_st) (h2 : z2918 < f_st) (h3 : 1 ≤ f_st ∧ f_st ≤ 46656) (h4 : 0 ≤ z2918 ∧ z2918 ≤ 46655) (h5 : 0 ≤ z2919 ∧ z2919 ≤ 46656) : 0 ≤ z2919 := by omega
theorem vc_X4_leadBack_45 {f_st n_1852 n_1856 z2918 z2919 : Int} (h0 : z2919 ≤ z2918) (h1 : z2918 ≤ f_st) (h2 : z2918 < f_st) (h3 : 1 ≤ f_st) (h4 : f_st ≤ n_1852) (h5 : f_st ≤ n_1856) (h6 : 1 ≤ f_st ∧ f_st ≤ 46656) (h7 : 0 ≤ n_1852 ∧ n_1852 ≤ 93312) (h8 : 0 ≤ n_1856 ∧ n_1856 ≤ 93312) (h9 : 0 ≤ z2918 ∧ z2918 ≤ 46655) (h10 : 0 ≤ z2919 ∧ z2919 ≤ 46656) : 0 ≤ z2918 := by omega
theorem vc_X4_leadBack_46 {f_st z2918 z2919 : Int} (h0 : z2919 ≤ z2918) (h1 : z2918 ≤ f_st) (h2 : z2918 < f_st) (h3 : 1 ≤ f_st ∧ f_st ≤ 46656) (h4 : 0 ≤ z2918 ∧ z2918 ≤ 46655) (h5 : 0 ≤ z2919 ∧ z2919 ≤ 46656) : 0 ≤ (z2919 + 1) ∧ (z2919 + 1) ≤ 46656 := by omega
theorem vc_X4_leadBack_47 {f_st n_1852 n_1856 z2918 z2919 : Int} (h0 : z2919 ≤ z2918) (h1 : z2918 ≤ f_st) (h2 : z2918 < f_st) (h3 : 1 ≤ f_st) (h4 : f_st ≤ n_1852) (h5 : f_st ≤ n_1856) (h6 : 1 ≤ f_st ∧ f_st ≤ 46656) (h7 : 0 ≤ n_1852 ∧ n_1852 ≤ 93312) (h8 : 0 ≤ n_1856 ∧ n_1856 ≤ 93312) (h9 : 0 ≤ z2918 ∧ z2918 ≤ 46655) (h10 : 0 ≤ z2919 ∧ z2919 ≤ 46656) : (z2919 + 1) ≤ (z2918 + 1) := by omega
theorem vc_X4_leadBack_49 {f_st n_1852 n_1856 : Int} (h0 : 1 ≤ f_st) (h1 : f_st ≤ n_1852) (h2 : f_st ≤ n_1856) (h3 : 1 ≤ f_st ∧ f_st ≤ 46656) (h4 : 0 ≤ n_1852 ∧ n_1852 ≤ 93312) (h5 : 0 ≤ n_1856 ∧ n_1856 ≤ 93312) : (0 : Int) ≤ f_st := by omega
set_option maxRecDepth 4000 in
set_option maxHeartbeats 4000000 in
theorem c_X4_leadBack {l : Launch} {D : va_G} {c : Nat → ClassId} {H0 : Heap} {sa : Nat × Nat × (Nat → Int32)} {w : mW} {μ : mM} (hw : mWF w) (hT : mT w μ) {f_st : Int} (q_f_st : μ 94 9 = f_st) {bq : Nat} (q_bq : μ 94 6 = (bq : Int)) (hA_bq : mAt w bq 102) {bf : Nat} (q_bf : μ 94 8 = (bf : Int)) (hA_bf : mAt w bf 104) (hq0 : 1 ≤ f_st) (hlq : μ 94 9 ≤ (w.2.2.1 bq : Int)) (hlf : μ 94 9 ≤ (w.2.2.1 bf : Int)) (hrx : radix μ 100 95 f_st) : sC (gG l D c H0 sa) mX4_leadBack 3 0 0 [.ref 94] (mk w μ) (qI w [101999, 102999, 104999] μ (fun z μ1 => (0 ≤ z ∧ z ≤ 46656) ∧ True)) := by
  refine sC.of rfl (by decide) (le_t rfl) ?_
  have ht_f_st : (0 ≤ f_st ∧ f_st ≤ 46656) := by rw [← q_f_st]; exact hT 94 94 (A_94 hw) 9
  have h1 : 1 ≤ f_st ∧ f_st ≤ 46656 := (vc_X12_open_1 hq0 ht_f_st)
  refine mr_lvE (lv' := [(0, .ref 94)]) rfl ?_
  obtain ⟨n_1852, q1853⟩ : ∃ n : Int, (w.2.2.1 bq : Int) = n := ⟨_, rfl⟩
  have h1854 : 0 ≤ n_1852 ∧ n_1852 ≤ 93312 := lnR (m := 93312) q1853 hA_bq rfl
  have h1855 : f_st ≤ n_1852 := lenLe hlq q_f_st q1853
  obtain ⟨n_1856, q1857⟩ : ∃ n : Int, (w.2.2.1 bf : Int) = n := ⟨_, rfl⟩
  have h1858 : 0 ≤ n_1856 ∧ n_1856 ≤ 93312 := lnR (m := 93312) q1857 hA_bf rfl
  have h1859 : f_st ≤ n_1856 := lenLe hlf q_f_st q1857
  obtain ⟨z1860, q1861⟩ : ∃ z, μ 100 ((1 : Int).toNat) = z := ⟨_, rfl⟩
  have h1862 : (0 ≤ z1860 ∧ z1860 ≤ 46656) := by rw [← q1861]; exact hT 100 100 (A_100 hw) ((1 : Int).toNat)
  have h1863 : 1 ≤ z1860 := by have h : 0 < μ 100 ((1 : Int).toNat) := hrx.1.1; rw [q1861] at h; omega
  have h1864 : 1 ≤ z1860 ∧ z1860 ≤ 46656 := (vc_X12_open_1 h1863 h1862)
  obtain ⟨z1865, q1866⟩ : ∃ z, μ 100 ((2 : Int).toNat) = z := ⟨_, rfl⟩
  have h1867 : (0 ≤ z1865 ∧ z1865 ≤ 46656) := by rw [← q1866]; exact hT 100 100 (A_100 hw) ((2 : Int).toNat)
  have h1868 : 1 ≤ z1865 := by have h : 0 < μ 100 ((2 : Int).toNat) := hrx.2.1.1; rw [q1866] at h; omega
  have h1869 : 1 ≤ z1865 ∧ z1865 ≤ 46656 := (vc_X12_open_1 h1868 h1867)
  obtain ⟨z1870, q1871⟩ : ∃ z, μ 100 ((3 : Int).toNat) = z := ⟨_, rfl⟩
  have h1872 : (0 ≤ z1870 ∧ z1870 ≤ 46656) := by rw [← q1871]; exact hT 100 100 (A_100 hw) ((3 : Int).toNat)
  have h1873 : 1 ≤ z1870 := by have h : 0 < μ 100 ((3 : Int).toNat) := hrx.2.2.1.1; rw [q1871] at h; omega
  have h1874 : 1 ≤ z1870 ∧ z1870 ≤ 46656 := (vc_X12_open_1 h1873 h1872)
  obtain ⟨z1875, q1876⟩ : ∃ z, μ 100 ((4 : Int).toNat) = z := ⟨_, rfl⟩
  have h1877 : (0 ≤ z1875 ∧ z1875 ≤ 46656) := by rw [← q1876]; exact hT 100 100 (A_100 hw) ((4 : Int).toNat)
  have h1878 : 1 ≤ z1875 := by have h : 0 < μ 100 ((4 : Int).toNat) := hrx.2.2.2.1.1; rw [q1876] at h; omega
  have h1879 : 1 ≤ z1875 ∧ z1875 ≤ 46656 := (vc_X12_open_1 h1878 h1877)
  obtain ⟨z1880, q1881⟩ : ∃ z, μ 100 ((5 : Int).toNat) = z := ⟨_, rfl⟩
  have h1882 : (0 ≤ z1880 ∧ z1880 ≤ 46656) := by rw [← q1881]; exact hT 100 100 (A_100 hw) ((5 : Int).toNat)
  have h1883 : 1 ≤ z1880 := by have h : 0 < μ 100 ((5 : Int).toNat) := hrx.2.2.2.2.1.1; rw [q1881] at h; omega
  have h1884 : 1 ≤ z1880 ∧ z1880 ≤ 46656 := (vc_X12_open_1 h1883 h1882)
  obtain ⟨z1885, q1886⟩ : ∃ z, μ 100 ((6 : Int).toNat) = z := ⟨_, rfl⟩
  have h1887 : (0 ≤ z1885 ∧ z1885 ≤ 46656) := by rw [← q1886]; exact hT 100 100 (A_100 hw) ((6 : Int).toNat)
  have h1888 : 1 ≤ z1885 := by have h : 0 < μ 100 ((6 : Int).toNat) := hrx.2.2.2.2.2.1; rw [q1886] at h; omega
  have h1889 : 1 ≤ z1885 ∧ z1885 ≤ 46656 := (vc_X12_open_1 h1888 h1887)
  refine mr_iconst (pc := 0) (z := 0) dX4_leadBack_0 ?_
  refine mr_istore_n (pc := 1) (lv' := [(1, iv 0), (0, .ref 94)]) dX4_leadBack_1 rfl (by decide) rfl ?_
  refine mr_iconst (pc := 2) (z := 0) dX4_leadBack_2 ?_
  refine mr_istore_n (pc := 3) (lv' := [(2, iv 0), (1, iv 0), (0, .ref 94)]) dX4_leadBack_3 rfl (by decide) rfl ?_
  have L2921 : ∀ (nL2921 : Nat) (z2919 z2918 : Int) (μ2920 : mM), mT w μ2920 → mF [102999] w μ μ2920 → (0 ≤ z2919 ∧ z2919 ≤ 46656) → (0 ≤ z2918 ∧ z2918 ≤ 46656) → (z2919 ≤ z2918) → (z2918 ≤ f_st) → quC μ2920 bq bf z2919 z2918 1 → (46657 - z2918) < (nL2921 : Int) → sV (gG l D c H0 sa) mX4_leadBack (sRm 3 0 0) (sZ (gG l D c H0 sa) 0 0 (qI w [101999, 102999, 104999] μ (fun z μ1 => (0 ≤ z ∧ z ≤ 46656) ∧ True))) 4 [(0, .ref 94), (1, iv z2919), (2, iv z2918)] [] (mk w μ2920) 0 0 := by
    intro nL2921
    induction nL2921 with
    | zero => intro z2919 z2918 μ2920 T2924 F2925 h2922 h2923 h2927 h2928 R2929 h2930; exact ((vc_X4_leadBack_8 h2930 h2927 h2928 hq0 h1855 h1859 h1 h1854 h1858 h2923 h2922)).elim
    | succ nL2921 ih2931 =>
      intro z2919 z2918 μ2920 T2924 F2925 h2922 h2923 h2927 h2928 R2929 h2930
      refine mr_iload_n (pc := 4) (z := z2918) dX4_leadBack_4 rfl rfl ?_
      refine sv_aload_n (pc := 5) dX4_leadBack_5 rfl rfl ?_
      refine gk_X4_9 (pc := 6) dX4_leadBack_6 wF_X4_59 (A_94 hw) (F2925.f (A_94 hw) rfl q_f_st) ?_
      refine mr_icmp_ge (pc := 9) (tgt := 39) dX4_leadBack_9 (by decide) (r32 h2923 rfl) (r32 h1 rfl) (fun h2945 => ?_) (fun h2945 => ?_)
      · have h2946 : 1 ≤ z2918 ∧ z2918 ≤ 46656 := (vc_X4_leadBack_9 h2945 hq0 h1855 h1859 h2927 h2928 h1 h1854 h1858 h2923 h2922)
        refine mr_iconst (pc := 39) (z := 0) dX4_leadBack_39 ?_
        refine mr_istore_n (pc := 40) (lv' := [(2, iv 0), (0, .ref 94), (1, iv z2919)]) dX4_leadBack_40 rfl (by decide) rfl ?_
        have L3394 : ∀ (nL3394 : Nat) (z3392 z3391 : Int) (μ3393 : mM), mT w μ3393 → mF [101999, 102999, 104999] w μ2920 μ3393 → (0 ≤ z3392 ∧ z3392 ≤ 46656) → (0 ≤ z3391 ∧ z3391 ≤ 46656) → (z3391 ≤ z3392) → quC μ3393 bq bf z3392 f_st 1 → (46657 - z3391) < (nL3394 : Int) → sV (gG l D c H0 sa) mX4_leadBack (sRm 3 0 0) (sZ (gG l D c H0 sa) 0 0 (qI w [101999, 102999, 104999] μ (fun z μ1 => (0 ≤ z ∧ z ≤ 46656) ∧ True))) 41 [(0, .ref 94), (1, iv z3392), (2, iv z3391)] [] (mk w μ3393) 0 0 := by
          intro nL3394
          induction nL3394 with
          | zero => intro z3392 z3391 μ3393 T3397 F3398 h3395 h3396 h3400 R3401 h3402; exact ((vc_X4_leadBack_11 h3402 h3400 h3396 h3395)).elim
          | succ nL3394 ih3403 =>
            intro z3392 z3391 μ3393 T3397 F3398 h3395 h3396 h3400 R3401 h3402
            refine mr_iload_n (pc := 41) (z := z3391) dX4_leadBack_41 rfl rfl ?_
            have h3404 : z3392 ≤ f_st := quC.pig R3401 (vc_X4_leadBack_12 hq0 h1855 h1859 h2928 h2945 h2927 h1 h1854 h1858 h2946 h2922)
            refine mr_iload_n (pc := 42) (z := z3392) dX4_leadBack_42 rfl rfl ?_
            refine mr_icmp_ge (pc := 43) (tgt := 74) dX4_leadBack_43 (by decide) (r32 h3396 rfl) (r32 h3395 rfl) (fun h3438 => ?_) (fun h3438 => ?_)
            · refine mr_iload_n (pc := 74) (z := z3392) dX4_leadBack_74 rfl rfl ?_
              exact mr_iret dX4_leadBack_75 rfl (le_t rfl) (le_t rfl) T3397 (mF.call (mF.call mF.refl F2925 rfl) F3398 rfl) ⟨h3395, trivial⟩
            have h3439 : 0 ≤ z3391 ∧ z3391 ≤ 46655 := (vc_X4_leadBack_13 h3438 h3400 h3404 h1 h3396 h3395)
            have h3440 : 1 ≤ z3392 ∧ z3392 ≤ 46656 := (vc_X4_leadBack_14 h3438 h3400 h3404 h1 h3439 h3395)
            refine sv_aload_n (pc := 46) dX4_leadBack_46 rfl rfl ?_
            refine sv_aload_n (pc := 47) dX4_leadBack_47 rfl rfl ?_
            refine gk_X4_6 (pc := 48) dX4_leadBack_48 wF_X4_33 (A_94 hw) (F3398.f (A_94 hw) rfl (F2925.f (A_94 hw) rfl q_bq)) ?_
            refine mr_iload_n (pc := 51) (z := z3391) dX4_leadBack_51 rfl rfl ?_
            refine la_102 (pc := 52) dX4_leadBack_52 hA_bq T3397 (lnC q1853 (vc_X4_leadBack_15 h1855 h3400 h3438 hq0 h1859 h2928 h2945 h3404 h1 h1854 h1858 h2946 h3439 h3440)) fun z3441 q3442 h3443 => ?_
            have h3444 : 0 ≤ z3441 ∧ z3441 < f_st := quC.st R3401 (vc_X4_leadBack_16 h3400 h3438 h3404 h1 h3439 h3440) (vc_X4_leadBack_17 h3400 h3404 h3438 hq0 h1855 h1859 h2928 h2945 h1 h1854 h1858 h2946 h3439 h3440) q3442
            obtain ⟨z3445, q3446⟩ : ∃ z, μ3393 95 ((1 : Int).toNat) = z := ⟨_, rfl⟩
            have h3447 : (0 ≤ z3445 ∧ z3445 ≤ 5) := by rw [← q3446]; exact T3397 95 95 (A_95 hw) ((1 : Int).toNat)
            obtain ⟨z3448, q3449⟩ : ∃ z, μ3393 95 ((2 : Int).toNat) = z := ⟨_, rfl⟩
            have h3450 : (0 ≤ z3448 ∧ z3448 ≤ 5) := by rw [← q3449]; exact T3397 95 95 (A_95 hw) ((2 : Int).toNat)
            obtain ⟨z3451, q3452⟩ : ∃ z, μ3393 95 ((3 : Int).toNat) = z := ⟨_, rfl⟩
            have h3453 : (0 ≤ z3451 ∧ z3451 ≤ 5) := by rw [← q3452]; exact T3397 95 95 (A_95 hw) ((3 : Int).toNat)
            obtain ⟨z3454, q3455⟩ : ∃ z, μ3393 95 ((4 : Int).toNat) = z := ⟨_, rfl⟩
            have h3456 : (0 ≤ z3454 ∧ z3454 ≤ 5) := by rw [← q3455]; exact T3397 95 95 (A_95 hw) ((4 : Int).toNat)
            obtain ⟨z3457, q3458⟩ : ∃ z, μ3393 95 ((5 : Int).toNat) = z := ⟨_, rfl⟩
            have h3459 : (0 ≤ z3457 ∧ z3457 ≤ 5) := by rw [← q3458]; exact T3397 95 95 (A_95 hw) ((5 : Int).toNat)
            obtain ⟨z3460, q3461⟩ : ∃ z, μ3393 95 ((6 : Int).toNat) = z := ⟨_, rfl⟩
            have h3462 : (0 ≤ z3460 ∧ z3460 ≤ 5) := by rw [← q3461]; exact T3397 95 95 (A_95 hw) ((6 : Int).toNat)
            refine mr_cVV (pc := 53) (c_X4_unfold_r hw T3397 h3443 (F3398.f (A_100 hw) rfl (F2925.f (A_100 hw) rfl q1861)) (F3398.f (A_100 hw) rfl (F2925.f (A_100 hw) rfl q1866)) (F3398.f (A_100 hw) rfl (F2925.f (A_100 hw) rfl q1871)) (F3398.f (A_100 hw) rfl (F2925.f (A_100 hw) rfl q1876)) (F3398.f (A_100 hw) rfl (F2925.f (A_100 hw) rfl q1881)) (F3398.f (A_100 hw) rfl (F2925.f (A_100 hw) rfl q1886)) q3446 q3449 q3452 q3455 q3458 q3461 (vc_X12_isRest_7 h1863 h1864) (vc_X12_isRest_7 h1868 h1869) (vc_X12_isRest_7 h1873 h1874) (vc_X12_isRest_7 h1878 h1879) (vc_X12_isRest_7 h1883 h1884) (vc_X12_isRest_7 h1888 h1889)) (gOk _ _ _ _ _) dX4_leadBack_53 (tX4_unfold _ _ _ _ _) ⟨wV_X4_unfold, wL_X4_unfold⟩ wM_X4_85 (gCX4 _ _ _ _ _) rfl (A_94 hw) rfl ⟨le_t rfl, le_t rfl⟩ ⟨le_t rfl, le_t rfl⟩ rfl (le_t rfl) fun μ3463 T3464 F3465 h3466 => ?_
            refine sv_aload_n (pc := 56) dX4_leadBack_56 rfl rfl ?_
            refine sv_aload_n (pc := 57) dX4_leadBack_57 rfl rfl ?_
            refine gk_X4_6 (pc := 58) dX4_leadBack_58 wF_X4_33 (A_94 hw) (F3465.f (A_94 hw) rfl (F3398.f (A_94 hw) rfl (F2925.f (A_94 hw) rfl q_bq))) ?_
            refine mr_iload_n (pc := 61) (z := z3391) dX4_leadBack_61 rfl rfl ?_
            refine lk_102 (pc := 62) dX4_leadBack_62 hA_bq (lnC q1853 (vc_X4_leadBack_24 h1855 h3400 h3438 hq0 h1859 h2928 h2945 h3404 h3444 h1 h1854 h1858 h2946 h3439 h3440 h3443)) (F3465.f hA_bq rfl q3442) ?_
            have h3467 : 0 ≤ z3441 ∧ z3441 < f_st := quC.st (quC.keep R3401 ((mF.call mF.refl F3465 rfl) : mF [101999] w μ3393 μ3463) hA_bq hA_bf (fun _ => rfl) (fun _ => rfl)) (vc_X4_leadBack_16 h3400 h3438 h3404 h1 h3439 h3440) (vc_X4_leadBack_25 h3400 h3404 h3438 hq0 h1855 h1859 h2928 h2945 h3444 h1 h1854 h1858 h2946 h3439 h3440 h3443) (F3465.f hA_bq rfl q3442)
            refine mr_iload_n (pc := 63) (z := z3392) dX4_leadBack_63 rfl rfl ?_
            refine mr_cVI (pc := 64) (c_X4_addSources hw T3464 h3443 (rW (c := 0) (d := 46656) h3440 rfl) (F3465.f (A_94 hw) rfl (F3398.f (A_94 hw) rfl (F2925.f (A_94 hw) rfl q_f_st))) (F3465.f (A_94 hw) rfl (F3398.f (A_94 hw) rfl (F2925.f (A_94 hw) rfl q_bq))) hA_bq (F3465.f (A_94 hw) rfl (F3398.f (A_94 hw) rfl (F2925.f (A_94 hw) rfl q_bf))) hA_bf (vc_X4_leadBack_26 hq0 h1855 h1859 h2928 h2945 h3404 h3444 h2927 h3400 h3438 h1 h1854 h1858 h2946 h2922 h3439 h3440 h3443) (lenGe (F3465.f (A_94 hw) rfl (F3398.f (A_94 hw) rfl (F2925.f (A_94 hw) rfl q_f_st))) q1853 (vc_X4_leadBack_27 hq0 h1855 h1859 h2928 h2945 h3404 h3444 h2927 h3400 h3438 h1 h1854 h1858 h2946 h2922 h3439 h3440 h3443)) (lenGe (F3465.f (A_94 hw) rfl (F3398.f (A_94 hw) rfl (F2925.f (A_94 hw) rfl q_f_st))) q1857 (vc_X4_leadBack_28 hq0 h1855 h1859 h2928 h2945 h3404 h3444 h2927 h3400 h3438 h1 h1854 h1858 h2946 h2922 h3439 h3440 h3443)) (radix.keep hrx ((mF.call (mF.call (mF.call mF.refl F2925 rfl) F3398 rfl) F3465 rfl) : mF [101999, 102999, 104999] w μ μ3463) (A_100 hw) (A_95 hw) (fun _ => rfl) (fun _ => rfl)) h3466.1 (quC.keep R3401 ((mF.call mF.refl F3465 rfl) : mF [101999] w μ3393 μ3463) hA_bq hA_bf (fun _ => rfl) (fun _ => rfl))) (gOk _ _ _ _ _) dX4_leadBack_64 (tX4_addSources _ _ _ _ _) ⟨wV_X4_addSources, wL_X4_addSources⟩ wM_X4_127 (gCX4 _ _ _ _ _) rfl (A_94 hw) rfl ⟨le_t rfl, le_t rfl⟩ ⟨le_t rfl, le_t rfl⟩ rfl (le_t rfl) fun z3472 μ3468 T3469 F3470 h3471 => ?_
            have h3473 : 1 ≤ z3472 ∧ z3472 ≤ 46656 := (vc_X4_leadBack_29 h3471.2.1 h3400 h3404 h3438 h1 h3439 h3440 h3471.1)
            refine mr_istore_n (pc := 67) (lv' := [(1, iv z3472), (0, .ref 94), (2, iv z3391)]) dX4_leadBack_67 rfl (by decide) rfl ?_
            refine mr_iinc (pc := 68) (lv' := [(2, iv (z3391 + 1)), (1, iv z3472), (0, .ref 94)]) dX4_leadBack_68 rfl (by decide) rfl ?_
            refine sv_goto (pc := 71) (tgt := 41) dX4_leadBack_71 (by decide) ?_
            refine mr_lvS (lv' := [(0, .ref 94), (1, iv z3472), (2, iv (z3391 + 1))]) (List.forall_mem_cons.mpr ⟨rfl, List.forall_mem_cons.mpr ⟨rfl, List.forall_mem_cons.mpr ⟨rfl, fun _ h => absurd h List.not_mem_nil⟩⟩⟩) ?_
            exact ih3403 z3472 (z3391 + 1) μ3468 T3469 (mF.call (mF.call (mF.call mF.refl F3398 rfl) F3465 rfl) F3470 rfl) (rW (c := 0) (d := 46656) h3473 rfl) (rW (c := 0) (d := 46656) (rAdd (e := 1) (f := 46656) h3439 (rR (x := 1)) rfl) rfl) (vc_X4_leadBack_30 h3400 h3438 h3471.2.1 h3404 h1 h3439 h3440 h3473) h3471.2.2.1 (vc_X4_leadBack_31 (nS h3402) h3400 h3438 h3404 h3471.2.1 h1 h3439 h3440 h3473)
        refine mr_lvS (lv' := [(0, .ref 94), (1, iv z2919), (2, iv 0)]) (List.forall_mem_cons.mpr ⟨rfl, List.forall_mem_cons.mpr ⟨rfl, List.forall_mem_cons.mpr ⟨rfl, fun _ h => absurd h List.not_mem_nil⟩⟩⟩) ?_
        exact L3394 46658 z2919 0 μ2920 T2924 mF.refl h2922 (rW (c := 0) (d := 46656) (rR (x := 0)) rfl) (vc_X4_leadBack_32 h2927 h2928 h2945 h1 h2946 h2922) (quC.up R2929 (vc_X4_leadBack_10 hq0 h1855 h1859 h2927 h2928 h2945 h1 h1854 h1858 h2946 h2922)) vc_X12_rests_19
      have h3474 : 0 ≤ z2918 ∧ z2918 ≤ 46655 := (vc_X4_leadBack_34 h2945 hq0 h1855 h1859 h2927 h2928 h1 h1854 h1858 h2923 h2922)
      refine sv_aload_n (pc := 12) dX4_leadBack_12 rfl rfl ?_
      refine gk_X4_8 (pc := 13) dX4_leadBack_13 wF_X4_39 (A_94 hw) (F2925.f (A_94 hw) rfl q_bf) ?_
      refine mr_iload_n (pc := 16) (z := z2918) dX4_leadBack_16 rfl rfl ?_
      refine la_104 (pc := 17) dX4_leadBack_17 hA_bf T2924 (lnC q1857 (vc_X4_leadBack_35 h1859 h2927 h2928 h2945 hq0 h1855 h1 h1854 h1858 h3474 h2922)) fun z3475 q3476 h3477 => ?_
      refine mr_iconst (pc := 18) (z := 2) dX4_leadBack_18 ?_
      refine mr_iand (pc := 19) (x := z3475) (y := 2) dX4_leadBack_19 ?_
      refine mr_gen (P := fun z => 0 ≤ z ∧ z ≤ 2) (rAndR (rR (x := 2)) rfl) fun z3478 q3479 h3480 => ?_
      refine mr_if_eq (pc := 20) (tgt := 33) dX4_leadBack_20 (by decide) (r32 h3480 rfl) (fun h3481 => ?_) (fun h3481 => ?_)
      · have h3482 : 0 ≤ z3478 ∧ z3478 ≤ 0 := (vc_X12_provides_4 h3481 h3480)
        refine mr_iinc (pc := 33) (lv' := [(2, iv (z2918 + 1)), (0, .ref 94), (1, iv z2919)]) dX4_leadBack_33 rfl (by decide) rfl ?_
        refine sv_goto (pc := 36) (tgt := 4) dX4_leadBack_36 (by decide) ?_
        refine mr_lvS (lv' := [(0, .ref 94), (1, iv z2919), (2, iv (z2918 + 1))]) (List.forall_mem_cons.mpr ⟨rfl, List.forall_mem_cons.mpr ⟨rfl, List.forall_mem_cons.mpr ⟨rfl, fun _ h => absurd h List.not_mem_nil⟩⟩⟩) ?_
        exact ih2931 z2919 (z2918 + 1) μ2920 T2924 (mF.call mF.refl F2925 rfl) h2922 (rW (c := 0) (d := 46656) (rAdd (e := 1) (f := 46656) h3474 (rR (x := 1)) rfl) rfl) (vc_X4_leadBack_37 h2927 h2928 h2945 hq0 h1855 h1859 h1 h1854 h1858 h3474 h2922) (vc_X4_leadBack_38 hq0 h1855 h1859 h2927 h2928 h2945 h1 h1854 h1858 h3474 h2922) (quC.up R2929 (vc_X4_leadBack_40 h2927 h2928 h2945 hq0 h1855 h1859 h1 h1854 h1858 h3474 h2922)) (vc_X4_leadBack_39 (nS h2930) h2927 h2928 h2945 hq0 h1855 h1859 h1 h1854 h1858 h3474 h2922)
      have h3483 : 1 ≤ z3478 ∧ z3478 ≤ 2 := (vc_X12_provides_3 h3481 h3480)
      refine sv_aload_n (pc := 23) dX4_leadBack_23 rfl rfl ?_
      refine gk_X4_6 (pc := 24) dX4_leadBack_24 wF_X4_33 (A_94 hw) (F2925.f (A_94 hw) rfl q_bq) ?_
      refine mr_iload_n (pc := 27) (z := z2919) dX4_leadBack_27 rfl rfl ?_
      refine mr_iload_n (pc := 28) (z := z2918) dX4_leadBack_28 rfl rfl ?_
      refine ss_102 (pc := 29) dX4_leadBack_29 hA_bq T2924 (lnC q1853 (vc_X4_leadBack_43 h1855 h2927 hq0 h1859 h2928 h2945 h1 h1854 h1858 h3474 h2922)) h3474 fun μ3484 u3485 T3486 => ?_
      have Q3487 := quA.add R2929 (mAt.ne hA_bq hA_bf rfl) (vc_X4_leadBack_44 h2927 h2928 h2945 h1 h3474 h2922) (vc_X4_leadBack_45 h2927 h2928 h2945 hq0 h1855 h1859 h1 h1854 h1858 h3474 h2922) q3476 (flagA q3479 (vc_X4_leadBack_42 h3481 h3483)) u3485
      refine mr_iinc (pc := 30) (lv' := [(1, iv (z2919 + 1)), (0, .ref 94), (2, iv z2918)]) dX4_leadBack_30 rfl (by decide) rfl ?_
      refine mr_iinc (pc := 33) (lv' := [(2, iv (z2918 + 1)), (1, iv (z2919 + 1)), (0, .ref 94)]) dX4_leadBack_33 rfl (by decide) rfl ?_
      refine sv_goto (pc := 36) (tgt := 4) dX4_leadBack_36 (by decide) ?_
      refine mr_lvS (lv' := [(0, .ref 94), (1, iv (z2919 + 1)), (2, iv (z2918 + 1))]) (List.forall_mem_cons.mpr ⟨rfl, List.forall_mem_cons.mpr ⟨rfl, List.forall_mem_cons.mpr ⟨rfl, fun _ h => absurd h List.not_mem_nil⟩⟩⟩) ?_
      exact ih2931 (z2919 + 1) (z2918 + 1) μ3484 T3486 (mF.up (mF.call mF.refl F2925 rfl) hA_bq u3485 rfl) (vc_X4_leadBack_46 h2927 h2928 h2945 h1 h3474 h2922) (rW (c := 0) (d := 46656) (rAdd (e := 1) (f := 46656) h3474 (rR (x := 1)) rfl) rfl) (vc_X4_leadBack_47 h2927 h2928 h2945 hq0 h1855 h1859 h1 h1854 h1858 h3474 h2922) (vc_X4_leadBack_38 hq0 h1855 h1859 h2927 h2928 h2945 h1 h1854 h1858 h3474 h2922) Q3487 (vc_X4_leadBack_39 (nS h2930) h2927 h2928 h2945 hq0 h1855 h1859 h1 h1854 h1858 h3474 h2922)
  refine mr_lvS (lv' := [(0, .ref 94), (1, iv 0), (2, iv 0)]) (List.forall_mem_cons.mpr ⟨rfl, List.forall_mem_cons.mpr ⟨rfl, List.forall_mem_cons.mpr ⟨rfl, fun _ h => absurd h List.not_mem_nil⟩⟩⟩) ?_
  exact L2921 46658 0 0 μ hT mF.refl (rW (c := 0) (d := 46656) (rR (x := 0)) rfl) (rW (c := 0) (d := 46656) (rR (x := 0)) rfl) vc_X12_dropMark_20 (vc_X4_leadBack_49 hq0 h1855 h1859 h1 h1854 h1858) quC.zero vc_X12_rests_19
theorem vc_X4_wayInRest_1 {n_1 p1 : Int} (h0 : p1 < n_1) (h1 : 0 ≤ n_1 ∧ n_1 ≤ 93312) (h2 : 0 ≤ p1 ∧ p1 ≤ 46655) : 0 ≤ p1 ∧ p1 < n_1 := by omega
set_option maxRecDepth 4000 in
set_option maxHeartbeats 4000000 in
theorem c_X4_wayInRest {l : Launch} {D : va_G} {c : Nat → ClassId} {H0 : Heap} {sa : Nat × Nat × (Nat → Int32)} {w : mW} {μ : mM} (hw : mWF w) (hT : mT w μ) {p1 : Int} (hp1 : 0 ≤ p1 ∧ p1 ≤ 46655) {p2 : Int} (hp2 : 1 ≤ p2 ∧ p2 ≤ 6) {br : Nat} (q_br : μ 94 7 = (br : Int)) (hA_br : mAt w br 103) (hix : p1 < (w.2.2.1 br : Int)) : sC (gG l D c H0 sa) mX4_wayInRest 2 0 0 [.ref 94, iv p1, iv p2] (mk w μ) (qP w μ (fun z => ((-2147483648) ≤ z ∧ z ≤ 2147483647) ∧ True)) := by
  refine sC.of rfl (by decide) (le_t rfl) ?_
  refine mr_lvE (lv' := [(0, .ref 94), (1, iv p1), (2, iv p2)]) rfl ?_
  obtain ⟨n_1, q2⟩ : ∃ n : Int, (w.2.2.1 br : Int) = n := ⟨_, rfl⟩
  have h3 : 0 ≤ n_1 ∧ n_1 ≤ 93312 := lnR (m := 93312) q2 hA_br rfl
  have h4 : p1 < n_1 := by rw [← q2]; exact hix
  refine sv_aload_n (pc := 0) dX4_wayInRest_0 rfl rfl ?_
  refine sv_aload_n (pc := 1) dX4_wayInRest_1 rfl rfl ?_
  refine gk_X4_7 (pc := 2) dX4_wayInRest_2 wF_X4_36 (A_94 hw) q_br ?_
  refine mr_iload_n (pc := 5) (z := p1) dX4_wayInRest_5 rfl rfl ?_
  refine la_103 (pc := 6) dX4_wayInRest_6 hA_br hT (lnC q2 (vc_X4_wayInRest_1 h4 h3 hp1)) fun z5 q6 h7 => ?_
  refine mr_iload_n (pc := 7) (z := p2) dX4_wayInRest_7 rfl rfl ?_
  refine mr_cVP (pc := 8) (c_X4_figure hw hT h7 hp2) (gOk _ _ _ _ _) dX4_wayInRest_8 (tX4_figure _ _ _ _ _) ⟨wV_X4_figure, wL_X4_figure⟩ wM_X4_75 (gCX4 _ _ _ _ _) rfl (A_94 hw) rfl ⟨le_t rfl, le_t rfl⟩ ⟨le_t rfl, le_t rfl⟩ rfl (le_t rfl) fun z12 h11 => ?_
  refine mr_istore_n (pc := 11) (lv' := [(3, iv z12), (0, .ref 94), (1, iv p1), (2, iv p2)]) dX4_wayInRest_11 rfl (by decide) rfl ?_
  refine mr_iload_n (pc := 12) (z := z12) dX4_wayInRest_12 rfl rfl ?_
  refine sv_aload_n (pc := 13) dX4_wayInRest_13 rfl rfl ?_
  refine gf_X4_12 (pc := 14) dX4_wayInRest_14 wF_X4_11 (A_94 hw) hT ?_
  refine mr_iload_n (pc := 17) (z := p2) dX4_wayInRest_17 rfl rfl ?_
  refine la_95 (pc := 18) dX4_wayInRest_18 (A_95 hw) hT (rIx (n := 7) hp2 rfl) fun z13 q14 h15 => ?_
  refine mr_icmp_ne (pc := 19) (tgt := 27) dX4_wayInRest_19 (by decide) (r32 h11.1 rfl) (r32 h15 rfl) (fun h16 => ?_) (fun h16 => ?_)
  · refine mr_iload_n (pc := 27) (z := z12) dX4_wayInRest_27 rfl rfl ?_
    exact mr_iretP dX4_wayInRest_28 rfl (le_t rfl) (le_t rfl) ⟨(rW (c := (-2147483648)) (d := 2147483647) h11.1 rfl), trivial⟩
  refine mr_bipush (pc := 22) (z := (-4)) dX4_wayInRest_22 (by decide) ?_
  refine sv_goto (pc := 24) (tgt := 28) dX4_wayInRest_24 (by decide) ?_
  exact mr_iretP dX4_wayInRest_28 rfl (le_t rfl) (le_t rfl) ⟨(rW (c := (-2147483648)) (d := 2147483647) (rR (x := (-4))) rfl), trivial⟩
end
