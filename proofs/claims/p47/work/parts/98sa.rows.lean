set_option maxRecDepth 4000 in
set_option maxHeartbeats 4000000 in
theorem c_X12_states_v {l : Launch} {D : va_G} {c : Nat → ClassId} {H0 : Heap} {sa : Nat × Nat × (Nat → Int32)} {w : mW} {μ : mM} (hw : mWF w) (hT : mT w μ) : sC (gG l D c H0 sa) mX12_states 1 0 0 [.ref 106] (mk w μ) (qI w [187999] μ (fun z μ1 => ∃ o_w1 o_w2 o_w3 o_w4 o_w5 o_w6 : Int, μ1 187 ((1 : Int).toNat) = o_w1 ∧ μ1 187 ((2 : Int).toNat) = o_w2 ∧ μ1 187 ((3 : Int).toNat) = o_w3 ∧ μ1 187 ((4 : Int).toNat) = o_w4 ∧ μ1 187 ((5 : Int).toNat) = o_w5 ∧ μ1 187 ((6 : Int).toNat) = o_w6 ∧ (1 ≤ z ∧ z ≤ 46656) ∧ (1 ≤ o_w1) ∧ (1 ≤ o_w2) ∧ (1 ≤ o_w3) ∧ (1 ≤ o_w4) ∧ (1 ≤ o_w5) ∧ (1 ≤ o_w6) ∧ ((wgT μ1 187 184 ∧ z = wgk (μ1 184) 6)) ∧ True)) := by
  refine sC.of rfl (by decide) (le_t rfl) ?_
  refine mr_lvE (lv' := [(0, .ref 106)]) rfl ?_
  refine mr_iconst (pc := 0) (z := 1) dX12_states_0 ?_
  refine mr_istore_n (pc := 1) (lv' := [(1, iv 1), (0, .ref 106)]) dX12_states_1 rfl (by decide) rfl ?_
  refine mr_bipush (pc := 2) (z := 6) dX12_states_2 (by decide) ?_
  refine mr_istore_n (pc := 4) (lv' := [(2, iv 6), (1, iv 1), (0, .ref 106)]) dX12_states_4 rfl (by decide) rfl ?_
  refine mr_iload_n (pc := 5) (z := 6) dX12_states_5 rfl rfl ?_
  refine mr_iconst (pc := 6) (z := 1) dX12_states_6 ?_
  refine mr_icmp_lt (pc := 7) (tgt := 34) dX12_states_7 (by decide) (r32 (rR (x := 6)) rfl) (r32 (rR (x := 1)) rfl) (fun h => ((vc_X12_states_r_1 h)).elim) (fun _ => ?_)
  refine sv_aload_n (pc := 10) dX12_states_10 rfl rfl ?_
  refine gf_X12_121 (pc := 11) dX12_states_11 wF_X12_523 (A_106 hw) hT ?_
  refine mr_iload_n (pc := 14) (z := 6) dX12_states_14 rfl rfl ?_
  refine mr_iload_n (pc := 15) (z := 1) dX12_states_15 rfl rfl ?_
  refine ss_187 (pc := 16) dX12_states_16 (A_187 hw) hT (rIx (n := 8) (rR (x := 6)) rfl) (rW (c := 0) (d := 46656) (rR (x := 1)) rfl) fun μ1 u2 T3 => ?_
  refine mr_iload_n (pc := 17) (z := 1) dX12_states_17 rfl rfl ?_
  refine sv_aload_n (pc := 18) dX12_states_18 rfl rfl ?_
  refine gf_X12_118 (pc := 19) dX12_states_19 wF_X12_514 (A_106 hw) T3 ?_
  refine mr_iload_n (pc := 22) (z := 6) dX12_states_22 rfl rfl ?_
  refine la_184 (pc := 23) dX12_states_23 (A_184 hw) T3 (rIx (n := 7) (rR (x := 6)) rfl) fun z4 q5 h6 => ?_
  refine mr_iconst (pc := 24) (z := 1) dX12_states_24 ?_
  refine mr_iadd (pc := 25) (x := z4) (y := 1) dX12_states_25 ?_
  refine mr_imul (pc := 26) (x := 1) (y := (z4 + 1)) dX12_states_26 ?_
  refine mr_istore_n (pc := 27) (lv' := [(1, iv (1 * (z4 + 1))), (2, iv 6), (0, .ref 106)]) dX12_states_27 rfl (by decide) rfl ?_
  refine mr_iinc (pc := 28) (lv' := [(2, iv 5), (1, iv (1 * (z4 + 1))), (0, .ref 106)]) dX12_states_28 rfl (by decide) rfl ?_
  refine sv_goto (pc := 31) (tgt := 5) dX12_states_31 (by decide) ?_
  refine mr_iload_n (pc := 5) (z := 5) dX12_states_5 rfl rfl ?_
  refine mr_iconst (pc := 6) (z := 1) dX12_states_6 ?_
  refine mr_icmp_lt (pc := 7) (tgt := 34) dX12_states_7 (by decide) (r32 (rR (x := 5)) rfl) (r32 (rR (x := 1)) rfl) (fun h => ((vc_X12_states_r_2 h)).elim) (fun _ => ?_)
  refine sv_aload_n (pc := 10) dX12_states_10 rfl rfl ?_
  refine gf_X12_121 (pc := 11) dX12_states_11 wF_X12_523 (A_106 hw) T3 ?_
  refine mr_iload_n (pc := 14) (z := 5) dX12_states_14 rfl rfl ?_
  refine mr_iload_n (pc := 15) (z := (1 * (z4 + 1))) dX12_states_15 rfl rfl ?_
  refine ss_187 (pc := 16) dX12_states_16 (A_187 hw) T3 (rIx (n := 8) (rR (x := 5)) rfl) (rW (c := 0) (d := 46656) (rMulL (n := 1) (e := 1) (f := 6) (rAdd (e := 1) (f := 6) h6 (rR (x := 1)) rfl) rfl) rfl) fun μ7 u8 T9 => ?_
  refine mr_iload_n (pc := 17) (z := (1 * (z4 + 1))) dX12_states_17 rfl rfl ?_
  refine sv_aload_n (pc := 18) dX12_states_18 rfl rfl ?_
  refine gf_X12_118 (pc := 19) dX12_states_19 wF_X12_514 (A_106 hw) T9 ?_
  refine mr_iload_n (pc := 22) (z := 5) dX12_states_22 rfl rfl ?_
  refine la_184 (pc := 23) dX12_states_23 (A_184 hw) T9 (rIx (n := 7) (rR (x := 5)) rfl) fun z10 q11 h12 => ?_
  refine mr_iconst (pc := 24) (z := 1) dX12_states_24 ?_
  refine mr_iadd (pc := 25) (x := z10) (y := 1) dX12_states_25 ?_
  refine mr_imul (pc := 26) (x := (1 * (z4 + 1))) (y := (z10 + 1)) dX12_states_26 ?_
  refine mr_gen (P := fun z => 1 ≤ z ∧ z ≤ 36) (rMulP (rMulL (n := 1) (e := 1) (f := 6) (rAdd (e := 1) (f := 6) h6 (rR (x := 1)) rfl) rfl) (rAdd (e := 1) (f := 6) h12 (rR (x := 1)) rfl) rfl) fun z13 q14 h15 => ?_
  refine mr_istore_n (pc := 27) (lv' := [(1, iv z13), (2, iv 5), (0, .ref 106)]) dX12_states_27 rfl (by decide) rfl ?_
  refine mr_iinc (pc := 28) (lv' := [(2, iv 4), (1, iv z13), (0, .ref 106)]) dX12_states_28 rfl (by decide) rfl ?_
  refine sv_goto (pc := 31) (tgt := 5) dX12_states_31 (by decide) ?_
  refine mr_iload_n (pc := 5) (z := 4) dX12_states_5 rfl rfl ?_
  refine mr_iconst (pc := 6) (z := 1) dX12_states_6 ?_
  refine mr_icmp_lt (pc := 7) (tgt := 34) dX12_states_7 (by decide) (r32 (rR (x := 4)) rfl) (r32 (rR (x := 1)) rfl) (fun h => ((vc_X12_states_r_3 h)).elim) (fun _ => ?_)
  refine sv_aload_n (pc := 10) dX12_states_10 rfl rfl ?_
  refine gf_X12_121 (pc := 11) dX12_states_11 wF_X12_523 (A_106 hw) T9 ?_
  refine mr_iload_n (pc := 14) (z := 4) dX12_states_14 rfl rfl ?_
  refine mr_iload_n (pc := 15) (z := z13) dX12_states_15 rfl rfl ?_
  refine ss_187 (pc := 16) dX12_states_16 (A_187 hw) T9 (rIx (n := 8) (rR (x := 4)) rfl) (rW (c := 0) (d := 46656) h15 rfl) fun μ16 u17 T18 => ?_
  refine mr_iload_n (pc := 17) (z := z13) dX12_states_17 rfl rfl ?_
  refine sv_aload_n (pc := 18) dX12_states_18 rfl rfl ?_
  refine gf_X12_118 (pc := 19) dX12_states_19 wF_X12_514 (A_106 hw) T18 ?_
  refine mr_iload_n (pc := 22) (z := 4) dX12_states_22 rfl rfl ?_
  refine la_184 (pc := 23) dX12_states_23 (A_184 hw) T18 (rIx (n := 7) (rR (x := 4)) rfl) fun z19 q20 h21 => ?_
  refine mr_iconst (pc := 24) (z := 1) dX12_states_24 ?_
  refine mr_iadd (pc := 25) (x := z19) (y := 1) dX12_states_25 ?_
  refine mr_imul (pc := 26) (x := z13) (y := (z19 + 1)) dX12_states_26 ?_
  refine mr_gen (P := fun z => 1 ≤ z ∧ z ≤ 216) (rMulP h15 (rAdd (e := 1) (f := 6) h21 (rR (x := 1)) rfl) rfl) fun z22 q23 h24 => ?_
  refine mr_istore_n (pc := 27) (lv' := [(1, iv z22), (2, iv 4), (0, .ref 106)]) dX12_states_27 rfl (by decide) rfl ?_
  refine mr_iinc (pc := 28) (lv' := [(2, iv 3), (1, iv z22), (0, .ref 106)]) dX12_states_28 rfl (by decide) rfl ?_
  refine sv_goto (pc := 31) (tgt := 5) dX12_states_31 (by decide) ?_
  refine mr_iload_n (pc := 5) (z := 3) dX12_states_5 rfl rfl ?_
  refine mr_iconst (pc := 6) (z := 1) dX12_states_6 ?_
  refine mr_icmp_lt (pc := 7) (tgt := 34) dX12_states_7 (by decide) (r32 (rR (x := 3)) rfl) (r32 (rR (x := 1)) rfl) (fun h => ((vc_X12_states_r_4 h)).elim) (fun _ => ?_)
  refine sv_aload_n (pc := 10) dX12_states_10 rfl rfl ?_
  refine gf_X12_121 (pc := 11) dX12_states_11 wF_X12_523 (A_106 hw) T18 ?_
  refine mr_iload_n (pc := 14) (z := 3) dX12_states_14 rfl rfl ?_
  refine mr_iload_n (pc := 15) (z := z22) dX12_states_15 rfl rfl ?_
  refine ss_187 (pc := 16) dX12_states_16 (A_187 hw) T18 (rIx (n := 8) (rR (x := 3)) rfl) (rW (c := 0) (d := 46656) h24 rfl) fun μ25 u26 T27 => ?_
  refine mr_iload_n (pc := 17) (z := z22) dX12_states_17 rfl rfl ?_
  refine sv_aload_n (pc := 18) dX12_states_18 rfl rfl ?_
  refine gf_X12_118 (pc := 19) dX12_states_19 wF_X12_514 (A_106 hw) T27 ?_
  refine mr_iload_n (pc := 22) (z := 3) dX12_states_22 rfl rfl ?_
  refine la_184 (pc := 23) dX12_states_23 (A_184 hw) T27 (rIx (n := 7) (rR (x := 3)) rfl) fun z28 q29 h30 => ?_
  refine mr_iconst (pc := 24) (z := 1) dX12_states_24 ?_
  refine mr_iadd (pc := 25) (x := z28) (y := 1) dX12_states_25 ?_
  refine mr_imul (pc := 26) (x := z22) (y := (z28 + 1)) dX12_states_26 ?_
  refine mr_gen (P := fun z => 1 ≤ z ∧ z ≤ 1296) (rMulP h24 (rAdd (e := 1) (f := 6) h30 (rR (x := 1)) rfl) rfl) fun z31 q32 h33 => ?_
  refine mr_istore_n (pc := 27) (lv' := [(1, iv z31), (2, iv 3), (0, .ref 106)]) dX12_states_27 rfl (by decide) rfl ?_
  refine mr_iinc (pc := 28) (lv' := [(2, iv 2), (1, iv z31), (0, .ref 106)]) dX12_states_28 rfl (by decide) rfl ?_
  refine sv_goto (pc := 31) (tgt := 5) dX12_states_31 (by decide) ?_
  refine mr_iload_n (pc := 5) (z := 2) dX12_states_5 rfl rfl ?_
  refine mr_iconst (pc := 6) (z := 1) dX12_states_6 ?_
  refine mr_icmp_lt (pc := 7) (tgt := 34) dX12_states_7 (by decide) (r32 (rR (x := 2)) rfl) (r32 (rR (x := 1)) rfl) (fun h => ((vc_X12_states_r_5 h)).elim) (fun _ => ?_)
  refine sv_aload_n (pc := 10) dX12_states_10 rfl rfl ?_
  refine gf_X12_121 (pc := 11) dX12_states_11 wF_X12_523 (A_106 hw) T27 ?_
  refine mr_iload_n (pc := 14) (z := 2) dX12_states_14 rfl rfl ?_
  refine mr_iload_n (pc := 15) (z := z31) dX12_states_15 rfl rfl ?_
  refine ss_187 (pc := 16) dX12_states_16 (A_187 hw) T27 (rIx (n := 8) (rR (x := 2)) rfl) (rW (c := 0) (d := 46656) h33 rfl) fun μ34 u35 T36 => ?_
  refine mr_iload_n (pc := 17) (z := z31) dX12_states_17 rfl rfl ?_
  refine sv_aload_n (pc := 18) dX12_states_18 rfl rfl ?_
  refine gf_X12_118 (pc := 19) dX12_states_19 wF_X12_514 (A_106 hw) T36 ?_
  refine mr_iload_n (pc := 22) (z := 2) dX12_states_22 rfl rfl ?_
  refine la_184 (pc := 23) dX12_states_23 (A_184 hw) T36 (rIx (n := 7) (rR (x := 2)) rfl) fun z37 q38 h39 => ?_
  refine mr_iconst (pc := 24) (z := 1) dX12_states_24 ?_
  refine mr_iadd (pc := 25) (x := z37) (y := 1) dX12_states_25 ?_
  refine mr_imul (pc := 26) (x := z31) (y := (z37 + 1)) dX12_states_26 ?_
  refine mr_gen (P := fun z => 1 ≤ z ∧ z ≤ 7776) (rMulP h33 (rAdd (e := 1) (f := 6) h39 (rR (x := 1)) rfl) rfl) fun z40 q41 h42 => ?_
  refine mr_istore_n (pc := 27) (lv' := [(1, iv z40), (2, iv 2), (0, .ref 106)]) dX12_states_27 rfl (by decide) rfl ?_
  refine mr_iinc (pc := 28) (lv' := [(2, iv 1), (1, iv z40), (0, .ref 106)]) dX12_states_28 rfl (by decide) rfl ?_
  refine sv_goto (pc := 31) (tgt := 5) dX12_states_31 (by decide) ?_
  refine mr_iload_n (pc := 5) (z := 1) dX12_states_5 rfl rfl ?_
  refine mr_iconst (pc := 6) (z := 1) dX12_states_6 ?_
  refine mr_icmp_lt (pc := 7) (tgt := 34) dX12_states_7 (by decide) (r32 (rR (x := 1)) rfl) (r32 (rR (x := 1)) rfl) (fun h => ((vc_X12_states_r_6 h)).elim) (fun _ => ?_)
  refine sv_aload_n (pc := 10) dX12_states_10 rfl rfl ?_
  refine gf_X12_121 (pc := 11) dX12_states_11 wF_X12_523 (A_106 hw) T36 ?_
  refine mr_iload_n (pc := 14) (z := 1) dX12_states_14 rfl rfl ?_
  refine mr_iload_n (pc := 15) (z := z40) dX12_states_15 rfl rfl ?_
  refine ss_187 (pc := 16) dX12_states_16 (A_187 hw) T36 (rIx (n := 8) (rR (x := 1)) rfl) (rW (c := 0) (d := 46656) h42 rfl) fun μ43 u44 T45 => ?_
  refine mr_iload_n (pc := 17) (z := z40) dX12_states_17 rfl rfl ?_
  refine sv_aload_n (pc := 18) dX12_states_18 rfl rfl ?_
  refine gf_X12_118 (pc := 19) dX12_states_19 wF_X12_514 (A_106 hw) T45 ?_
  refine mr_iload_n (pc := 22) (z := 1) dX12_states_22 rfl rfl ?_
  refine la_184 (pc := 23) dX12_states_23 (A_184 hw) T45 (rIx (n := 7) (rR (x := 1)) rfl) fun z46 q47 h48 => ?_
  refine mr_iconst (pc := 24) (z := 1) dX12_states_24 ?_
  refine mr_iadd (pc := 25) (x := z46) (y := 1) dX12_states_25 ?_
  refine mr_imul (pc := 26) (x := z40) (y := (z46 + 1)) dX12_states_26 ?_
  refine mr_gen (P := fun z => 1 ≤ z ∧ z ≤ 46656) (rMulP h42 (rAdd (e := 1) (f := 6) h48 (rR (x := 1)) rfl) rfl) fun z49 q50 h51 => ?_
  refine mr_istore_n (pc := 27) (lv' := [(1, iv z49), (2, iv 1), (0, .ref 106)]) dX12_states_27 rfl (by decide) rfl ?_
  refine mr_iinc (pc := 28) (lv' := [(2, iv 0), (1, iv z49), (0, .ref 106)]) dX12_states_28 rfl (by decide) rfl ?_
  refine sv_goto (pc := 31) (tgt := 5) dX12_states_31 (by decide) ?_
  refine mr_iload_n (pc := 5) (z := 0) dX12_states_5 rfl rfl ?_
  refine mr_iconst (pc := 6) (z := 1) dX12_states_6 ?_
  refine mr_icmp_lt (pc := 7) (tgt := 34) dX12_states_7 (by decide) (r32 (rR (x := 0)) rfl) (r32 (rR (x := 1)) rfl) (fun _ => ?_) (fun h => ((vc_X12_states_r_7 h)).elim)
  refine mr_iload_n (pc := 34) (z := z49) dX12_states_34 rfl rfl ?_
  exact mr_iret dX12_states_35 rfl (le_t rfl) (le_t rfl) T45 (mF.up (mF.up (mF.up (mF.up (mF.up (mF.up mF.refl (A_187 hw) u2 rfl) (A_187 hw) u8 rfl) (A_187 hw) u17 rfl) (A_187 hw) u26 rfl) (A_187 hw) u35 rfl) (A_187 hw) u44 rfl) ⟨z40, z31, z22, z13, (1 * (z4 + 1)), 1, u44.1, (u44.f (Or.inr vc_X12_states_r_8) u35.1), (u44.f (Or.inr vc_X12_states_r_10) (u35.f (Or.inr vc_X12_states_r_9) u26.1)), (u44.f (Or.inr vc_X12_states_r_13) (u35.f (Or.inr vc_X12_states_r_12) (u26.f (Or.inr vc_X12_states_r_11) u17.1))), (u44.f (Or.inr vc_X12_states_r_17) (u35.f (Or.inr vc_X12_states_r_16) (u26.f (Or.inr vc_X12_states_r_15) (u17.f (Or.inr vc_X12_states_r_14) u8.1)))), (u44.f (Or.inr vc_X12_states_r_22) (u35.f (Or.inr vc_X12_states_r_21) (u26.f (Or.inr vc_X12_states_r_20) (u17.f (Or.inr vc_X12_states_r_19) (u8.f (Or.inr vc_X12_states_r_18) u2.1))))), h51, (vc_X12_states_r_23 h42), (vc_X12_states_r_24 h33), (vc_X12_states_r_25 h24), (vc_X12_states_r_26 h15), (vc_X12_states_r_27 h6), vc_X12_states_r_28, (wgT.mk q47 (u44.f (Or.inl (mAt.ne (A_187 hw) (A_184 hw) rfl)) q38) (u44.f (Or.inl (mAt.ne (A_187 hw) (A_184 hw) rfl)) (u35.f (Or.inl (mAt.ne (A_187 hw) (A_184 hw) rfl)) q29)) (u44.f (Or.inl (mAt.ne (A_187 hw) (A_184 hw) rfl)) (u35.f (Or.inl (mAt.ne (A_187 hw) (A_184 hw) rfl)) (u26.f (Or.inl (mAt.ne (A_187 hw) (A_184 hw) rfl)) q20))) (u44.f (Or.inl (mAt.ne (A_187 hw) (A_184 hw) rfl)) (u35.f (Or.inl (mAt.ne (A_187 hw) (A_184 hw) rfl)) (u26.f (Or.inl (mAt.ne (A_187 hw) (A_184 hw) rfl)) (u17.f (Or.inl (mAt.ne (A_187 hw) (A_184 hw) rfl)) q11)))) (u44.f (Or.inl (mAt.ne (A_187 hw) (A_184 hw) rfl)) (u35.f (Or.inl (mAt.ne (A_187 hw) (A_184 hw) rfl)) (u26.f (Or.inl (mAt.ne (A_187 hw) (A_184 hw) rfl)) (u17.f (Or.inl (mAt.ne (A_187 hw) (A_184 hw) rfl)) (u8.f (Or.inl (mAt.ne (A_187 hw) (A_184 hw) rfl)) q5))))) u44.1 (u44.f (Or.inr vc_X12_states_r_8) u35.1) (u44.f (Or.inr vc_X12_states_r_10) (u35.f (Or.inr vc_X12_states_r_9) u26.1)) (u44.f (Or.inr vc_X12_states_r_13) (u35.f (Or.inr vc_X12_states_r_12) (u26.f (Or.inr vc_X12_states_r_11) u17.1))) (u44.f (Or.inr vc_X12_states_r_17) (u35.f (Or.inr vc_X12_states_r_16) (u26.f (Or.inr vc_X12_states_r_15) (u17.f (Or.inr vc_X12_states_r_14) u8.1)))) (u44.f (Or.inr vc_X12_states_r_22) (u35.f (Or.inr vc_X12_states_r_21) (u26.f (Or.inr vc_X12_states_r_20) (u17.f (Or.inr vc_X12_states_r_19) (u8.f (Or.inr vc_X12_states_r_18) u2.1))))) rfl rfl q14.symm q23.symm q32.symm q41.symm q50.symm), trivial⟩
theorem vc_X12_isOffered_v_4 {z306 z309 z321 : Int} (h0 : z306 ≤ z321) (h1 : ¬ z306 = (z309 - 1)) (h2 : 0 ≤ z306 ∧ z306 ≤ 7) (h3 : 0 ≤ z309 ∧ z309 ≤ 7) (h4 : 0 ≤ z321 ∧ z321 ≤ 0) : 0 ≤ z306 ∧ z306 ≤ 0 := by omega
theorem vc_X12_isOffered_v_5 {p1 : Int} (h0 : 5 ≤ p1 ∧ p1 ≤ 34) : 0 ≤ p1 ∧ ((8 * p1) + 1) = 8 * p1 + 1 := by omega
theorem vc_X12_isOffered_v_6 {f_h1 f_h2 f_h3 f_h4 f_h5 f_h6 f_v1 f_v2 f_v3 f_v4 f_v5 f_v6 z294 z299 z302 : Int} (h0 : ¬ z294 = 0) (h1 : (z294 = 1 → z299 = f_h1)) (h2 : (z294 = 2 → z299 = f_h2)) (h3 : (z294 = 3 → z299 = f_h3)) (h4 : (z294 = 4 → z299 = f_h4)) (h5 : (z294 = 5 → z299 = f_h5)) (h6 : (z294 = 6 → z299 = f_h6)) (h7 : (z294 = 1 → z302 = f_v1)) (h8 : (z294 = 2 → z302 = f_v2)) (h9 : (z294 = 3 → z302 = f_v3)) (h10 : (z294 = 4 → z302 = f_v4)) (h11 : (z294 = 5 → z302 = f_v5)) (h12 : (z294 = 6 → z302 = f_v6)) (h13 : f_h1 ≤ f_v1) (h14 : f_h2 ≤ f_v2) (h15 : f_h3 ≤ f_v3) (h16 : f_h4 ≤ f_v4) (h17 : f_h5 ≤ f_v5) (h18 : f_h6 ≤ f_v6) (h19 : ¬ z299 = z302) (h20 : 0 ≤ f_h1 ∧ f_h1 ≤ 5) (h21 : 0 ≤ f_h2 ∧ f_h2 ≤ 5) (h22 : 0 ≤ f_h3 ∧ f_h3 ≤ 5) (h23 : 0 ≤ f_h4 ∧ f_h4 ≤ 5) (h24 : 0 ≤ f_h5 ∧ f_h5 ≤ 5) (h25 : 0 ≤ f_h6 ∧ f_h6 ≤ 5) (h26 : 0 ≤ f_v1 ∧ f_v1 ≤ 5) (h27 : 0 ≤ f_v2 ∧ f_v2 ≤ 5) (h28 : 0 ≤ f_v3 ∧ f_v3 ≤ 5) (h29 : 0 ≤ f_v4 ∧ f_v4 ≤ 5) (h30 : 0 ≤ f_v5 ∧ f_v5 ≤ 5) (h31 : 0 ≤ f_v6 ∧ f_v6 ≤ 5) (h32 : 1 ≤ z294 ∧ z294 ≤ 6) (h33 : 0 ≤ z299 ∧ z299 ≤ 5) (h34 : 0 ≤ z302 ∧ z302 ≤ 5) : ¬ z294 = 0 := by omega
theorem vc_X12_isOffered_v_7 {f_h1 f_h2 f_h3 f_h4 f_h5 f_h6 f_v1 f_v2 f_v3 f_v4 f_v5 f_v6 z294 z299 z302 : Int} (h0 : (z294 = 1 → z299 = f_h1)) (h1 : (z294 = 2 → z299 = f_h2)) (h2 : (z294 = 3 → z299 = f_h3)) (h3 : (z294 = 4 → z299 = f_h4)) (h4 : (z294 = 5 → z299 = f_h5)) (h5 : (z294 = 6 → z299 = f_h6)) (h6 : (z294 = 1 → z302 = f_v1)) (h7 : (z294 = 2 → z302 = f_v2)) (h8 : (z294 = 3 → z302 = f_v3)) (h9 : (z294 = 4 → z302 = f_v4)) (h10 : (z294 = 5 → z302 = f_v5)) (h11 : (z294 = 6 → z302 = f_v6)) (h12 : ¬ z299 = z302) (h13 : f_h1 ≤ f_v1) (h14 : f_h2 ≤ f_v2) (h15 : f_h3 ≤ f_v3) (h16 : f_h4 ≤ f_v4) (h17 : f_h5 ≤ f_v5) (h18 : f_h6 ≤ f_v6) (h19 : ¬ z294 = 0) (h20 : 0 ≤ f_h1 ∧ f_h1 ≤ 5) (h21 : 0 ≤ f_h2 ∧ f_h2 ≤ 5) (h22 : 0 ≤ f_h3 ∧ f_h3 ≤ 5) (h23 : 0 ≤ f_h4 ∧ f_h4 ≤ 5) (h24 : 0 ≤ f_h5 ∧ f_h5 ≤ 5) (h25 : 0 ≤ f_h6 ∧ f_h6 ≤ 5) (h26 : 0 ≤ f_v1 ∧ f_v1 ≤ 5) (h27 : 0 ≤ f_v2 ∧ f_v2 ≤ 5) (h28 : 0 ≤ f_v3 ∧ f_v3 ≤ 5) (h29 : 0 ≤ f_v4 ∧ f_v4 ≤ 5) (h30 : 0 ≤ f_v5 ∧ f_v5 ≤ 5) (h31 : 0 ≤ f_v6 ∧ f_v6 ≤ 5) (h32 : 1 ≤ z294 ∧ z294 ≤ 6) (h33 : 0 ≤ z299 ∧ z299 ≤ 5) (h34 : 0 ≤ z302 ∧ z302 ≤ 5) : ¬ z299 = z302 := by omega
theorem vc_X12_isOffered_v_8 {f_h1 f_h2 f_h3 f_h4 f_h5 f_h6 f_v1 f_v2 f_v3 f_v4 f_v5 f_v6 z294 z299 z302 : Int} (h0 : ¬ z294 = 0) (h1 : (z294 = 1 → z299 = f_h1)) (h2 : (z294 = 2 → z299 = f_h2)) (h3 : (z294 = 3 → z299 = f_h3)) (h4 : (z294 = 4 → z299 = f_h4)) (h5 : (z294 = 5 → z299 = f_h5)) (h6 : (z294 = 6 → z299 = f_h6)) (h7 : (z294 = 1 → z302 = f_v1)) (h8 : (z294 = 2 → z302 = f_v2)) (h9 : (z294 = 3 → z302 = f_v3)) (h10 : (z294 = 4 → z302 = f_v4)) (h11 : (z294 = 5 → z302 = f_v5)) (h12 : (z294 = 6 → z302 = f_v6)) (h13 : ¬ z299 = z302) (h14 : f_h1 ≤ f_v1) (h15 : f_h2 ≤ f_v2) (h16 : f_h3 ≤ f_v3) (h17 : f_h4 ≤ f_v4) (h18 : f_h5 ≤ f_v5) (h19 : f_h6 ≤ f_v6) (h20 : 0 ≤ f_h1 ∧ f_h1 ≤ 5) (h21 : 0 ≤ f_h2 ∧ f_h2 ≤ 5) (h22 : 0 ≤ f_h3 ∧ f_h3 ≤ 5) (h23 : 0 ≤ f_h4 ∧ f_h4 ≤ 5) (h24 : 0 ≤ f_h5 ∧ f_h5 ≤ 5) (h25 : 0 ≤ f_h6 ∧ f_h6 ≤ 5) (h26 : 0 ≤ f_v1 ∧ f_v1 ≤ 5) (h27 : 0 ≤ f_v2 ∧ f_v2 ≤ 5) (h28 : 0 ≤ f_v3 ∧ f_v3 ≤ 5) (h29 : 0 ≤ f_v4 ∧ f_v4 ≤ 5) (h30 : 0 ≤ f_v5 ∧ f_v5 ≤ 5) (h31 : 0 ≤ f_v6 ∧ f_v6 ≤ 5) (h32 : 1 ≤ z294 ∧ z294 ≤ 6) (h33 : 0 ≤ z299 ∧ z299 ≤ 5) (h34 : 0 ≤ z302 ∧ z302 ≤ 5) : ((5 * z294) + z299) = 5 * z294 + z299 := by omega
theorem vc_X12_isOffered_v_9 {z322 : Int} (h0 : 0 ≤ z322 ∧ z322 ≤ 0) : z322 = z322 := by omega
theorem vc_X12_isOffered_v_10 {z306 z309 z321 z322 : Int} (h0 : ¬ z306 = (z309 - 1)) (h1 : z306 ≤ z321) (h2 : 0 ≤ z306 ∧ z306 ≤ 0) (h3 : 0 ≤ z309 ∧ z309 ≤ 7) (h4 : 0 ≤ z321 ∧ z321 ≤ 0) (h5 : 0 ≤ z322 ∧ z322 ≤ 0) : ¬ z322 = 1 ∨ z306 ≤ z321 := by omega
theorem vc_X12_isOffered_v_11 {z306 z309 z321 : Int} (h0 : z321 < z306) (h1 : ¬ z306 = (z309 - 1)) (h2 : 0 ≤ z306 ∧ z306 ≤ 7) (h3 : 0 ≤ z309 ∧ z309 ≤ 7) (h4 : 0 ≤ z321 ∧ z321 ≤ 0) : 1 ≤ z306 ∧ z306 ≤ 7 := by omega
theorem vc_X12_isOffered_v_13 {z306 z309 z321 z322 : Int} (h0 : ¬ z306 = (z309 - 1)) (h1 : z321 < z306) (h2 : 1 ≤ z306 ∧ z306 ≤ 7) (h3 : 0 ≤ z309 ∧ z309 ≤ 7) (h4 : 0 ≤ z321 ∧ z321 ≤ 0) (h5 : 0 ≤ z322 ∧ z322 ≤ 0) : ¬ z322 = 1 ∨ z306 ≤ z321 := by omega
theorem vc_X12_isOffered_v_15  : ((0 : Int) : Int) ≤ (0 : Int) := by omega
theorem vc_X12_isOffered_v_16 {z306 z309 : Int} (h0 : ¬ z306 = (z309 - 1)) (h1 : 0 ≤ z306 ∧ z306 ≤ 7) (h2 : 0 ≤ z309 ∧ z309 ≤ 7) : (z306 = z309 - 1 ∧ (0 : Int) = 1) ∨ (¬ z306 = z309 - 1 ∧ ¬ (0 : Int) = 1) := by omega
theorem vc_X12_isOffered_v_20 {z432 : Int} (h0 : 0 ≤ z432 ∧ z432 ≤ 1) : z432 = z432 := by omega
theorem vc_X12_isOffered_v_21 {z306 z309 z431 z432 : Int} (h0 : z306 = (z309 - 1)) (h1 : z306 ≤ z431) (h2 : 0 ≤ z306 ∧ z306 ≤ 6) (h3 : 1 ≤ z309 ∧ z309 ≤ 7) (h4 : 0 ≤ z431 ∧ z431 ≤ 6) (h5 : 0 ≤ z432 ∧ z432 ≤ 1) : ¬ z432 = 1 ∨ z306 ≤ z431 := by omega
theorem vc_X12_isOffered_v_22 {z306 z309 z431 : Int} (h0 : z431 < z306) (h1 : z306 = (z309 - 1)) (h2 : 0 ≤ z306 ∧ z306 ≤ 6) (h3 : 1 ≤ z309 ∧ z309 ≤ 7) (h4 : 0 ≤ z431 ∧ z431 ≤ 6) : 0 ≤ z431 ∧ z431 ≤ 5 := by omega
theorem vc_X12_isOffered_v_23 {z306 z309 z431 : Int} (h0 : z431 < z306) (h1 : z306 = (z309 - 1)) (h2 : 0 ≤ z306 ∧ z306 ≤ 6) (h3 : 1 ≤ z309 ∧ z309 ≤ 7) (h4 : 0 ≤ z431 ∧ z431 ≤ 5) : 1 ≤ z306 ∧ z306 ≤ 6 := by omega
theorem vc_X12_isOffered_v_25 {z432 : Int} (h0 : z432 = 0) (h1 : 0 ≤ z432 ∧ z432 ≤ 0) : z432 = z432 := by omega
theorem vc_X12_isOffered_v_26 {z306 z309 z431 z432 : Int} (h0 : z306 = (z309 - 1)) (h1 : z431 < z306) (h2 : z432 = 0) (h3 : 1 ≤ z306 ∧ z306 ≤ 6) (h4 : 1 ≤ z309 ∧ z309 ≤ 7) (h5 : 0 ≤ z431 ∧ z431 ≤ 5) (h6 : 0 ≤ z432 ∧ z432 ≤ 0) : ¬ z432 = 1 ∨ z306 ≤ z431 := by omega
theorem vc_X12_isOffered_v_28 {f_h1 f_h2 f_h3 f_h4 f_h5 f_h6 f_v1 f_v2 f_v3 f_v4 f_v5 f_v6 z294 z299 z302 z306 z309 z431 : Int} (h0 : ¬ z294 = 0) (h1 : (z294 = 1 → z299 = f_h1)) (h2 : (z294 = 2 → z299 = f_h2)) (h3 : (z294 = 3 → z299 = f_h3)) (h4 : (z294 = 4 → z299 = f_h4)) (h5 : (z294 = 5 → z299 = f_h5)) (h6 : (z294 = 6 → z299 = f_h6)) (h7 : (z294 = 1 → z302 = f_v1)) (h8 : (z294 = 2 → z302 = f_v2)) (h9 : (z294 = 3 → z302 = f_v3)) (h10 : (z294 = 4 → z302 = f_v4)) (h11 : (z294 = 5 → z302 = f_v5)) (h12 : (z294 = 6 → z302 = f_v6)) (h13 : ¬ z299 = z302) (h14 : z431 < z306) (h15 : f_h1 ≤ f_v1) (h16 : f_h2 ≤ f_v2) (h17 : f_h3 ≤ f_v3) (h18 : f_h4 ≤ f_v4) (h19 : f_h5 ≤ f_v5) (h20 : f_h6 ≤ f_v6) (h21 : z306 = (z309 - 1)) (h22 : 0 ≤ f_h1 ∧ f_h1 ≤ 5) (h23 : 0 ≤ f_h2 ∧ f_h2 ≤ 5) (h24 : 0 ≤ f_h3 ∧ f_h3 ≤ 5) (h25 : 0 ≤ f_h4 ∧ f_h4 ≤ 5) (h26 : 0 ≤ f_h5 ∧ f_h5 ≤ 5) (h27 : 0 ≤ f_h6 ∧ f_h6 ≤ 5) (h28 : 0 ≤ f_v1 ∧ f_v1 ≤ 5) (h29 : 0 ≤ f_v2 ∧ f_v2 ≤ 5) (h30 : 0 ≤ f_v3 ∧ f_v3 ≤ 5) (h31 : 0 ≤ f_v4 ∧ f_v4 ≤ 5) (h32 : 0 ≤ f_v5 ∧ f_v5 ≤ 5) (h33 : 0 ≤ f_v6 ∧ f_v6 ≤ 5) (h34 : 1 ≤ z294 ∧ z294 ≤ 6) (h35 : 0 ≤ z299 ∧ z299 ≤ 5) (h36 : 0 ≤ z302 ∧ z302 ≤ 5) (h37 : 1 ≤ z306 ∧ z306 ≤ 6) (h38 : 1 ≤ z309 ∧ z309 ≤ 7) (h39 : 0 ≤ z431 ∧ z431 ≤ 5) : 0 ≤ ((8 * ((5 * z294) + z299)) + z431) ∧ ((8 * ((5 * z294) + z299)) + z431) < 280 := by omega
theorem vc_X12_isOffered_v_29 {N z306 z309 z431 : Int} (h0 : (7 - z431) < N + 1) (h1 : z431 < z306) (h2 : z306 = (z309 - 1)) (h3 : 1 ≤ z306 ∧ z306 ≤ 6) (h4 : 1 ≤ z309 ∧ z309 ≤ 7) (h5 : 0 ≤ z431 ∧ z431 ≤ 5) : (7 - (z431 + 1)) < N := by omega
theorem vc_X12_isOffered_v_31 {z306 z309 z431 : Int} (h0 : z306 = (z309 - 1)) (h1 : z431 < z306) (h2 : 1 ≤ z306 ∧ z306 ≤ 6) (h3 : 1 ≤ z309 ∧ z309 ≤ 7) (h4 : 0 ≤ z431 ∧ z431 ≤ 5) : 0 ≤ z431 ∧ z431 < z306 := by omega
theorem vc_X12_isOffered_v_32 {f_h1 f_h2 f_h3 f_h4 f_h5 f_h6 f_v1 f_v2 f_v3 f_v4 f_v5 f_v6 z294 z299 z302 z306 z309 z431 : Int} (h0 : ¬ z294 = 0) (h1 : (z294 = 1 → z299 = f_h1)) (h2 : (z294 = 2 → z299 = f_h2)) (h3 : (z294 = 3 → z299 = f_h3)) (h4 : (z294 = 4 → z299 = f_h4)) (h5 : (z294 = 5 → z299 = f_h5)) (h6 : (z294 = 6 → z299 = f_h6)) (h7 : (z294 = 1 → z302 = f_v1)) (h8 : (z294 = 2 → z302 = f_v2)) (h9 : (z294 = 3 → z302 = f_v3)) (h10 : (z294 = 4 → z302 = f_v4)) (h11 : (z294 = 5 → z302 = f_v5)) (h12 : (z294 = 6 → z302 = f_v6)) (h13 : ¬ z299 = z302) (h14 : z431 < z306) (h15 : f_h1 ≤ f_v1) (h16 : f_h2 ≤ f_v2) (h17 : f_h3 ≤ f_v3) (h18 : f_h4 ≤ f_v4) (h19 : f_h5 ≤ f_v5) (h20 : f_h6 ≤ f_v6) (h21 : z306 = (z309 - 1)) (h22 : 0 ≤ f_h1 ∧ f_h1 ≤ 5) (h23 : 0 ≤ f_h2 ∧ f_h2 ≤ 5) (h24 : 0 ≤ f_h3 ∧ f_h3 ≤ 5) (h25 : 0 ≤ f_h4 ∧ f_h4 ≤ 5) (h26 : 0 ≤ f_h5 ∧ f_h5 ≤ 5) (h27 : 0 ≤ f_h6 ∧ f_h6 ≤ 5) (h28 : 0 ≤ f_v1 ∧ f_v1 ≤ 5) (h29 : 0 ≤ f_v2 ∧ f_v2 ≤ 5) (h30 : 0 ≤ f_v3 ∧ f_v3 ≤ 5) (h31 : 0 ≤ f_v4 ∧ f_v4 ≤ 5) (h32 : 0 ≤ f_v5 ∧ f_v5 ≤ 5) (h33 : 0 ≤ f_v6 ∧ f_v6 ≤ 5) (h34 : 1 ≤ z294 ∧ z294 ≤ 6) (h35 : 0 ≤ z299 ∧ z299 ≤ 5) (h36 : 0 ≤ z302 ∧ z302 ≤ 5) (h37 : 1 ≤ z306 ∧ z306 ≤ 6) (h38 : 1 ≤ z309 ∧ z309 ≤ 7) (h39 : 0 ≤ z431 ∧ z431 ≤ 5) : 0 ≤ ((5 * z294) + z299) ∧ ((8 * ((5 * z294) + z299)) + z431) = 8 * ((5 * z294) + z299) + z431 := by omega
theorem vc_X12_isOffered_v_33 {p1 z306 z309 z431 : Int} (h0 : z431 < z306) (h1 : z306 = (z309 - 1)) (h2 : 5 ≤ p1 ∧ p1 ≤ 34) (h3 : 1 ≤ z306 ∧ z306 ≤ 6) (h4 : 1 ≤ z309 ∧ z309 ≤ 7) (h5 : 0 ≤ z431 ∧ z431 ≤ 5) : 0 ≤ p1 ∧ (((8 * p1) + z431) + 1) = 8 * p1 + z431 + 1 := by omega
theorem vc_X12_isOffered_v_34 {z448 z451 : Int} (h0 : ¬ z448 = z451) (h1 : 0 ≤ z448 ∧ z448 ≤ 6) (h2 : 0 ≤ z451 ∧ z451 ≤ 6) : (z448 = z451 ∧ (0 : Int) = 1) ∨ (¬ z448 = z451 ∧ ¬ (0 : Int) = 1) := by omega
theorem vc_X12_isOffered_v_35 {z448 z451 : Int} (h0 : z448 = z451) (h1 : 0 ≤ z448 ∧ z448 ≤ 6) (h2 : 0 ≤ z451 ∧ z451 ≤ 6) : (z448 = z451 ∧ (1 : Int) = 1) ∨ (¬ z448 = z451 ∧ ¬ (1 : Int) = 1) := by omega
theorem vc_X12_isOffered_v_37 {z306 z309 : Int} (h0 : z306 = (z309 - 1)) (h1 : 0 ≤ z306 ∧ z306 ≤ 6) (h2 : 1 ≤ z309 ∧ z309 ≤ 7) : (z306 = z309 - 1 ∧ (1 : Int) = 1) ∨ (¬ z306 = z309 - 1 ∧ ¬ (1 : Int) = 1) := by omega
theorem vc_X12_isOffered_v_38 {f_h1 f_h2 f_h3 f_h4 f_h5 f_h6 f_v1 f_v2 f_v3 f_v4 f_v5 f_v6 z294 z299 z302 : Int} (h0 : ¬ z294 = 0) (h1 : (z294 = 1 → z299 = f_h1)) (h2 : (z294 = 2 → z299 = f_h2)) (h3 : (z294 = 3 → z299 = f_h3)) (h4 : (z294 = 4 → z299 = f_h4)) (h5 : (z294 = 5 → z299 = f_h5)) (h6 : (z294 = 6 → z299 = f_h6)) (h7 : (z294 = 1 → z302 = f_v1)) (h8 : (z294 = 2 → z302 = f_v2)) (h9 : (z294 = 3 → z302 = f_v3)) (h10 : (z294 = 4 → z302 = f_v4)) (h11 : (z294 = 5 → z302 = f_v5)) (h12 : (z294 = 6 → z302 = f_v6)) (h13 : f_h1 ≤ f_v1) (h14 : f_h2 ≤ f_v2) (h15 : f_h3 ≤ f_v3) (h16 : f_h4 ≤ f_v4) (h17 : f_h5 ≤ f_v5) (h18 : f_h6 ≤ f_v6) (h19 : z299 = z302) (h20 : 0 ≤ f_h1 ∧ f_h1 ≤ 5) (h21 : 0 ≤ f_h2 ∧ f_h2 ≤ 5) (h22 : 0 ≤ f_h3 ∧ f_h3 ≤ 5) (h23 : 0 ≤ f_h4 ∧ f_h4 ≤ 5) (h24 : 0 ≤ f_h5 ∧ f_h5 ≤ 5) (h25 : 0 ≤ f_h6 ∧ f_h6 ≤ 5) (h26 : 0 ≤ f_v1 ∧ f_v1 ≤ 5) (h27 : 0 ≤ f_v2 ∧ f_v2 ≤ 5) (h28 : 0 ≤ f_v3 ∧ f_v3 ≤ 5) (h29 : 0 ≤ f_v4 ∧ f_v4 ≤ 5) (h30 : 0 ≤ f_v5 ∧ f_v5 ≤ 5) (h31 : 0 ≤ f_v6 ∧ f_v6 ≤ 5) (h32 : 1 ≤ z294 ∧ z294 ≤ 6) (h33 : 0 ≤ z299 ∧ z299 ≤ 5) (h34 : 0 ≤ z302 ∧ z302 ≤ 5) : ¬ z294 = 0 := by omega
theorem vc_X12_isOffered_v_39 {f_h1 f_h2 f_h3 f_h4 f_h5 f_h6 f_v1 f_v2 f_v3 f_v4 f_v5 f_v6 z294 z299 z302 : Int} (h0 : (z294 = 1 → z299 = f_h1)) (h1 : (z294 = 2 → z299 = f_h2)) (h2 : (z294 = 3 → z299 = f_h3)) (h3 : (z294 = 4 → z299 = f_h4)) (h4 : (z294 = 5 → z299 = f_h5)) (h5 : (z294 = 6 → z299 = f_h6)) (h6 : (z294 = 1 → z302 = f_v1)) (h7 : (z294 = 2 → z302 = f_v2)) (h8 : (z294 = 3 → z302 = f_v3)) (h9 : (z294 = 4 → z302 = f_v4)) (h10 : (z294 = 5 → z302 = f_v5)) (h11 : (z294 = 6 → z302 = f_v6)) (h12 : z299 = z302) (h13 : f_h1 ≤ f_v1) (h14 : f_h2 ≤ f_v2) (h15 : f_h3 ≤ f_v3) (h16 : f_h4 ≤ f_v4) (h17 : f_h5 ≤ f_v5) (h18 : f_h6 ≤ f_v6) (h19 : ¬ z294 = 0) (h20 : 0 ≤ f_h1 ∧ f_h1 ≤ 5) (h21 : 0 ≤ f_h2 ∧ f_h2 ≤ 5) (h22 : 0 ≤ f_h3 ∧ f_h3 ≤ 5) (h23 : 0 ≤ f_h4 ∧ f_h4 ≤ 5) (h24 : 0 ≤ f_h5 ∧ f_h5 ≤ 5) (h25 : 0 ≤ f_h6 ∧ f_h6 ≤ 5) (h26 : 0 ≤ f_v1 ∧ f_v1 ≤ 5) (h27 : 0 ≤ f_v2 ∧ f_v2 ≤ 5) (h28 : 0 ≤ f_v3 ∧ f_v3 ≤ 5) (h29 : 0 ≤ f_v4 ∧ f_v4 ≤ 5) (h30 : 0 ≤ f_v5 ∧ f_v5 ≤ 5) (h31 : 0 ≤ f_v6 ∧ f_v6 ≤ 5) (h32 : 1 ≤ z294 ∧ z294 ≤ 6) (h33 : 0 ≤ z299 ∧ z299 ≤ 5) (h34 : 0 ≤ z302 ∧ z302 ≤ 5) : z299 = z302 := by omega
theorem vc_X12_isOffered_v_40  : ¬ ((0 : Int) : Int) = (1 : Int) := by omega
theorem vc_X12_isOffered_v_43 {z456 : Int} (h0 : ¬ z456 = 2) (h1 : 0 ≤ z456 ∧ z456 ≤ 7) : (z456 = 2 ∧ (0 : Int) = 1) ∨ (¬ z456 = 2 ∧ ¬ (0 : Int) = 1) := by omega
theorem vc_X12_isOffered_v_45 {z456 : Int} (h0 : z456 = 2) (h1 : 2 ≤ z456 ∧ z456 ≤ 2) : (z456 = 2 ∧ (1 : Int) = 1) ∨ (¬ z456 = 2 ∧ ¬ (1 : Int) = 1) := by omega
set_option maxRecDepth 4000 in
set_option maxHeartbeats 4000000 in
theorem c_X12_isOffered_v {l : Launch} {D : va_G} {c : Nat → ClassId} {H0 : Heap} {sa : Nat × Nat × (Nat → Int32)} {w : mW} {μ : mM} (hw : mWF w) (hT : mT w μ) {p1 : Int} (hp1 : 5 ≤ p1 ∧ p1 ≤ 34) {f_h1 : Int} (q_f_h1 : μ 188 ((1 : Int).toNat) = f_h1) {f_h2 : Int} (q_f_h2 : μ 188 ((2 : Int).toNat) = f_h2) {f_h3 : Int} (q_f_h3 : μ 188 ((3 : Int).toNat) = f_h3) {f_h4 : Int} (q_f_h4 : μ 188 ((4 : Int).toNat) = f_h4) {f_h5 : Int} (q_f_h5 : μ 188 ((5 : Int).toNat) = f_h5) {f_h6 : Int} (q_f_h6 : μ 188 ((6 : Int).toNat) = f_h6) {f_v1 : Int} (q_f_v1 : μ 184 ((1 : Int).toNat) = f_v1) {f_v2 : Int} (q_f_v2 : μ 184 ((2 : Int).toNat) = f_v2) {f_v3 : Int} (q_f_v3 : μ 184 ((3 : Int).toNat) = f_v3) {f_v4 : Int} (q_f_v4 : μ 184 ((4 : Int).toNat) = f_v4) {f_v5 : Int} (q_f_v5 : μ 184 ((5 : Int).toNat) = f_v5) {f_v6 : Int} (q_f_v6 : μ 184 ((6 : Int).toNat) = f_v6) (hq0 : f_h1 ≤ f_v1) (hq1 : f_h2 ≤ f_v2) (hq2 : f_h3 ≤ f_v3) (hq3 : f_h4 ≤ f_v4) (hq4 : f_h5 ≤ f_v5) (hq5 : f_h6 ≤ f_v6) : sC (gG l D c H0 sa) mX12_isOffered 1 0 0 [.ref 106, iv p1] (mk w μ) (qP w μ (fun z => (0 ≤ z ∧ z ≤ 1) ∧ ((z = 1 ↔ offd μ 184 185 186 8 (μ 188) p1.toNat)) ∧ True)) := by
  refine sC.of rfl (by decide) (le_t rfl) ?_
  have ht_f_h1 : (0 ≤ f_h1 ∧ f_h1 ≤ 5) := by rw [← q_f_h1]; exact hT 188 188 (A_188 hw) ((1 : Int).toNat)
  have ht_f_h2 : (0 ≤ f_h2 ∧ f_h2 ≤ 5) := by rw [← q_f_h2]; exact hT 188 188 (A_188 hw) ((2 : Int).toNat)
  have ht_f_h3 : (0 ≤ f_h3 ∧ f_h3 ≤ 5) := by rw [← q_f_h3]; exact hT 188 188 (A_188 hw) ((3 : Int).toNat)
  have ht_f_h4 : (0 ≤ f_h4 ∧ f_h4 ≤ 5) := by rw [← q_f_h4]; exact hT 188 188 (A_188 hw) ((4 : Int).toNat)
  have ht_f_h5 : (0 ≤ f_h5 ∧ f_h5 ≤ 5) := by rw [← q_f_h5]; exact hT 188 188 (A_188 hw) ((5 : Int).toNat)
  have ht_f_h6 : (0 ≤ f_h6 ∧ f_h6 ≤ 5) := by rw [← q_f_h6]; exact hT 188 188 (A_188 hw) ((6 : Int).toNat)
  have ht_f_v1 : (0 ≤ f_v1 ∧ f_v1 ≤ 5) := by rw [← q_f_v1]; exact hT 184 184 (A_184 hw) ((1 : Int).toNat)
  have ht_f_v2 : (0 ≤ f_v2 ∧ f_v2 ≤ 5) := by rw [← q_f_v2]; exact hT 184 184 (A_184 hw) ((2 : Int).toNat)
  have ht_f_v3 : (0 ≤ f_v3 ∧ f_v3 ≤ 5) := by rw [← q_f_v3]; exact hT 184 184 (A_184 hw) ((3 : Int).toNat)
  have ht_f_v4 : (0 ≤ f_v4 ∧ f_v4 ≤ 5) := by rw [← q_f_v4]; exact hT 184 184 (A_184 hw) ((4 : Int).toNat)
  have ht_f_v5 : (0 ≤ f_v5 ∧ f_v5 ≤ 5) := by rw [← q_f_v5]; exact hT 184 184 (A_184 hw) ((5 : Int).toNat)
  have ht_f_v6 : (0 ≤ f_v6 ∧ f_v6 ≤ 5) := by rw [← q_f_v6]; exact hT 184 184 (A_184 hw) ((6 : Int).toNat)
  refine mr_lvE (lv' := [(0, .ref 106), (1, iv p1)]) rfl ?_
  refine sv_aload_n (pc := 0) dX12_isOffered_0 rfl rfl ?_
  refine gf_X12_120 (pc := 1) dX12_isOffered_1 wF_X12_520 (A_106 hw) hT ?_
  refine mr_bipush (pc := 4) (z := 8) dX12_isOffered_4 (by decide) ?_
  refine mr_iload_n (pc := 6) (z := p1) dX12_isOffered_6 rfl rfl ?_
  refine mr_imul (pc := 7) (x := 8) (y := p1) dX12_isOffered_7 ?_
  refine mr_iconst (pc := 8) (z := 1) dX12_isOffered_8 ?_
  refine mr_iadd (pc := 9) (x := (8 * p1)) (y := 1) dX12_isOffered_9 ?_
  refine la_186 (pc := 10) dX12_isOffered_10 (A_186 hw) hT (rIx (n := 280) (rAdd (e := 41) (f := 273) (rMulL (n := 8) (e := 40) (f := 272) hp1 rfl) (rR (x := 1)) rfl) rfl) fun z294 q295 h296 => ?_
  refine mr_istore_n (pc := 11) (lv' := [(2, iv z294), (0, .ref 106), (1, iv p1)]) dX12_isOffered_11 rfl (by decide) rfl ?_
  refine mr_iload_n (pc := 12) (z := z294) dX12_isOffered_12 rfl rfl ?_
  refine mr_if_ne (pc := 13) (tgt := 32) dX12_isOffered_13 (by decide) (r32 h296 rfl) (fun h297 => ?_) (fun h297 => ?_)
  · have h298 : 1 ≤ z294 ∧ z294 ≤ 6 := (vc_X12_isOffered_1 h297 h296)
    refine sv_aload_n (pc := 32) dX12_isOffered_32 rfl rfl ?_
    refine gf_X12_122 (pc := 33) dX12_isOffered_33 wF_X12_526 (A_106 hw) hT ?_
    refine mr_iload_n (pc := 36) (z := z294) dX12_isOffered_36 rfl rfl ?_
    refine la_188 (pc := 37) dX12_isOffered_37 (A_188 hw) hT (rIx (n := 7) h298 rfl) fun z299 q300 h301 => ?_
    refine sv_aload_n (pc := 38) dX12_isOffered_38 rfl rfl ?_
    refine gf_X12_118 (pc := 39) dX12_isOffered_39 wF_X12_514 (A_106 hw) hT ?_
    refine mr_iload_n (pc := 42) (z := z294) dX12_isOffered_42 rfl rfl ?_
    refine la_184 (pc := 43) dX12_isOffered_43 (A_184 hw) hT (rIx (n := 7) h298 rfl) fun z302 q303 h304 => ?_
    refine mr_icmp_ne (pc := 44) (tgt := 49) dX12_isOffered_44 (by decide) (r32 h301 rfl) (r32 h304 rfl) (fun h305 => ?_) (fun h305 => ?_)
    · refine mr_iconst (pc := 49) (z := 5) dX12_isOffered_49 ?_
      refine mr_iload_n (pc := 50) (z := z294) dX12_isOffered_50 rfl rfl ?_
      refine mr_imul (pc := 51) (x := 5) (y := z294) dX12_isOffered_51 ?_
      refine sv_aload_n (pc := 52) dX12_isOffered_52 rfl rfl ?_
      refine gf_X12_122 (pc := 53) dX12_isOffered_53 wF_X12_526 (A_106 hw) hT ?_
      refine mr_iload_n (pc := 56) (z := z294) dX12_isOffered_56 rfl rfl ?_
      refine lk_188 (pc := 57) dX12_isOffered_57 (A_188 hw) (rIx (n := 7) h298 rfl) q300 ?_
      refine mr_iadd (pc := 58) (x := (5 * z294)) (y := z299) dX12_isOffered_58 ?_
      refine mr_istore_n (pc := 59) (lv' := [(3, iv ((5 * z294) + z299)), (2, iv z294), (0, .ref 106), (1, iv p1)]) dX12_isOffered_59 rfl (by decide) rfl ?_
      refine sv_aload_n (pc := 60) dX12_isOffered_60 rfl rfl ?_
      refine gf_X12_119 (pc := 61) dX12_isOffered_61 wF_X12_517 (A_106 hw) hT ?_
      refine mr_iload_n (pc := 64) (z := ((5 * z294) + z299)) dX12_isOffered_64 rfl rfl ?_
      refine la_185 (pc := 65) dX12_isOffered_65 (A_185 hw) hT (vc_X12_isOffered_2 h297 (cgr q300 q_f_h1) (cgr q300 q_f_h2) (cgr q300 q_f_h3) (cgr q300 q_f_h4) (cgr q300 q_f_h5) (cgr q300 q_f_h6) (cgr q303 q_f_v1) (cgr q303 q_f_v2) (cgr q303 q_f_v3) (cgr q303 q_f_v4) (cgr q303 q_f_v5) (cgr q303 q_f_v6) h305 hq0 hq1 hq2 hq3 hq4 hq5 ht_f_h1 ht_f_h2 ht_f_h3 ht_f_h4 ht_f_h5 ht_f_h6 ht_f_v1 ht_f_v2 ht_f_v3 ht_f_v4 ht_f_v5 ht_f_v6 h298 h301 h304) fun z306 q307 h308 => ?_
      refine sv_aload_n (pc := 66) dX12_isOffered_66 rfl rfl ?_
      refine gf_X12_119 (pc := 67) dX12_isOffered_67 wF_X12_517 (A_106 hw) hT ?_
      refine mr_iload_n (pc := 70) (z := p1) dX12_isOffered_70 rfl rfl ?_
      refine la_185 (pc := 71) dX12_isOffered_71 (A_185 hw) hT (rIx (n := 35) hp1 rfl) fun z309 q310 h311 => ?_
      refine mr_iconst (pc := 72) (z := 1) dX12_isOffered_72 ?_
      refine mr_isub (pc := 73) (x := z309) (y := 1) dX12_isOffered_73 ?_
      refine mr_icmp_ne (pc := 74) (tgt := 81) dX12_isOffered_74 (by decide) (r32 h308 rfl) (r32 (rSub (e := (-1)) (f := 6) h311 (rR (x := 1)) rfl) rfl) (fun h312 => ?_) (fun h312 => ?_)
      · refine mr_iconst (pc := 81) (z := 0) dX12_isOffered_81 ?_
        refine mr_istore (pc := 82) (lv' := [(4, iv 0), (3, iv ((5 * z294) + z299)), (2, iv z294), (0, .ref 106), (1, iv p1)]) dX12_isOffered_82 (by decide) rfl ?_
        refine mr_iconst (pc := 84) (z := 0) dX12_isOffered_84 ?_
        refine mr_istore (pc := 85) (lv' := [(5, iv 0), (4, iv 0), (3, iv ((5 * z294) + z299)), (2, iv z294), (0, .ref 106), (1, iv p1)]) dX12_isOffered_85 (by decide) rfl ?_
        have L323 : ∀ (nL323 : Nat) (z322 z321 : Int), True → (0 ≤ z322 ∧ z322 ≤ 0) → (0 ≤ z321 ∧ z321 ≤ 0) → suI μ 185 186 8 p1.toNat (((5 * z294) + z299)).toNat z321 z322 → 1 < (nL323 : Int) → sV (gG l D c H0 sa) mX12_isOffered (sRm 1 0 0) (sZ (gG l D c H0 sa) 0 0 (qP w μ (fun z => (0 ≤ z ∧ z ≤ 1) ∧ ((z = 1 ↔ offd μ 184 185 186 8 (μ 188) p1.toNat)) ∧ True))) 87 [(0, .ref 106), (1, iv p1), (3, iv ((5 * z294) + z299)), (4, iv z322), (5, iv z321)] [] (mk w μ) 0 0 := by
          intro nL323
          induction nL323 with
          | zero => intro z322 z321 _ h324 h325 R329 h330; exact ((vc_X8_lastStanding_2 h330)).elim
          | succ nL323 ih331 =>
            intro z322 z321 _ h324 h325 R329 h330
            refine mr_iload (pc := 87) (z := z321) dX12_isOffered_87 rfl ?_
            refine sv_aload_n (pc := 89) dX12_isOffered_89 rfl rfl ?_
            refine gf_X12_119 (pc := 90) dX12_isOffered_90 wF_X12_517 (A_106 hw) hT ?_
            refine mr_iload_n (pc := 93) (z := ((5 * z294) + z299)) dX12_isOffered_93 rfl rfl ?_
            refine lk_185 (pc := 94) dX12_isOffered_94 (A_185 hw) (vc_X12_isOffered_2 h297 (cgr q300 q_f_h1) (cgr q300 q_f_h2) (cgr q300 q_f_h3) (cgr q300 q_f_h4) (cgr q300 q_f_h5) (cgr q300 q_f_h6) (cgr q303 q_f_v1) (cgr q303 q_f_v2) (cgr q303 q_f_v3) (cgr q303 q_f_v4) (cgr q303 q_f_v5) (cgr q303 q_f_v6) h305 hq0 hq1 hq2 hq3 hq4 hq5 ht_f_h1 ht_f_h2 ht_f_h3 ht_f_h4 ht_f_h5 ht_f_h6 ht_f_v1 ht_f_v2 ht_f_v3 ht_f_v4 ht_f_v5 ht_f_v6 h298 h301 h304) q307 ?_
            refine mr_icmp_ge (pc := 95) (tgt := 145) dX12_isOffered_95 (by decide) (r32 h325 rfl) (r32 h308 rfl) (fun h332 => ?_) (fun h332 => ?_)
            · have h333 : 0 ≤ z306 ∧ z306 ≤ 0 := (vc_X12_isOffered_v_4 h332 h312 h308 h311 h325)
              refine mr_iload (pc := 145) (z := z322) dX12_isOffered_145 rfl ?_
              exact mr_zretP dX12_isOffered_147 rfl (rW (c := 0) (d := 1) h324 rfl) (le_t rfl) (le_t rfl) ⟨(rW (c := 0) (d := 1) h324 rfl), (offd.go q295 (vc_X12_isOffered_v_5 hp1) (vc_X12_isOffered_v_6 h297 (cgr q300 q_f_h1) (cgr q300 q_f_h2) (cgr q300 q_f_h3) (cgr q300 q_f_h4) (cgr q300 q_f_h5) (cgr q300 q_f_h6) (cgr q303 q_f_v1) (cgr q303 q_f_v2) (cgr q303 q_f_v3) (cgr q303 q_f_v4) (cgr q303 q_f_v5) (cgr q303 q_f_v6) hq0 hq1 hq2 hq3 hq4 hq5 h305 ht_f_h1 ht_f_h2 ht_f_h3 ht_f_h4 ht_f_h5 ht_f_h6 ht_f_v1 ht_f_v2 ht_f_v3 ht_f_v4 ht_f_v5 ht_f_v6 h298 h301 h304) q300 q303 (vc_X12_isOffered_v_7 (cgr q300 q_f_h1) (cgr q300 q_f_h2) (cgr q300 q_f_h3) (cgr q300 q_f_h4) (cgr q300 q_f_h5) (cgr q300 q_f_h6) (cgr q303 q_f_v1) (cgr q303 q_f_v2) (cgr q303 q_f_v3) (cgr q303 q_f_v4) (cgr q303 q_f_v5) (cgr q303 q_f_v6) h305 hq0 hq1 hq2 hq3 hq4 hq5 h297 ht_f_h1 ht_f_h2 ht_f_h3 ht_f_h4 ht_f_h5 ht_f_h6 ht_f_v1 ht_f_v2 ht_f_v3 ht_f_v4 ht_f_v5 ht_f_v6 h298 h301 h304) (vc_X12_isOffered_v_8 h297 (cgr q300 q_f_h1) (cgr q300 q_f_h2) (cgr q300 q_f_h3) (cgr q300 q_f_h4) (cgr q300 q_f_h5) (cgr q300 q_f_h6) (cgr q303 q_f_v1) (cgr q303 q_f_v2) (cgr q303 q_f_v3) (cgr q303 q_f_v4) (cgr q303 q_f_v5) (cgr q303 q_f_v6) h305 hq0 hq1 hq2 hq3 hq4 hq5 ht_f_h1 ht_f_h2 ht_f_h3 ht_f_h4 ht_f_h5 ht_f_h6 ht_f_v1 ht_f_v2 ht_f_v3 ht_f_v4 ht_f_v5 ht_f_v6 h298 h301 h304) R329 (vc_X12_isOffered_v_9 h324) q307 (vc_X12_isOffered_v_10 h312 h332 h333 h311 h325 h324)), trivial⟩
            have h334 : 1 ≤ z306 ∧ z306 ≤ 7 := (vc_X12_isOffered_v_11 h332 h312 h308 h311 h325)
            refine mr_iload (pc := 98) (z := z322) dX12_isOffered_98 rfl ?_
            refine mr_if_eq (pc := 100) (tgt := 145) dX12_isOffered_100 (by decide) (r32 h324 rfl) (fun _ => ?_) (fun h => ((vc_X10_firstWrongStep_7 h h324)).elim)
            refine mr_iload (pc := 145) (z := z322) dX12_isOffered_145 rfl ?_
            exact mr_zretP dX12_isOffered_147 rfl (rW (c := 0) (d := 1) h324 rfl) (le_t rfl) (le_t rfl) ⟨(rW (c := 0) (d := 1) h324 rfl), (offd.go q295 (vc_X12_isOffered_v_5 hp1) (vc_X12_isOffered_v_6 h297 (cgr q300 q_f_h1) (cgr q300 q_f_h2) (cgr q300 q_f_h3) (cgr q300 q_f_h4) (cgr q300 q_f_h5) (cgr q300 q_f_h6) (cgr q303 q_f_v1) (cgr q303 q_f_v2) (cgr q303 q_f_v3) (cgr q303 q_f_v4) (cgr q303 q_f_v5) (cgr q303 q_f_v6) hq0 hq1 hq2 hq3 hq4 hq5 h305 ht_f_h1 ht_f_h2 ht_f_h3 ht_f_h4 ht_f_h5 ht_f_h6 ht_f_v1 ht_f_v2 ht_f_v3 ht_f_v4 ht_f_v5 ht_f_v6 h298 h301 h304) q300 q303 (vc_X12_isOffered_v_7 (cgr q300 q_f_h1) (cgr q300 q_f_h2) (cgr q300 q_f_h3) (cgr q300 q_f_h4) (cgr q300 q_f_h5) (cgr q300 q_f_h6) (cgr q303 q_f_v1) (cgr q303 q_f_v2) (cgr q303 q_f_v3) (cgr q303 q_f_v4) (cgr q303 q_f_v5) (cgr q303 q_f_v6) h305 hq0 hq1 hq2 hq3 hq4 hq5 h297 ht_f_h1 ht_f_h2 ht_f_h3 ht_f_h4 ht_f_h5 ht_f_h6 ht_f_v1 ht_f_v2 ht_f_v3 ht_f_v4 ht_f_v5 ht_f_v6 h298 h301 h304) (vc_X12_isOffered_v_8 h297 (cgr q300 q_f_h1) (cgr q300 q_f_h2) (cgr q300 q_f_h3) (cgr q300 q_f_h4) (cgr q300 q_f_h5) (cgr q300 q_f_h6) (cgr q303 q_f_v1) (cgr q303 q_f_v2) (cgr q303 q_f_v3) (cgr q303 q_f_v4) (cgr q303 q_f_v5) (cgr q303 q_f_v6) h305 hq0 hq1 hq2 hq3 hq4 hq5 ht_f_h1 ht_f_h2 ht_f_h3 ht_f_h4 ht_f_h5 ht_f_h6 ht_f_v1 ht_f_v2 ht_f_v3 ht_f_v4 ht_f_v5 ht_f_v6 h298 h301 h304) R329 (vc_X12_isOffered_v_9 h324) q307 (vc_X12_isOffered_v_13 h312 h332 h334 h311 h325 h324)), trivial⟩
        refine mr_lvS (lv' := [(0, .ref 106), (1, iv p1), (3, iv ((5 * z294) + z299)), (4, iv 0), (5, iv 0)]) (List.forall_mem_cons.mpr ⟨rfl, List.forall_mem_cons.mpr ⟨rfl, List.forall_mem_cons.mpr ⟨rfl, List.forall_mem_cons.mpr ⟨rfl, List.forall_mem_cons.mpr ⟨rfl, fun _ h => absurd h List.not_mem_nil⟩⟩⟩⟩⟩) ?_
        exact L323 2 0 0 trivial (rR (x := 0)) (rR (x := 0)) (suI.start q307 q310 vc_X12_isOffered_v_15 (vc_X12_isOffered_v_16 h312 h308 h311)) vc_X8_lastStanding_7
      have h335 : 0 ≤ z306 ∧ z306 ≤ 6 := (vc_X12_isOffered_11 h312 h308 h311)
      have h336 : 1 ≤ z309 ∧ z309 ≤ 7 := (vc_X12_isOffered_12 h312 h335 h311)
      refine mr_iconst (pc := 77) (z := 1) dX12_isOffered_77 ?_
      refine sv_goto (pc := 78) (tgt := 82) dX12_isOffered_78 (by decide) ?_
      refine mr_istore (pc := 82) (lv' := [(4, iv 1), (3, iv ((5 * z294) + z299)), (2, iv z294), (0, .ref 106), (1, iv p1)]) dX12_isOffered_82 (by decide) rfl ?_
      refine mr_iconst (pc := 84) (z := 0) dX12_isOffered_84 ?_
      refine mr_istore (pc := 85) (lv' := [(5, iv 0), (4, iv 1), (3, iv ((5 * z294) + z299)), (2, iv z294), (0, .ref 106), (1, iv p1)]) dX12_isOffered_85 (by decide) rfl ?_
      have L433 : ∀ (nL433 : Nat) (z432 z431 : Int), True → (0 ≤ z432 ∧ z432 ≤ 1) → (0 ≤ z431 ∧ z431 ≤ 6) → suI μ 185 186 8 p1.toNat (((5 * z294) + z299)).toNat z431 z432 → (7 - z431) < (nL433 : Int) → sV (gG l D c H0 sa) mX12_isOffered (sRm 1 0 0) (sZ (gG l D c H0 sa) 0 0 (qP w μ (fun z => (0 ≤ z ∧ z ≤ 1) ∧ ((z = 1 ↔ offd μ 184 185 186 8 (μ 188) p1.toNat)) ∧ True))) 87 [(0, .ref 106), (1, iv p1), (3, iv ((5 * z294) + z299)), (4, iv z432), (5, iv z431)] [] (mk w μ) 0 0 := by
        intro nL433
        induction nL433 with
        | zero => intro z432 z431 _ h434 h435 R439 h440; exact ((vc_X12_same_14 h440 h435)).elim
        | succ nL433 ih441 =>
          intro z432 z431 _ h434 h435 R439 h440
          refine mr_iload (pc := 87) (z := z431) dX12_isOffered_87 rfl ?_
          refine sv_aload_n (pc := 89) dX12_isOffered_89 rfl rfl ?_
          refine gf_X12_119 (pc := 90) dX12_isOffered_90 wF_X12_517 (A_106 hw) hT ?_
          refine mr_iload_n (pc := 93) (z := ((5 * z294) + z299)) dX12_isOffered_93 rfl rfl ?_
          refine lk_185 (pc := 94) dX12_isOffered_94 (A_185 hw) (vc_X12_isOffered_2 h297 (cgr q300 q_f_h1) (cgr q300 q_f_h2) (cgr q300 q_f_h3) (cgr q300 q_f_h4) (cgr q300 q_f_h5) (cgr q300 q_f_h6) (cgr q303 q_f_v1) (cgr q303 q_f_v2) (cgr q303 q_f_v3) (cgr q303 q_f_v4) (cgr q303 q_f_v5) (cgr q303 q_f_v6) h305 hq0 hq1 hq2 hq3 hq4 hq5 ht_f_h1 ht_f_h2 ht_f_h3 ht_f_h4 ht_f_h5 ht_f_h6 ht_f_v1 ht_f_v2 ht_f_v3 ht_f_v4 ht_f_v5 ht_f_v6 h298 h301 h304) q307 ?_
          refine mr_icmp_ge (pc := 95) (tgt := 145) dX12_isOffered_95 (by decide) (r32 h435 rfl) (r32 h335 rfl) (fun h442 => ?_) (fun h442 => ?_)
          · refine mr_iload (pc := 145) (z := z432) dX12_isOffered_145 rfl ?_
            exact mr_zretP dX12_isOffered_147 rfl h434 (le_t rfl) (le_t rfl) ⟨h434, (offd.go q295 (vc_X12_isOffered_v_5 hp1) (vc_X12_isOffered_v_6 h297 (cgr q300 q_f_h1) (cgr q300 q_f_h2) (cgr q300 q_f_h3) (cgr q300 q_f_h4) (cgr q300 q_f_h5) (cgr q300 q_f_h6) (cgr q303 q_f_v1) (cgr q303 q_f_v2) (cgr q303 q_f_v3) (cgr q303 q_f_v4) (cgr q303 q_f_v5) (cgr q303 q_f_v6) hq0 hq1 hq2 hq3 hq4 hq5 h305 ht_f_h1 ht_f_h2 ht_f_h3 ht_f_h4 ht_f_h5 ht_f_h6 ht_f_v1 ht_f_v2 ht_f_v3 ht_f_v4 ht_f_v5 ht_f_v6 h298 h301 h304) q300 q303 (vc_X12_isOffered_v_7 (cgr q300 q_f_h1) (cgr q300 q_f_h2) (cgr q300 q_f_h3) (cgr q300 q_f_h4) (cgr q300 q_f_h5) (cgr q300 q_f_h6) (cgr q303 q_f_v1) (cgr q303 q_f_v2) (cgr q303 q_f_v3) (cgr q303 q_f_v4) (cgr q303 q_f_v5) (cgr q303 q_f_v6) h305 hq0 hq1 hq2 hq3 hq4 hq5 h297 ht_f_h1 ht_f_h2 ht_f_h3 ht_f_h4 ht_f_h5 ht_f_h6 ht_f_v1 ht_f_v2 ht_f_v3 ht_f_v4 ht_f_v5 ht_f_v6 h298 h301 h304) (vc_X12_isOffered_v_8 h297 (cgr q300 q_f_h1) (cgr q300 q_f_h2) (cgr q300 q_f_h3) (cgr q300 q_f_h4) (cgr q300 q_f_h5) (cgr q300 q_f_h6) (cgr q303 q_f_v1) (cgr q303 q_f_v2) (cgr q303 q_f_v3) (cgr q303 q_f_v4) (cgr q303 q_f_v5) (cgr q303 q_f_v6) h305 hq0 hq1 hq2 hq3 hq4 hq5 ht_f_h1 ht_f_h2 ht_f_h3 ht_f_h4 ht_f_h5 ht_f_h6 ht_f_v1 ht_f_v2 ht_f_v3 ht_f_v4 ht_f_v5 ht_f_v6 h298 h301 h304) R439 (vc_X12_isOffered_v_20 h434) q307 (vc_X12_isOffered_v_21 h312 h442 h335 h336 h435 h434)), trivial⟩
          have h443 : 0 ≤ z431 ∧ z431 ≤ 5 := (vc_X12_isOffered_v_22 h442 h312 h335 h336 h435)
          have h444 : 1 ≤ z306 ∧ z306 ≤ 6 := (vc_X12_isOffered_v_23 h442 h312 h335 h336 h443)
          refine mr_iload (pc := 98) (z := z432) dX12_isOffered_98 rfl ?_
          refine mr_if_eq (pc := 100) (tgt := 145) dX12_isOffered_100 (by decide) (r32 h434 rfl) (fun h445 => ?_) (fun h445 => ?_)
          · have h446 : 0 ≤ z432 ∧ z432 ≤ 0 := (vc_X12_ring_22 h445 h434)
            refine mr_iload (pc := 145) (z := z432) dX12_isOffered_145 rfl ?_
            exact mr_zretP dX12_isOffered_147 rfl (rW (c := 0) (d := 1) h446 rfl) (le_t rfl) (le_t rfl) ⟨(rW (c := 0) (d := 1) h446 rfl), (offd.go q295 (vc_X12_isOffered_v_5 hp1) (vc_X12_isOffered_v_6 h297 (cgr q300 q_f_h1) (cgr q300 q_f_h2) (cgr q300 q_f_h3) (cgr q300 q_f_h4) (cgr q300 q_f_h5) (cgr q300 q_f_h6) (cgr q303 q_f_v1) (cgr q303 q_f_v2) (cgr q303 q_f_v3) (cgr q303 q_f_v4) (cgr q303 q_f_v5) (cgr q303 q_f_v6) hq0 hq1 hq2 hq3 hq4 hq5 h305 ht_f_h1 ht_f_h2 ht_f_h3 ht_f_h4 ht_f_h5 ht_f_h6 ht_f_v1 ht_f_v2 ht_f_v3 ht_f_v4 ht_f_v5 ht_f_v6 h298 h301 h304) q300 q303 (vc_X12_isOffered_v_7 (cgr q300 q_f_h1) (cgr q300 q_f_h2) (cgr q300 q_f_h3) (cgr q300 q_f_h4) (cgr q300 q_f_h5) (cgr q300 q_f_h6) (cgr q303 q_f_v1) (cgr q303 q_f_v2) (cgr q303 q_f_v3) (cgr q303 q_f_v4) (cgr q303 q_f_v5) (cgr q303 q_f_v6) h305 hq0 hq1 hq2 hq3 hq4 hq5 h297 ht_f_h1 ht_f_h2 ht_f_h3 ht_f_h4 ht_f_h5 ht_f_h6 ht_f_v1 ht_f_v2 ht_f_v3 ht_f_v4 ht_f_v5 ht_f_v6 h298 h301 h304) (vc_X12_isOffered_v_8 h297 (cgr q300 q_f_h1) (cgr q300 q_f_h2) (cgr q300 q_f_h3) (cgr q300 q_f_h4) (cgr q300 q_f_h5) (cgr q300 q_f_h6) (cgr q303 q_f_v1) (cgr q303 q_f_v2) (cgr q303 q_f_v3) (cgr q303 q_f_v4) (cgr q303 q_f_v5) (cgr q303 q_f_v6) h305 hq0 hq1 hq2 hq3 hq4 hq5 ht_f_h1 ht_f_h2 ht_f_h3 ht_f_h4 ht_f_h5 ht_f_h6 ht_f_v1 ht_f_v2 ht_f_v3 ht_f_v4 ht_f_v5 ht_f_v6 h298 h301 h304) R439 (vc_X12_isOffered_v_25 h445 h446) q307 (vc_X12_isOffered_v_26 h312 h442 h445 h444 h336 h443 h446)), trivial⟩
          have h447 : 1 ≤ z432 ∧ z432 ≤ 1 := (vc_X12_ring_24 h445 h434)
          refine sv_aload_n (pc := 103) dX12_isOffered_103 rfl rfl ?_
          refine gf_X12_120 (pc := 104) dX12_isOffered_104 wF_X12_520 (A_106 hw) hT ?_
          refine mr_bipush (pc := 107) (z := 8) dX12_isOffered_107 (by decide) ?_
          refine mr_iload_n (pc := 109) (z := ((5 * z294) + z299)) dX12_isOffered_109 rfl rfl ?_
          refine mr_imul (pc := 110) (x := 8) (y := ((5 * z294) + z299)) dX12_isOffered_110 ?_
          refine mr_iload (pc := 111) (z := z431) dX12_isOffered_111 rfl ?_
          refine mr_iadd (pc := 113) (x := (8 * ((5 * z294) + z299))) (y := z431) dX12_isOffered_113 ?_
          refine la_186 (pc := 114) dX12_isOffered_114 (A_186 hw) hT (vc_X12_isOffered_v_28 h297 (cgr q300 q_f_h1) (cgr q300 q_f_h2) (cgr q300 q_f_h3) (cgr q300 q_f_h4) (cgr q300 q_f_h5) (cgr q300 q_f_h6) (cgr q303 q_f_v1) (cgr q303 q_f_v2) (cgr q303 q_f_v3) (cgr q303 q_f_v4) (cgr q303 q_f_v5) (cgr q303 q_f_v6) h305 h442 hq0 hq1 hq2 hq3 hq4 hq5 h312 ht_f_h1 ht_f_h2 ht_f_h3 ht_f_h4 ht_f_h5 ht_f_h6 ht_f_v1 ht_f_v2 ht_f_v3 ht_f_v4 ht_f_v5 ht_f_v6 h298 h301 h304 h444 h336 h443) fun z448 q449 h450 => ?_
          refine sv_aload_n (pc := 115) dX12_isOffered_115 rfl rfl ?_
          refine gf_X12_120 (pc := 116) dX12_isOffered_116 wF_X12_520 (A_106 hw) hT ?_
          refine mr_bipush (pc := 119) (z := 8) dX12_isOffered_119 (by decide) ?_
          refine mr_iload_n (pc := 121) (z := p1) dX12_isOffered_121 rfl rfl ?_
          refine mr_imul (pc := 122) (x := 8) (y := p1) dX12_isOffered_122 ?_
          refine mr_iload (pc := 123) (z := z431) dX12_isOffered_123 rfl ?_
          refine mr_iadd (pc := 125) (x := (8 * p1)) (y := z431) dX12_isOffered_125 ?_
          refine mr_iconst (pc := 126) (z := 1) dX12_isOffered_126 ?_
          refine mr_iadd (pc := 127) (x := ((8 * p1) + z431)) (y := 1) dX12_isOffered_127 ?_
          refine la_186 (pc := 128) dX12_isOffered_128 (A_186 hw) hT (rIx (n := 280) (rAdd (e := 41) (f := 278) (rAdd (e := 40) (f := 277) (rMulL (n := 8) (e := 40) (f := 272) hp1 rfl) h443 rfl) (rR (x := 1)) rfl) rfl) fun z451 q452 h453 => ?_
          refine mr_icmp_ne (pc := 129) (tgt := 136) dX12_isOffered_129 (by decide) (r32 h450 rfl) (r32 h453 rfl) (fun h454 => ?_) (fun h454 => ?_)
          · refine mr_iconst (pc := 136) (z := 0) dX12_isOffered_136 ?_
            refine mr_istore (pc := 137) (lv' := [(4, iv 0), (0, .ref 106), (1, iv p1), (3, iv ((5 * z294) + z299)), (5, iv z431)]) dX12_isOffered_137 (by decide) rfl ?_
            refine mr_iinc (pc := 139) (lv' := [(5, iv (z431 + 1)), (4, iv 0), (0, .ref 106), (1, iv p1), (3, iv ((5 * z294) + z299))]) dX12_isOffered_139 rfl (by decide) rfl ?_
            refine sv_goto (pc := 142) (tgt := 87) dX12_isOffered_142 (by decide) ?_
            refine mr_lvS (lv' := [(0, .ref 106), (1, iv p1), (3, iv ((5 * z294) + z299)), (4, iv 0), (5, iv (z431 + 1))]) (List.forall_mem_cons.mpr ⟨rfl, List.forall_mem_cons.mpr ⟨rfl, List.forall_mem_cons.mpr ⟨rfl, List.forall_mem_cons.mpr ⟨rfl, List.forall_mem_cons.mpr ⟨rfl, fun _ h => absurd h List.not_mem_nil⟩⟩⟩⟩⟩) ?_
            exact ih441 0 (z431 + 1) trivial (rW (c := 0) (d := 1) (rR (x := 0)) rfl) (rW (c := 0) (d := 6) (rAdd (e := 1) (f := 6) h443 (rR (x := 1)) rfl) rfl) (suI.next R439 (vc_X12_best_l_18 h445 h447) q307 (vc_X12_isOffered_v_31 h312 h442 h444 h336 h443) q449 (vc_X12_isOffered_v_32 h297 (cgr q300 q_f_h1) (cgr q300 q_f_h2) (cgr q300 q_f_h3) (cgr q300 q_f_h4) (cgr q300 q_f_h5) (cgr q300 q_f_h6) (cgr q303 q_f_v1) (cgr q303 q_f_v2) (cgr q303 q_f_v3) (cgr q303 q_f_v4) (cgr q303 q_f_v5) (cgr q303 q_f_v6) h305 h442 hq0 hq1 hq2 hq3 hq4 hq5 h312 ht_f_h1 ht_f_h2 ht_f_h3 ht_f_h4 ht_f_h5 ht_f_h6 ht_f_v1 ht_f_v2 ht_f_v3 ht_f_v4 ht_f_v5 ht_f_v6 h298 h301 h304 h444 h336 h443) q452 (vc_X12_isOffered_v_33 h442 h312 hp1 h444 h336 h443) (vc_X12_isOffered_v_34 h454 h450 h453)) (vc_X12_isOffered_v_29 (nS h440) h442 h312 h444 h336 h443)
          refine mr_iconst (pc := 132) (z := 1) dX12_isOffered_132 ?_
          refine sv_goto (pc := 133) (tgt := 137) dX12_isOffered_133 (by decide) ?_
          refine mr_istore (pc := 137) (lv' := [(4, iv 1), (0, .ref 106), (1, iv p1), (3, iv ((5 * z294) + z299)), (5, iv z431)]) dX12_isOffered_137 (by decide) rfl ?_
          refine mr_iinc (pc := 139) (lv' := [(5, iv (z431 + 1)), (4, iv 1), (0, .ref 106), (1, iv p1), (3, iv ((5 * z294) + z299))]) dX12_isOffered_139 rfl (by decide) rfl ?_
          refine sv_goto (pc := 142) (tgt := 87) dX12_isOffered_142 (by decide) ?_
          refine mr_lvS (lv' := [(0, .ref 106), (1, iv p1), (3, iv ((5 * z294) + z299)), (4, iv 1), (5, iv (z431 + 1))]) (List.forall_mem_cons.mpr ⟨rfl, List.forall_mem_cons.mpr ⟨rfl, List.forall_mem_cons.mpr ⟨rfl, List.forall_mem_cons.mpr ⟨rfl, List.forall_mem_cons.mpr ⟨rfl, fun _ h => absurd h List.not_mem_nil⟩⟩⟩⟩⟩) ?_
          exact ih441 1 (z431 + 1) trivial (rW (c := 0) (d := 1) (rR (x := 1)) rfl) (rW (c := 0) (d := 6) (rAdd (e := 1) (f := 6) h443 (rR (x := 1)) rfl) rfl) (suI.next R439 (vc_X12_best_l_18 h445 h447) q307 (vc_X12_isOffered_v_31 h312 h442 h444 h336 h443) q449 (vc_X12_isOffered_v_32 h297 (cgr q300 q_f_h1) (cgr q300 q_f_h2) (cgr q300 q_f_h3) (cgr q300 q_f_h4) (cgr q300 q_f_h5) (cgr q300 q_f_h6) (cgr q303 q_f_v1) (cgr q303 q_f_v2) (cgr q303 q_f_v3) (cgr q303 q_f_v4) (cgr q303 q_f_v5) (cgr q303 q_f_v6) h305 h442 hq0 hq1 hq2 hq3 hq4 hq5 h312 ht_f_h1 ht_f_h2 ht_f_h3 ht_f_h4 ht_f_h5 ht_f_h6 ht_f_v1 ht_f_v2 ht_f_v3 ht_f_v4 ht_f_v5 ht_f_v6 h298 h301 h304 h444 h336 h443) q452 (vc_X12_isOffered_v_33 h442 h312 hp1 h444 h336 h443) (vc_X12_isOffered_v_35 h454 h450 h453)) (vc_X12_isOffered_v_29 (nS h440) h442 h312 h444 h336 h443)
      refine mr_lvS (lv' := [(0, .ref 106), (1, iv p1), (3, iv ((5 * z294) + z299)), (4, iv 1), (5, iv 0)]) (List.forall_mem_cons.mpr ⟨rfl, List.forall_mem_cons.mpr ⟨rfl, List.forall_mem_cons.mpr ⟨rfl, List.forall_mem_cons.mpr ⟨rfl, List.forall_mem_cons.mpr ⟨rfl, fun _ h => absurd h List.not_mem_nil⟩⟩⟩⟩⟩) ?_
      exact L433 8 1 0 trivial (rW (c := 0) (d := 1) (rR (x := 1)) rfl) (rW (c := 0) (d := 6) (rR (x := 0)) rfl) (suI.start q307 q310 vc_X12_isOffered_v_15 (vc_X12_isOffered_v_37 h312 h335 h336)) vc_X12_same_46
    refine mr_iconst (pc := 47) (z := 0) dX12_isOffered_47 ?_
    exact mr_zretP dX12_isOffered_48 rfl (rW (c := 0) (d := 1) (rR (x := 0)) rfl) (le_t rfl) (le_t rfl) ⟨(rW (c := 0) (d := 1) (rR (x := 0)) rfl), (offd.all q295 (vc_X12_isOffered_v_5 hp1) (vc_X12_isOffered_v_38 h297 (cgr q300 q_f_h1) (cgr q300 q_f_h2) (cgr q300 q_f_h3) (cgr q300 q_f_h4) (cgr q300 q_f_h5) (cgr q300 q_f_h6) (cgr q303 q_f_v1) (cgr q303 q_f_v2) (cgr q303 q_f_v3) (cgr q303 q_f_v4) (cgr q303 q_f_v5) (cgr q303 q_f_v6) hq0 hq1 hq2 hq3 hq4 hq5 h305 ht_f_h1 ht_f_h2 ht_f_h3 ht_f_h4 ht_f_h5 ht_f_h6 ht_f_v1 ht_f_v2 ht_f_v3 ht_f_v4 ht_f_v5 ht_f_v6 h298 h301 h304) q300 q303 (vc_X12_isOffered_v_39 (cgr q300 q_f_h1) (cgr q300 q_f_h2) (cgr q300 q_f_h3) (cgr q300 q_f_h4) (cgr q300 q_f_h5) (cgr q300 q_f_h6) (cgr q303 q_f_v1) (cgr q303 q_f_v2) (cgr q303 q_f_v3) (cgr q303 q_f_v4) (cgr q303 q_f_v5) (cgr q303 q_f_v6) h305 hq0 hq1 hq2 hq3 hq4 hq5 h297 ht_f_h1 ht_f_h2 ht_f_h3 ht_f_h4 ht_f_h5 ht_f_h6 ht_f_v1 ht_f_v2 ht_f_v3 ht_f_v4 ht_f_v5 ht_f_v6 h298 h301 h304) vc_X12_isOffered_v_40), trivial⟩
  have h455 : 0 ≤ z294 ∧ z294 ≤ 0 := (vc_X12_isOffered_13 h297 h296)
  refine sv_aload_n (pc := 16) dX12_isOffered_16 rfl rfl ?_
  refine gf_X12_119 (pc := 17) dX12_isOffered_17 wF_X12_517 (A_106 hw) hT ?_
  refine mr_iload_n (pc := 20) (z := p1) dX12_isOffered_20 rfl rfl ?_
  refine la_185 (pc := 21) dX12_isOffered_21 (A_185 hw) hT (rIx (n := 35) hp1 rfl) fun z456 q457 h458 => ?_
  refine mr_iconst (pc := 22) (z := 2) dX12_isOffered_22 ?_
  refine mr_icmp_ne (pc := 23) (tgt := 30) dX12_isOffered_23 (by decide) (r32 h458 rfl) (r32 (rR (x := 2)) rfl) (fun h459 => ?_) (fun h459 => ?_)
  · refine mr_iconst (pc := 30) (z := 0) dX12_isOffered_30 ?_
    exact mr_zretP dX12_isOffered_31 rfl (rW (c := 0) (d := 1) (rR (x := 0)) rfl) (le_t rfl) (le_t rfl) ⟨(rW (c := 0) (d := 1) (rR (x := 0)) rfl), (offd.zero q295 (vc_X12_isOffered_v_5 hp1) (vc_X12_goes_7 h297 h455) q457 (vc_X12_isOffered_v_43 h459 h458)), trivial⟩
  have h460 : 2 ≤ z456 ∧ z456 ≤ 2 := (vc_X12_isOffered_14 h459 h458)
  refine mr_iconst (pc := 26) (z := 1) dX12_isOffered_26 ?_
  refine sv_goto (pc := 27) (tgt := 31) dX12_isOffered_27 (by decide) ?_
  exact mr_zretP dX12_isOffered_31 rfl (rW (c := 0) (d := 1) (rR (x := 1)) rfl) (le_t rfl) (le_t rfl) ⟨(rW (c := 0) (d := 1) (rR (x := 1)) rfl), (offd.zero q295 (vc_X12_isOffered_v_5 hp1) (vc_X12_goes_7 h297 h455) q457 (vc_X12_isOffered_v_45 h459 h460)), trivial⟩
theorem vc_X12_acted_w_3 {f_vp z141 : Int} (h0 : f_vp ≤ z141) (h1 : 0 ≤ f_vp ∧ f_vp ≤ 5) (h2 : 0 ≤ z141 ∧ z141 ≤ 5) : 0 ≤ f_vp ∧ f_vp ≤ z141 := by omega
theorem vc_X12_acted_w_4 {f_vp z141 : Int} (h0 : f_vp ≤ z141) (h1 : 0 ≤ f_vp ∧ f_vp ≤ 5) (h2 : 0 ≤ z141 ∧ z141 ≤ 5) : f_vp = f_vp := by omega
theorem vc_X12_acted_w_15 {f_vp z141 : Int} (h0 : z141 < f_vp) (h1 : 1 ≤ f_vp ∧ f_vp ≤ 5) (h2 : 0 ≤ z141 ∧ z141 ≤ 4) : 0 ≤ z141 := by omega
theorem vc_X12_acted_w_16 {f_vp p1 z141 : Int} (h0 : z141 < f_vp) (h1 : 1 ≤ f_vp ∧ f_vp ≤ 5) (h2 : 1 ≤ p1 ∧ p1 ≤ 6) (h3 : 0 ≤ z141 ∧ z141 ≤ 4) : ((5 * p1) + z141) = 5 * p1 + z141 := by omega
theorem vc_X12_acted_w_17 {z157 : Int} (h0 : z157 = 0) (h1 : 0 ≤ z157 ∧ z157 ≤ 0) : ¬ z157 = 1 := by omega
theorem vc_X12_acted_w_20 {f_vp z141 : Int} (h0 : z141 < f_vp) (h1 : 1 ≤ f_vp ∧ f_vp ≤ 5) (h2 : 0 ≤ z141 ∧ z141 ≤ 4) : 0 ≤ z141 ∧ z141 < f_vp := by omega
set_option maxRecDepth 4000 in
set_option maxHeartbeats 4000000 in
theorem c_X12_acted_w {l : Launch} {D : va_G} {c : Nat → ClassId} {H0 : Heap} {sa : Nat × Nat × (Nat → Int32)} {w : mW} {μ : mM} (hw : mWF w) (hT : mT w μ) {p1 : Int} (hp1 : 1 ≤ p1 ∧ p1 ≤ 6) {f_h1 : Int} (q_f_h1 : μ 188 ((1 : Int).toNat) = f_h1) {f_h2 : Int} (q_f_h2 : μ 188 ((2 : Int).toNat) = f_h2) {f_h3 : Int} (q_f_h3 : μ 188 ((3 : Int).toNat) = f_h3) {f_h4 : Int} (q_f_h4 : μ 188 ((4 : Int).toNat) = f_h4) {f_h5 : Int} (q_f_h5 : μ 188 ((5 : Int).toNat) = f_h5) {f_h6 : Int} (q_f_h6 : μ 188 ((6 : Int).toNat) = f_h6) {f_v1 : Int} (q_f_v1 : μ 184 ((1 : Int).toNat) = f_v1) {f_v2 : Int} (q_f_v2 : μ 184 ((2 : Int).toNat) = f_v2) {f_v3 : Int} (q_f_v3 : μ 184 ((3 : Int).toNat) = f_v3) {f_v4 : Int} (q_f_v4 : μ 184 ((4 : Int).toNat) = f_v4) {f_v5 : Int} (q_f_v5 : μ 184 ((5 : Int).toNat) = f_v5) {f_v6 : Int} (q_f_v6 : μ 184 ((6 : Int).toNat) = f_v6) {f_vp : Int} (q_f_vp : μ 184 (p1.toNat) = f_vp) (hq0 : f_h1 ≤ f_v1) (hq1 : f_h2 ≤ f_v2) (hq2 : f_h3 ≤ f_v3) (hq3 : f_h4 ≤ f_v4) (hq4 : f_h5 ≤ f_v5) (hq5 : f_h6 ≤ f_v6) : sC (gG l D c H0 sa) mX12_acted 2 0 0 [.ref 106, iv p1] (mk w μ) (qP w μ (fun z => (0 ≤ z ∧ z ≤ 5) ∧ (z ≤ f_vp) ∧ (actR μ 184 185 186 8 (μ 188) p1 z) ∧ True)) := by
  refine sC.of rfl (by decide) (le_t rfl) ?_
  have ht_f_h1 : (0 ≤ f_h1 ∧ f_h1 ≤ 5) := by rw [← q_f_h1]; exact hT 188 188 (A_188 hw) ((1 : Int).toNat)
  have ht_f_h2 : (0 ≤ f_h2 ∧ f_h2 ≤ 5) := by rw [← q_f_h2]; exact hT 188 188 (A_188 hw) ((2 : Int).toNat)
  have ht_f_h3 : (0 ≤ f_h3 ∧ f_h3 ≤ 5) := by rw [← q_f_h3]; exact hT 188 188 (A_188 hw) ((3 : Int).toNat)
  have ht_f_h4 : (0 ≤ f_h4 ∧ f_h4 ≤ 5) := by rw [← q_f_h4]; exact hT 188 188 (A_188 hw) ((4 : Int).toNat)
  have ht_f_h5 : (0 ≤ f_h5 ∧ f_h5 ≤ 5) := by rw [← q_f_h5]; exact hT 188 188 (A_188 hw) ((5 : Int).toNat)
  have ht_f_h6 : (0 ≤ f_h6 ∧ f_h6 ≤ 5) := by rw [← q_f_h6]; exact hT 188 188 (A_188 hw) ((6 : Int).toNat)
  have ht_f_v1 : (0 ≤ f_v1 ∧ f_v1 ≤ 5) := by rw [← q_f_v1]; exact hT 184 184 (A_184 hw) ((1 : Int).toNat)
  have ht_f_v2 : (0 ≤ f_v2 ∧ f_v2 ≤ 5) := by rw [← q_f_v2]; exact hT 184 184 (A_184 hw) ((2 : Int).toNat)
  have ht_f_v3 : (0 ≤ f_v3 ∧ f_v3 ≤ 5) := by rw [← q_f_v3]; exact hT 184 184 (A_184 hw) ((3 : Int).toNat)
  have ht_f_v4 : (0 ≤ f_v4 ∧ f_v4 ≤ 5) := by rw [← q_f_v4]; exact hT 184 184 (A_184 hw) ((4 : Int).toNat)
  have ht_f_v5 : (0 ≤ f_v5 ∧ f_v5 ≤ 5) := by rw [← q_f_v5]; exact hT 184 184 (A_184 hw) ((5 : Int).toNat)
  have ht_f_v6 : (0 ≤ f_v6 ∧ f_v6 ≤ 5) := by rw [← q_f_v6]; exact hT 184 184 (A_184 hw) ((6 : Int).toNat)
  have ht_f_vp : (0 ≤ f_vp ∧ f_vp ≤ 5) := by rw [← q_f_vp]; exact hT 184 184 (A_184 hw) (p1.toNat)
  refine mr_lvE (lv' := [(0, .ref 106), (1, iv p1)]) rfl ?_
  refine mr_iconst (pc := 0) (z := 0) dX12_acted_0 ?_
  refine mr_istore_n (pc := 1) (lv' := [(2, iv 0), (0, .ref 106), (1, iv p1)]) dX12_acted_1 rfl (by decide) rfl ?_
  have L142 : ∀ (nL142 : Nat) (z141 : Int), True → (0 ≤ z141 ∧ z141 ≤ 5) → acI μ 184 185 186 8 (μ 188) p1 z141 → (6 - z141) < (nL142 : Int) → sV (gG l D c H0 sa) mX12_acted (sRm 2 0 0) (sZ (gG l D c H0 sa) 0 0 (qP w μ (fun z => (0 ≤ z ∧ z ≤ 5) ∧ (z ≤ f_vp) ∧ (actR μ 184 185 186 8 (μ 188) p1 z) ∧ True))) 2 [(0, .ref 106), (1, iv p1), (2, iv z141)] [] (mk w μ) 0 0 := by
    intro nL142
    induction nL142 with
    | zero => intro z141 _ h143 R147 h148; exact ((vc_X4_actOf_1 h148 h143)).elim
    | succ nL142 ih149 =>
      intro z141 _ h143 R147 h148
      refine mr_iload_n (pc := 2) (z := z141) dX12_acted_2 rfl rfl ?_
      refine sv_aload_n (pc := 3) dX12_acted_3 rfl rfl ?_
      refine gf_X12_118 (pc := 4) dX12_acted_4 wF_X12_514 (A_106 hw) hT ?_
      refine mr_iload_n (pc := 7) (z := p1) dX12_acted_7 rfl rfl ?_
      refine lk_184 (pc := 8) dX12_acted_8 (A_184 hw) (rIx (n := 7) hp1 rfl) q_f_vp ?_
      refine mr_icmp_ge (pc := 9) (tgt := 32) dX12_acted_9 (by decide) (r32 h143 rfl) (r32 ht_f_vp rfl) (fun h150 => ?_) (fun h150 => ?_)
      · refine sv_aload_n (pc := 32) dX12_acted_32 rfl rfl ?_
        refine gf_X12_118 (pc := 33) dX12_acted_33 wF_X12_514 (A_106 hw) hT ?_
        refine mr_iload_n (pc := 36) (z := p1) dX12_acted_36 rfl rfl ?_
        refine lk_184 (pc := 37) dX12_acted_37 (A_184 hw) (rIx (n := 7) hp1 rfl) q_f_vp ?_
        exact mr_iretP dX12_acted_38 rfl (le_t rfl) (le_t rfl) ⟨ht_f_vp, (vc_X12_acted_v_2 h150 ht_f_vp h143), (actR.miss R147 q_f_vp (vc_X12_acted_w_3 h150 ht_f_vp h143) (vc_X12_acted_w_4 h150 ht_f_vp h143)), trivial⟩
      have h151 : 0 ≤ z141 ∧ z141 ≤ 4 := (vc_X4_actOf_2 h150 ht_f_vp h143)
      have h152 : 1 ≤ f_vp ∧ f_vp ≤ 5 := (vc_X4_actOf_3 h150 ht_f_vp h151)
      refine sv_aload_n (pc := 12) dX12_acted_12 rfl rfl ?_
      refine mr_iconst (pc := 13) (z := 5) dX12_acted_13 ?_
      refine mr_iload_n (pc := 14) (z := p1) dX12_acted_14 rfl rfl ?_
      refine mr_imul (pc := 15) (x := 5) (y := p1) dX12_acted_15 ?_
      refine mr_iload_n (pc := 16) (z := z141) dX12_acted_16 rfl rfl ?_
      refine mr_iadd (pc := 17) (x := (5 * p1)) (y := z141) dX12_acted_17 ?_
      refine mr_cVP (pc := 18) (c_X12_isOffered_v hw hT (rAdd (e := 5) (f := 34) (rMulL (n := 5) (e := 5) (f := 30) hp1 rfl) h151 rfl) q_f_h1 q_f_h2 q_f_h3 q_f_h4 q_f_h5 q_f_h6 q_f_v1 q_f_v2 q_f_v3 q_f_v4 q_f_v5 q_f_v6 (vc_X12_acted_v_5 hq0 ht_f_h1 ht_f_v1) (vc_X12_acted_v_5 hq1 ht_f_h2 ht_f_v2) (vc_X12_acted_v_5 hq2 ht_f_h3 ht_f_v3) (vc_X12_acted_v_5 hq3 ht_f_h4 ht_f_v4) (vc_X12_acted_v_5 hq4 ht_f_h5 ht_f_v5) (vc_X12_acted_v_5 hq5 ht_f_h6 ht_f_v6)) (gOk _ _ _ _ _) dX12_acted_18 (tX12_isOffered _ _ _ _ _) ⟨wV_X12_isOffered, wL_X12_isOffered⟩ wM_X12_719 (gCX12 _ _ _ _ _) rfl (A_106 hw) rfl ⟨le_t rfl, le_t rfl⟩ ⟨le_t rfl, le_t rfl⟩ rfl (le_t rfl) fun z157 h156 => ?_
      refine mr_if_eq (pc := 21) (tgt := 26) dX12_acted_21 (by decide) (r32 h156.1 rfl) (fun h158 => ?_) (fun h158 => ?_)
      · have h159 : 0 ≤ z157 ∧ z157 ≤ 0 := (vc_X12_ring_22 h158 h156.1)
        refine mr_iinc (pc := 26) (lv' := [(2, iv (z141 + 1)), (0, .ref 106), (1, iv p1)]) dX12_acted_26 rfl (by decide) rfl ?_
        refine sv_goto (pc := 29) (tgt := 2) dX12_acted_29 (by decide) ?_
        refine mr_lvS (lv' := [(0, .ref 106), (1, iv p1), (2, iv (z141 + 1))]) (List.forall_mem_cons.mpr ⟨rfl, List.forall_mem_cons.mpr ⟨rfl, List.forall_mem_cons.mpr ⟨rfl, fun _ h => absurd h List.not_mem_nil⟩⟩⟩) ?_
        exact ih149 (z141 + 1) trivial (rW (c := 0) (d := 5) (rAdd (e := 1) (f := 5) h151 (rR (x := 1)) rfl) rfl) (acI.next R147 (vc_X12_acted_w_15 h150 h152 h151) (vc_X12_acted_w_16 h150 h152 hp1 h151) (fun g => (vc_X12_acted_w_17 h158 h159) ((h156.2.1).mpr g))) (vc_X4_actOf_6 (nS h148) h150 h152 h151)
      have h160 : 1 ≤ z157 ∧ z157 ≤ 1 := (vc_X12_ring_24 h158 h156.1)
      refine mr_iload_n (pc := 24) (z := z141) dX12_acted_24 rfl rfl ?_
      exact mr_iretP dX12_acted_25 rfl (le_t rfl) (le_t rfl) ⟨(rW (c := 0) (d := 5) h151 rfl), (vc_X12_acted_v_14 h150 h152 h151), (actR.hit R147 q_f_vp (vc_X12_acted_w_20 h150 h152 h151) (vc_X12_acted_w_16 h150 h152 hp1 h151) ((h156.2.1).mp (vc_X12_best_l_18 h158 h160))), trivial⟩
  refine mr_lvS (lv' := [(0, .ref 106), (1, iv p1), (2, iv 0)]) (List.forall_mem_cons.mpr ⟨rfl, List.forall_mem_cons.mpr ⟨rfl, List.forall_mem_cons.mpr ⟨rfl, fun _ h => absurd h List.not_mem_nil⟩⟩⟩) ?_
  exact L142 7 0 trivial (rW (c := 0) (d := 5) (rR (x := 0)) rfl) (acI.zero vc_X12_isOffered_v_15) vc_X4_actOf_9
theorem vc_X12_isRest_v_15 {p1 : Int} (h0 : 0 ≤ p1 ∧ p1 ≤ 46655) : 0 ≤ p1 := by omega
theorem vc_X12_isRest_v_17 {z352 z353 : Int} (h0 : 6 < z352) (h1 : 7 ≤ z352 ∧ z352 ≤ 7) (h2 : 0 ≤ z353 ∧ z353 ≤ 1) : ¬ z353 = 1 ∨ 7 ≤ z352 := by omega
theorem vc_X12_isRest_v_21 {z352 z353 : Int} (h0 : z352 ≤ 6) (h1 : z353 = 0) (h2 : 1 ≤ z352 ∧ z352 ≤ 6) (h3 : 0 ≤ z353 ∧ z353 ≤ 0) : ¬ z353 = 1 ∨ 7 ≤ z352 := by omega
theorem vc_X12_isRest_v_32 {z369 z376 z377 : Int} (h0 : z376 ≤ z369) (h1 : ¬ z376 = z377) (h2 : 0 ≤ z369 ∧ z369 ≤ 5) (h3 : 0 ≤ z376 ∧ z376 ≤ 5) (h4 : 0 ≤ z377 ∧ z377 ≤ 5) : (z376 = z377 ∧ (0 : Int) = 1) ∨ (¬ z376 = z377 ∧ ¬ (0 : Int) = 1) := by omega
theorem vc_X12_isRest_v_33 {z369 z376 z377 : Int} (h0 : z376 ≤ z369) (h1 : z376 = z377) (h2 : 0 ≤ z369 ∧ z369 ≤ 5) (h3 : 0 ≤ z376 ∧ z376 ≤ 5) (h4 : 0 ≤ z377 ∧ z377 ≤ 5) : (z376 = z377 ∧ (1 : Int) = 1) ∨ (¬ z376 = z377 ∧ ¬ (1 : Int) = 1) := by omega
theorem vc_X12_isRest_v_35  : ((1 : Int) : Int) ≤ (1 : Int) := by omega
theorem vc_X12_isRest_v_36  : ((1 : Int) : Int) = (1 : Int) := by omega
set_option maxRecDepth 4000 in
set_option maxHeartbeats 4000000 in
theorem c_X12_isRest_v {l : Launch} {D : va_G} {c : Nat → ClassId} {H0 : Heap} {sa : Nat × Nat × (Nat → Int32)} {w : mW} {μ : mM} (hw : mWF w) (hT : mT w μ) {p1 : Int} (hp1 : 0 ≤ p1 ∧ p1 ≤ 46655) {f_w1 : Int} (q_f_w1 : μ 187 ((1 : Int).toNat) = f_w1) {f_w2 : Int} (q_f_w2 : μ 187 ((2 : Int).toNat) = f_w2) {f_w3 : Int} (q_f_w3 : μ 187 ((3 : Int).toNat) = f_w3) {f_w4 : Int} (q_f_w4 : μ 187 ((4 : Int).toNat) = f_w4) {f_w5 : Int} (q_f_w5 : μ 187 ((5 : Int).toNat) = f_w5) {f_w6 : Int} (q_f_w6 : μ 187 ((6 : Int).toNat) = f_w6) {f_v1 : Int} (q_f_v1 : μ 184 ((1 : Int).toNat) = f_v1) {f_v2 : Int} (q_f_v2 : μ 184 ((2 : Int).toNat) = f_v2) {f_v3 : Int} (q_f_v3 : μ 184 ((3 : Int).toNat) = f_v3) {f_v4 : Int} (q_f_v4 : μ 184 ((4 : Int).toNat) = f_v4) {f_v5 : Int} (q_f_v5 : μ 184 ((5 : Int).toNat) = f_v5) {f_v6 : Int} (q_f_v6 : μ 184 ((6 : Int).toNat) = f_v6) (hq0 : 1 ≤ f_w1) (hq1 : 1 ≤ f_w2) (hq2 : 1 ≤ f_w3) (hq3 : 1 ≤ f_w4) (hq4 : 1 ≤ f_w5) (hq5 : 1 ≤ f_w6) (hwg : wgT μ 187 184) : sC (gG l D c H0 sa) mX12_isRest 3 0 0 [.ref 106, iv p1] (mk w μ) (qI w [188999] μ (fun z μ1 => (0 ≤ z ∧ z ≤ 1) ∧ ((z = 1 ↔ RSt μ 184 185 186 8 p1.toNat)) ∧ True)) := by
  refine sC.of rfl (by decide) (le_t rfl) ?_
  have ht_f_w1 : (0 ≤ f_w1 ∧ f_w1 ≤ 46656) := by rw [← q_f_w1]; exact hT 187 187 (A_187 hw) ((1 : Int).toNat)
  have ht_f_w2 : (0 ≤ f_w2 ∧ f_w2 ≤ 46656) := by rw [← q_f_w2]; exact hT 187 187 (A_187 hw) ((2 : Int).toNat)
  have ht_f_w3 : (0 ≤ f_w3 ∧ f_w3 ≤ 46656) := by rw [← q_f_w3]; exact hT 187 187 (A_187 hw) ((3 : Int).toNat)
  have ht_f_w4 : (0 ≤ f_w4 ∧ f_w4 ≤ 46656) := by rw [← q_f_w4]; exact hT 187 187 (A_187 hw) ((4 : Int).toNat)
  have ht_f_w5 : (0 ≤ f_w5 ∧ f_w5 ≤ 46656) := by rw [← q_f_w5]; exact hT 187 187 (A_187 hw) ((5 : Int).toNat)
  have ht_f_w6 : (0 ≤ f_w6 ∧ f_w6 ≤ 46656) := by rw [← q_f_w6]; exact hT 187 187 (A_187 hw) ((6 : Int).toNat)
  have ht_f_v1 : (0 ≤ f_v1 ∧ f_v1 ≤ 5) := by rw [← q_f_v1]; exact hT 184 184 (A_184 hw) ((1 : Int).toNat)
  have ht_f_v2 : (0 ≤ f_v2 ∧ f_v2 ≤ 5) := by rw [← q_f_v2]; exact hT 184 184 (A_184 hw) ((2 : Int).toNat)
  have ht_f_v3 : (0 ≤ f_v3 ∧ f_v3 ≤ 5) := by rw [← q_f_v3]; exact hT 184 184 (A_184 hw) ((3 : Int).toNat)
  have ht_f_v4 : (0 ≤ f_v4 ∧ f_v4 ≤ 5) := by rw [← q_f_v4]; exact hT 184 184 (A_184 hw) ((4 : Int).toNat)
  have ht_f_v5 : (0 ≤ f_v5 ∧ f_v5 ≤ 5) := by rw [← q_f_v5]; exact hT 184 184 (A_184 hw) ((5 : Int).toNat)
  have ht_f_v6 : (0 ≤ f_v6 ∧ f_v6 ≤ 5) := by rw [← q_f_v6]; exact hT 184 184 (A_184 hw) ((6 : Int).toNat)
  have h1 : 1 ≤ f_w1 ∧ f_w1 ≤ 46656 := (vc_X12_open_r_1 hq0 ht_f_w1)
  have h2 : 1 ≤ f_w2 ∧ f_w2 ≤ 46656 := (vc_X12_open_r_1 hq1 ht_f_w2)
  have h3 : 1 ≤ f_w3 ∧ f_w3 ≤ 46656 := (vc_X12_open_r_1 hq2 ht_f_w3)
  have h4 : 1 ≤ f_w4 ∧ f_w4 ≤ 46656 := (vc_X12_open_r_1 hq3 ht_f_w4)
  have h5 : 1 ≤ f_w5 ∧ f_w5 ≤ 46656 := (vc_X12_open_r_1 hq4 ht_f_w5)
  have h6 : 1 ≤ f_w6 ∧ f_w6 ≤ 46656 := (vc_X12_open_r_1 hq5 ht_f_w6)
  refine mr_lvE (lv' := [(0, .ref 106), (1, iv p1)]) rfl ?_
  refine sv_aload_n (pc := 0) dX12_isRest_0 rfl rfl ?_
  refine mr_iload_n (pc := 1) (z := p1) dX12_isRest_1 rfl rfl ?_
  refine mr_cVV (pc := 2) (c_X12_open_r hw hT hp1 q_f_w1 q_f_w2 q_f_w3 q_f_w4 q_f_w5 q_f_w6 q_f_v1 q_f_v2 q_f_v3 q_f_v4 q_f_v5 q_f_v6 (vc_X12_tries_36 hq0 h1) (vc_X12_tries_36 hq1 h2) (vc_X12_tries_36 hq2 h3) (vc_X12_tries_36 hq3 h4) (vc_X12_tries_36 hq4 h5) (vc_X12_tries_36 hq5 h6)) (gOk _ _ _ _ _) dX12_isRest_2 (tX12_open _ _ _ _ _) ⟨wV_X12_open, wL_X12_open⟩ wM_X12_722 (gCX12 _ _ _ _ _) rfl (A_106 hw) rfl ⟨le_t rfl, le_t rfl⟩ ⟨le_t rfl, le_t rfl⟩ rfl (le_t rfl) fun μ236 T237 F238 h239 => ?_
  obtain ⟨z240, z242, z244, z246, z248, z250, q241, q243, q245, q247, q249, q251, h252⟩ := h239
  have h253 : (0 ≤ z240 ∧ z240 ≤ 5) := by rw [← q241]; exact T237 188 188 (A_188 hw) ((1 : Int).toNat)
  have h254 : (0 ≤ z242 ∧ z242 ≤ 5) := by rw [← q243]; exact T237 188 188 (A_188 hw) ((2 : Int).toNat)
  have h255 : (0 ≤ z244 ∧ z244 ≤ 5) := by rw [← q245]; exact T237 188 188 (A_188 hw) ((3 : Int).toNat)
  have h256 : (0 ≤ z246 ∧ z246 ≤ 5) := by rw [← q247]; exact T237 188 188 (A_188 hw) ((4 : Int).toNat)
  have h257 : (0 ≤ z248 ∧ z248 ≤ 5) := by rw [← q249]; exact T237 188 188 (A_188 hw) ((5 : Int).toNat)
  have h258 : (0 ≤ z250 ∧ z250 ≤ 5) := by rw [← q251]; exact T237 188 188 (A_188 hw) ((6 : Int).toNat)
  have h259 : hasD μ236 188 184 p1 := digs.hasD h252.2.2.2.2.2.2.1 (wgT.of hwg (rowB (A_187 hw) ((mF.call mF.refl F238 rfl) : mF [188999] w μ μ236) rfl rfl) (rowB (A_184 hw) ((mF.call mF.refl F238 rfl) : mF [188999] w μ μ236) rfl rfl))
  refine mr_iconst (pc := 5) (z := 1) dX12_isRest_5 ?_
  refine mr_istore_n (pc := 6) (lv' := [(2, iv 1), (0, .ref 106), (1, iv p1)]) dX12_isRest_6 rfl (by decide) rfl ?_
  refine mr_iconst (pc := 7) (z := 1) dX12_isRest_7 ?_
  refine mr_istore_n (pc := 8) (lv' := [(3, iv 1), (2, iv 1), (0, .ref 106), (1, iv p1)]) dX12_isRest_8 rfl (by decide) rfl ?_
  have L354 : ∀ (nL354 : Nat) (z353 z352 : Int), True → (0 ≤ z353 ∧ z353 ≤ 1) → (1 ≤ z352 ∧ z352 ≤ 7) → rsI μ236 184 185 186 8 (μ236 188) z352 z353 → (8 - z352) < (nL354 : Int) → sV (gG l D c H0 sa) mX12_isRest (sRm 3 0 0) (sZ (gG l D c H0 sa) 0 0 (qI w [188999] μ (fun z μ1 => (0 ≤ z ∧ z ≤ 1) ∧ ((z = 1 ↔ RSt μ 184 185 186 8 p1.toNat)) ∧ True))) 9 [(0, .ref 106), (2, iv z353), (3, iv z352)] [] (mk w μ236) 0 0 := by
    intro nL354
    induction nL354 with
    | zero => intro z353 z352 _ h355 h356 R360 h361; exact ((vc_X4_isRest_1 h361 h356)).elim
    | succ nL354 ih362 =>
      intro z353 z352 _ h355 h356 R360 h361
      refine mr_iload_n (pc := 9) (z := z352) dX12_isRest_9 rfl rfl ?_
      refine mr_bipush (pc := 10) (z := 6) dX12_isRest_10 (by decide) ?_
      refine mr_icmp_gt (pc := 12) (tgt := 45) dX12_isRest_12 (by decide) (r32 h356 rfl) (r32 (rR (x := 6)) rfl) (fun h363 => ?_) (fun h363 => ?_)
      · have h364 : 7 ≤ z352 ∧ z352 ≤ 7 := (vc_X12_tries_55 h363 h356)
        refine mr_iload_n (pc := 45) (z := z353) dX12_isRest_45 rfl rfl ?_
        exact mr_zret dX12_isRest_46 rfl h355 (le_t rfl) (le_t rfl) T237 (mF.call mF.refl F238 rfl) ⟨h355, (rsZ (vc_X12_isRest_v_15 hp1) (fun i => T237 186 186 (A_186 hw) i) h259 (rowB (A_184 hw) ((mF.call mF.refl F238 rfl) : mF [188999] w μ μ236) rfl rfl) (rowB (A_185 hw) ((mF.call mF.refl F238 rfl) : mF [188999] w μ μ236) rfl rfl) (rowB (A_186 hw) ((mF.call mF.refl F238 rfl) : mF [188999] w μ μ236) rfl rfl) R360 (vc_X12_isOffered_v_20 h355) (vc_X12_isRest_v_17 h363 h364 h355)), trivial⟩
      have h365 : 1 ≤ z352 ∧ z352 ≤ 6 := (vc_X12_tries_56 h363 h356)
      refine mr_iload_n (pc := 15) (z := z353) dX12_isRest_15 rfl rfl ?_
      refine mr_if_eq (pc := 16) (tgt := 45) dX12_isRest_16 (by decide) (r32 h355 rfl) (fun h366 => ?_) (fun h366 => ?_)
      · have h367 : 0 ≤ z353 ∧ z353 ≤ 0 := (vc_X12_ring_22 h366 h355)
        refine mr_iload_n (pc := 45) (z := z353) dX12_isRest_45 rfl rfl ?_
        exact mr_zret dX12_isRest_46 rfl (rW (c := 0) (d := 1) h367 rfl) (le_t rfl) (le_t rfl) T237 (mF.call mF.refl F238 rfl) ⟨(rW (c := 0) (d := 1) h367 rfl), (rsZ (vc_X12_isRest_v_15 hp1) (fun i => T237 186 186 (A_186 hw) i) h259 (rowB (A_184 hw) ((mF.call mF.refl F238 rfl) : mF [188999] w μ μ236) rfl rfl) (rowB (A_185 hw) ((mF.call mF.refl F238 rfl) : mF [188999] w μ μ236) rfl rfl) (rowB (A_186 hw) ((mF.call mF.refl F238 rfl) : mF [188999] w μ μ236) rfl rfl) R360 (vc_X12_isOffered_v_25 h366 h367) (vc_X12_isRest_v_21 h363 h366 h365 h367)), trivial⟩
      have h368 : 1 ≤ z353 ∧ z353 ≤ 1 := (vc_X12_ring_24 h366 h355)
      refine sv_aload_n (pc := 19) dX12_isRest_19 rfl rfl ?_
      refine mr_iload_n (pc := 20) (z := z352) dX12_isRest_20 rfl rfl ?_
      obtain ⟨z369, q370⟩ : ∃ z, μ236 184 (z352.toNat) = z := ⟨_, rfl⟩
      have h371 : (0 ≤ z369 ∧ z369 ≤ 5) := by rw [← q370]; exact T237 184 184 (A_184 hw) (z352.toNat)
      refine mr_cVP (pc := 21) (c_X12_acted_w hw T237 h365 q241 q243 q245 q247 q249 q251 (F238.f (A_184 hw) rfl q_f_v1) (F238.f (A_184 hw) rfl q_f_v2) (F238.f (A_184 hw) rfl q_f_v3) (F238.f (A_184 hw) rfl q_f_v4) (F238.f (A_184 hw) rfl q_f_v5) (F238.f (A_184 hw) rfl q_f_v6) q370 (vc_X12_tries_57 h252.1 ht_f_v1 h253) (vc_X12_tries_57 h252.2.1 ht_f_v2 h254) (vc_X12_tries_57 h252.2.2.1 ht_f_v3 h255) (vc_X12_tries_57 h252.2.2.2.1 ht_f_v4 h256) (vc_X12_tries_57 h252.2.2.2.2.1 ht_f_v5 h257) (vc_X12_tries_57 h252.2.2.2.2.2.1 ht_f_v6 h258)) (gOk _ _ _ _ _) dX12_isRest_21 (tX12_acted _ _ _ _ _) ⟨wV_X12_acted, wL_X12_acted⟩ wM_X12_725 (gCX12 _ _ _ _ _) rfl (A_106 hw) rfl ⟨le_t rfl, le_t rfl⟩ ⟨le_t rfl, le_t rfl⟩ rfl (le_t rfl) fun z376 h375 => ?_
      refine sv_aload_n (pc := 24) dX12_isRest_24 rfl rfl ?_
      refine gf_X12_122 (pc := 25) dX12_isRest_25 wF_X12_526 (A_106 hw) T237 ?_
      refine mr_iload_n (pc := 28) (z := z352) dX12_isRest_28 rfl rfl ?_
      refine la_188 (pc := 29) dX12_isRest_29 (A_188 hw) T237 (rIx (n := 7) h365 rfl) fun z377 q378 h379 => ?_
      refine mr_icmp_ne (pc := 30) (tgt := 37) dX12_isRest_30 (by decide) (r32 h375.1 rfl) (r32 h379 rfl) (fun h380 => ?_) (fun h380 => ?_)
      · refine mr_iconst (pc := 37) (z := 0) dX12_isRest_37 ?_
        refine mr_istore_n (pc := 38) (lv' := [(2, iv 0), (0, .ref 106), (3, iv z352)]) dX12_isRest_38 rfl (by decide) rfl ?_
        refine mr_iinc (pc := 39) (lv' := [(3, iv (z352 + 1)), (2, iv 0), (0, .ref 106)]) dX12_isRest_39 rfl (by decide) rfl ?_
        refine sv_goto (pc := 42) (tgt := 9) dX12_isRest_42 (by decide) ?_
        refine mr_lvS (lv' := [(0, .ref 106), (2, iv 0), (3, iv (z352 + 1))]) (List.forall_mem_cons.mpr ⟨rfl, List.forall_mem_cons.mpr ⟨rfl, List.forall_mem_cons.mpr ⟨rfl, fun _ h => absurd h List.not_mem_nil⟩⟩⟩) ?_
        exact ih362 0 (z352 + 1) trivial (rW (c := 0) (d := 1) (rR (x := 0)) rfl) (rW (c := 1) (d := 7) (rAdd (e := 2) (f := 7) h365 (rR (x := 1)) rfl) rfl) (rsI.next R360 (vc_X12_best_l_18 h366 h368) (vc_X12_tries_63 h363 h365) h375.2.2.1 q378 (vc_X12_isRest_v_32 h375.2.1 h380 h371 h375.1 h379)) (vc_X12_tries_69 (nS h361) h363 h365)
      refine mr_iconst (pc := 33) (z := 1) dX12_isRest_33 ?_
      refine sv_goto (pc := 34) (tgt := 38) dX12_isRest_34 (by decide) ?_
      refine mr_istore_n (pc := 38) (lv' := [(2, iv 1), (0, .ref 106), (3, iv z352)]) dX12_isRest_38 rfl (by decide) rfl ?_
      refine mr_iinc (pc := 39) (lv' := [(3, iv (z352 + 1)), (2, iv 1), (0, .ref 106)]) dX12_isRest_39 rfl (by decide) rfl ?_
      refine sv_goto (pc := 42) (tgt := 9) dX12_isRest_42 (by decide) ?_
      refine mr_lvS (lv' := [(0, .ref 106), (2, iv 1), (3, iv (z352 + 1))]) (List.forall_mem_cons.mpr ⟨rfl, List.forall_mem_cons.mpr ⟨rfl, List.forall_mem_cons.mpr ⟨rfl, fun _ h => absurd h List.not_mem_nil⟩⟩⟩) ?_
      exact ih362 1 (z352 + 1) trivial (rW (c := 0) (d := 1) (rR (x := 1)) rfl) (rW (c := 1) (d := 7) (rAdd (e := 2) (f := 7) h365 (rR (x := 1)) rfl) rfl) (rsI.next R360 (vc_X12_best_l_18 h366 h368) (vc_X12_tries_63 h363 h365) h375.2.2.1 q378 (vc_X12_isRest_v_33 h375.2.1 h380 h371 h375.1 h379)) (vc_X12_tries_69 (nS h361) h363 h365)
  refine mr_lvS (lv' := [(0, .ref 106), (2, iv 1), (3, iv 1)]) (List.forall_mem_cons.mpr ⟨rfl, List.forall_mem_cons.mpr ⟨rfl, List.forall_mem_cons.mpr ⟨rfl, fun _ h => absurd h List.not_mem_nil⟩⟩⟩) ?_
  exact L354 8 1 1 trivial (rW (c := 0) (d := 1) (rR (x := 1)) rfl) (rW (c := 1) (d := 7) (rR (x := 1)) rfl) (rsI.start vc_X12_isRest_v_35 vc_X12_isRest_v_36) vc_X4_isRest_6
theorem vc_X12_rests_v_8 {z415 z416 z5 : Int} (h0 : z5 ≤ z415) (h1 : z415 ≤ z5) (h2 : z416 ≤ z415) (h3 : 0 ≤ z415 ∧ z415 ≤ 46656) (h4 : 0 ≤ z416 ∧ z416 ≤ 46656) (h5 : 1 ≤ z5 ∧ z5 ≤ 46656) : 1 ≤ z415 ∧ z415 ≤ 46656 := by omega
theorem vc_X12_rests_v_9 {z415 z416 z5 : Int} (h0 : z415 ≤ z5) (h1 : z416 ≤ z415) (h2 : z5 ≤ z415) (h3 : 1 ≤ z415 ∧ z415 ≤ 46656) (h4 : 0 ≤ z416 ∧ z416 ≤ 46656) (h5 : 1 ≤ z5 ∧ z5 ≤ 46656) : z415 = z5 := by omega
theorem vc_X12_rests_v_10 {z415 z416 z5 : Int} (h0 : z416 ≤ z415) (h1 : z415 ≤ z5) (h2 : z5 ≤ z415) (h3 : 1 ≤ z415 ∧ z415 ≤ 46656) (h4 : 0 ≤ z416 ∧ z416 ≤ 46656) (h5 : 1 ≤ z5 ∧ z5 ≤ 46656) : z416 = z416 := by omega
theorem vc_X12_rests_v_11 {z415 z416 z5 : Int} (h0 : z415 < z5) (h1 : z415 ≤ z5) (h2 : z416 ≤ z415) (h3 : 0 ≤ z415 ∧ z415 ≤ 46656) (h4 : 0 ≤ z416 ∧ z416 ≤ 46656) (h5 : 1 ≤ z5 ∧ z5 ≤ 46656) : 0 ≤ z415 ∧ z415 ≤ 46655 := by omega
theorem vc_X12_rests_v_19 {z415 z416 z5 : Int} (h0 : z415 ≤ z5) (h1 : z416 ≤ z415) (h2 : z415 < z5) (h3 : 0 ≤ z415 ∧ z415 ≤ 46655) (h4 : 0 ≤ z416 ∧ z416 ≤ 46656) (h5 : 1 ≤ z5 ∧ z5 ≤ 46656) : (z415 + 1) ≤ z5 := by omega
theorem vc_X12_rests_v_20 {z415 z416 z5 : Int} (h0 : z415 ≤ z5) (h1 : z416 ≤ z415) (h2 : z415 < z5) (h3 : 0 ≤ z415 ∧ z415 ≤ 46655) (h4 : 0 ≤ z416 ∧ z416 ≤ 46656) (h5 : 1 ≤ z5 ∧ z5 ≤ 46656) : (z416 + 0) ≤ (z415 + 1) := by omega
theorem vc_X12_rests_v_21 {N z415 z416 z5 : Int} (h0 : (46657 - z415) < N + 1) (h1 : z415 ≤ z5) (h2 : z416 ≤ z415) (h3 : z415 < z5) (h4 : 0 ≤ z415 ∧ z415 ≤ 46655) (h5 : 0 ≤ z416 ∧ z416 ≤ 46656) (h6 : 1 ≤ z5 ∧ z5 ≤ 46656) : (46657 - (z415 + 1)) < N := by omega
theorem vc_X12_rests_v_22 {z415 z416 z5 : Int} (h0 : z415 ≤ z5) (h1 : z416 ≤ z415) (h2 : z415 < z5) (h3 : 0 ≤ z415 ∧ z415 ≤ 46655) (h4 : 0 ≤ z416 ∧ z416 ≤ 46656) (h5 : 1 ≤ z5 ∧ z5 ≤ 46656) : 0 ≤ z415 := by omega
theorem vc_X12_rests_v_23 {z415 z416 z482 z5 : Int} (h0 : z416 ≤ z415) (h1 : z482 = 0) (h2 : z415 ≤ z5) (h3 : z415 < z5) (h4 : 0 ≤ z415 ∧ z415 ≤ 46655) (h5 : 0 ≤ z416 ∧ z416 ≤ 46656) (h6 : 0 ≤ z482 ∧ z482 ≤ 0) (h7 : 1 ≤ z5 ∧ z5 ≤ 46656) : (z482 = 1 ∧ (z416 + 0) = z416 + 1) ∨ (¬ z482 = 1 ∧ (z416 + 0) = z416) := by omega
theorem vc_X12_rests_v_25 {z415 z416 z5 : Int} (h0 : z416 ≤ z415) (h1 : z415 ≤ z5) (h2 : z415 < z5) (h3 : 0 ≤ z415 ∧ z415 ≤ 46655) (h4 : 0 ≤ z416 ∧ z416 ≤ 46656) (h5 : 1 ≤ z5 ∧ z5 ≤ 46656) : 0 ≤ (z416 + 1) ∧ (z416 + 1) ≤ 46656 := by omega
theorem vc_X12_rests_v_26 {z415 z416 z5 : Int} (h0 : z415 ≤ z5) (h1 : z416 ≤ z415) (h2 : z415 < z5) (h3 : 0 ≤ z415 ∧ z415 ≤ 46655) (h4 : 0 ≤ z416 ∧ z416 ≤ 46656) (h5 : 1 ≤ z5 ∧ z5 ≤ 46656) : (z416 + 1) ≤ (z415 + 1) := by omega
theorem vc_X12_rests_v_27 {z415 z416 z482 z5 : Int} (h0 : z416 ≤ z415) (h1 : ¬ z482 = 0) (h2 : z415 ≤ z5) (h3 : z415 < z5) (h4 : 0 ≤ z415 ∧ z415 ≤ 46655) (h5 : 0 ≤ z416 ∧ z416 ≤ 46656) (h6 : 1 ≤ z482 ∧ z482 ≤ 1) (h7 : 1 ≤ z5 ∧ z5 ≤ 46656) : (z482 = 1 ∧ (z416 + 1) = z416 + 1) ∨ (¬ z482 = 1 ∧ (z416 + 1) = z416) := by omega
theorem vc_X12_rests_v_28 {z5 : Int} (h0 : 1 ≤ z5 ∧ z5 ≤ 46656) : (0 : Int) ≤ z5 := by omega
set_option maxRecDepth 4000 in
set_option maxHeartbeats 4000000 in
theorem c_X12_rests_v {l : Launch} {D : va_G} {c : Nat → ClassId} {H0 : Heap} {sa : Nat × Nat × (Nat → Int32)} {w : mW} {μ : mM} (hw : mWF w) (hT : mT w μ) : sC (gG l D c H0 sa) mX12_rests 4 0 0 [.ref 106] (mk w μ) (qI w [187999, 188999] μ (fun z μ1 => ((-2147483648) ≤ z ∧ z ≤ 2147483647) ∧ (z = cnP (RSt μ 184 185 186 8) (wgk (μ 184) 6).toNat) ∧ True)) := by
  refine sC.of rfl (by decide) (le_t rfl) ?_
  refine mr_lvE (lv' := [(0, .ref 106)]) rfl ?_
  refine sv_aload_n (pc := 0) dX12_rests_0 rfl rfl ?_
  refine mr_cVI (pc := 1) (c_X12_states_v hw hT) (gOk _ _ _ _ _) dX12_rests_1 (tX12_states _ _ _ _ _) ⟨wV_X12_states, wL_X12_states⟩ wM_X12_728 (gCX12 _ _ _ _ _) rfl (A_106 hw) rfl ⟨le_t rfl, le_t rfl⟩ ⟨le_t rfl, le_t rfl⟩ rfl (le_t rfl) fun z5 μ1 T2 F3 h4 => ?_
  obtain ⟨z6, z8, z10, z12, z14, z16, q7, q9, q11, q13, q15, q17, h18⟩ := h4
  have h19 : (0 ≤ z6 ∧ z6 ≤ 46656) := by rw [← q7]; exact T2 187 187 (A_187 hw) ((1 : Int).toNat)
  have h20 : (0 ≤ z8 ∧ z8 ≤ 46656) := by rw [← q9]; exact T2 187 187 (A_187 hw) ((2 : Int).toNat)
  have h21 : (0 ≤ z10 ∧ z10 ≤ 46656) := by rw [← q11]; exact T2 187 187 (A_187 hw) ((3 : Int).toNat)
  have h22 : (0 ≤ z12 ∧ z12 ≤ 46656) := by rw [← q13]; exact T2 187 187 (A_187 hw) ((4 : Int).toNat)
  have h23 : (0 ≤ z14 ∧ z14 ≤ 46656) := by rw [← q15]; exact T2 187 187 (A_187 hw) ((5 : Int).toNat)
  have h24 : (0 ≤ z16 ∧ z16 ≤ 46656) := by rw [← q17]; exact T2 187 187 (A_187 hw) ((6 : Int).toNat)
  have h25 : 1 ≤ z6 ∧ z6 ≤ 46656 := (vc_X12_open_r_1 h18.2.1 h19)
  have h26 : 1 ≤ z8 ∧ z8 ≤ 46656 := (vc_X12_open_r_1 h18.2.2.1 h20)
  have h27 : 1 ≤ z10 ∧ z10 ≤ 46656 := (vc_X12_open_r_1 h18.2.2.2.1 h21)
  have h28 : 1 ≤ z12 ∧ z12 ≤ 46656 := (vc_X12_open_r_1 h18.2.2.2.2.1 h22)
  have h29 : 1 ≤ z14 ∧ z14 ≤ 46656 := (vc_X12_open_r_1 h18.2.2.2.2.2.1 h23)
  have h30 : 1 ≤ z16 ∧ z16 ≤ 46656 := (vc_X12_open_r_1 h18.2.2.2.2.2.2.1 h24)
  refine mr_istore_n (pc := 4) (lv' := [(1, iv z5), (0, .ref 106)]) dX12_rests_4 rfl (by decide) rfl ?_
  refine mr_iconst (pc := 5) (z := 0) dX12_rests_5 ?_
  refine mr_istore_n (pc := 6) (lv' := [(2, iv 0), (1, iv z5), (0, .ref 106)]) dX12_rests_6 rfl (by decide) rfl ?_
  refine mr_iconst (pc := 7) (z := 0) dX12_rests_7 ?_
  refine mr_istore_n (pc := 8) (lv' := [(3, iv 0), (2, iv 0), (1, iv z5), (0, .ref 106)]) dX12_rests_8 rfl (by decide) rfl ?_
  have L418 : ∀ (nL418 : Nat) (z416 z415 : Int) (μ417 : mM), mT w μ417 → mF [188999] w μ1 μ417 → (0 ≤ z416 ∧ z416 ≤ 46656) → (0 ≤ z415 ∧ z415 ≤ 46656) → (z415 ≤ z5) → (z416 ≤ z415) → wgT μ417 187 184 → (z416 = cnP (RSt μ 184 185 186 8) (z415).toNat) → (46657 - z415) < (nL418 : Int) → sV (gG l D c H0 sa) mX12_rests (sRm 4 0 0) (sZ (gG l D c H0 sa) 0 0 (qI w [187999, 188999] μ (fun z μ1 => ((-2147483648) ≤ z ∧ z ≤ 2147483647) ∧ (z = cnP (RSt μ 184 185 186 8) (wgk (μ 184) 6).toNat) ∧ True))) 9 [(0, .ref 106), (1, iv z5), (2, iv z416), (3, iv z415)] [] (mk w μ417) 0 0 := by
    intro nL418
    induction nL418 with
    | zero => intro z416 z415 μ417 T421 F422 h419 h420 h424 h425 R426 R427 h428; exact ((vc_X4_spread_12 h428 h424 h425 h420 h419 h18.1)).elim
    | succ nL418 ih429 =>
      intro z416 z415 μ417 T421 F422 h419 h420 h424 h425 R426 R427 h428
      refine mr_iload_n (pc := 9) (z := z415) dX12_rests_9 rfl rfl ?_
      refine mr_iload_n (pc := 10) (z := z5) dX12_rests_10 rfl rfl ?_
      refine mr_icmp_ge (pc := 11) (tgt := 36) dX12_rests_11 (by decide) (r32 h420 rfl) (r32 h18.1 rfl) (fun h457 => ?_) (fun h457 => ?_)
      · have h458 : 1 ≤ z415 ∧ z415 ≤ 46656 := (vc_X12_rests_v_8 h457 h424 h425 h420 h419 h18.1)
        refine mr_iload_n (pc := 36) (z := z416) dX12_rests_36 rfl rfl ?_
        exact mr_iret dX12_rests_37 rfl (le_t rfl) (le_t rfl) T421 (mF.call (mF.call mF.refl F3 rfl) F422 rfl) ⟨(rW (c := (-2147483648)) (d := 2147483647) h419 rfl), (cnP.all R427 (h18.2.2.2.2.2.2.2.1).2 (rowB (A_184 hw) ((mF.call mF.refl F3 rfl) : mF [187999] w μ μ1) rfl rfl) (vc_X12_rests_v_9 h424 h425 h457 h458 h419 h18.1) (vc_X12_rests_v_10 h425 h424 h457 h458 h419 h18.1)), trivial⟩
      have h459 : 0 ≤ z415 ∧ z415 ≤ 46655 := (vc_X12_rests_v_11 h457 h424 h425 h420 h419 h18.1)
      refine mr_iload_n (pc := 14) (z := z416) dX12_rests_14 rfl rfl ?_
      refine sv_aload_n (pc := 15) dX12_rests_15 rfl rfl ?_
      refine mr_iload_n (pc := 16) (z := z415) dX12_rests_16 rfl rfl ?_
      obtain ⟨z460, q461⟩ : ∃ z, μ417 184 ((1 : Int).toNat) = z := ⟨_, rfl⟩
      have h462 : (0 ≤ z460 ∧ z460 ≤ 5) := by rw [← q461]; exact T421 184 184 (A_184 hw) ((1 : Int).toNat)
      obtain ⟨z463, q464⟩ : ∃ z, μ417 184 ((2 : Int).toNat) = z := ⟨_, rfl⟩
      have h465 : (0 ≤ z463 ∧ z463 ≤ 5) := by rw [← q464]; exact T421 184 184 (A_184 hw) ((2 : Int).toNat)
      obtain ⟨z466, q467⟩ : ∃ z, μ417 184 ((3 : Int).toNat) = z := ⟨_, rfl⟩
      have h468 : (0 ≤ z466 ∧ z466 ≤ 5) := by rw [← q467]; exact T421 184 184 (A_184 hw) ((3 : Int).toNat)
      obtain ⟨z469, q470⟩ : ∃ z, μ417 184 ((4 : Int).toNat) = z := ⟨_, rfl⟩
      have h471 : (0 ≤ z469 ∧ z469 ≤ 5) := by rw [← q470]; exact T421 184 184 (A_184 hw) ((4 : Int).toNat)
      obtain ⟨z472, q473⟩ : ∃ z, μ417 184 ((5 : Int).toNat) = z := ⟨_, rfl⟩
      have h474 : (0 ≤ z472 ∧ z472 ≤ 5) := by rw [← q473]; exact T421 184 184 (A_184 hw) ((5 : Int).toNat)
      obtain ⟨z475, q476⟩ : ∃ z, μ417 184 ((6 : Int).toNat) = z := ⟨_, rfl⟩
      have h477 : (0 ≤ z475 ∧ z475 ≤ 5) := by rw [← q476]; exact T421 184 184 (A_184 hw) ((6 : Int).toNat)
      refine mr_cVI (pc := 17) (c_X12_isRest_v hw T421 h459 (F422.f (A_187 hw) rfl q7) (F422.f (A_187 hw) rfl q9) (F422.f (A_187 hw) rfl q11) (F422.f (A_187 hw) rfl q13) (F422.f (A_187 hw) rfl q15) (F422.f (A_187 hw) rfl q17) q461 q464 q467 q470 q473 q476 (vc_X12_tries_36 h18.2.1 h25) (vc_X12_tries_36 h18.2.2.1 h26) (vc_X12_tries_36 h18.2.2.2.1 h27) (vc_X12_tries_36 h18.2.2.2.2.1 h28) (vc_X12_tries_36 h18.2.2.2.2.2.1 h29) (vc_X12_tries_36 h18.2.2.2.2.2.2.1 h30) (wgT.of (h18.2.2.2.2.2.2.2.1).1 (rowB (A_187 hw) ((mF.call mF.refl F422 rfl) : mF [188999] w μ1 μ417) rfl rfl) (rowB (A_184 hw) ((mF.call mF.refl F422 rfl) : mF [188999] w μ1 μ417) rfl rfl))) (gOk _ _ _ _ _) dX12_rests_17 (tX12_isRest _ _ _ _ _) ⟨wV_X12_isRest, wL_X12_isRest⟩ wM_X12_731 (gCX12 _ _ _ _ _) rfl (A_106 hw) rfl ⟨le_t rfl, le_t rfl⟩ ⟨le_t rfl, le_t rfl⟩ rfl (le_t rfl) fun z482 μ478 T479 F480 h481 => ?_
      refine mr_if_eq (pc := 20) (tgt := 27) dX12_rests_20 (by decide) (r32 h481.1 rfl) (fun h483 => ?_) (fun h483 => ?_)
      · have h484 : 0 ≤ z482 ∧ z482 ≤ 0 := (vc_X12_ring_22 h483 h481.1)
        refine mr_iconst (pc := 27) (z := 0) dX12_rests_27 ?_
        refine mr_iadd (pc := 28) (x := z416) (y := 0) dX12_rests_28 ?_
        refine mr_istore_n (pc := 29) (lv' := [(2, iv (z416 + 0)), (0, .ref 106), (1, iv z5), (3, iv z415)]) dX12_rests_29 rfl (by decide) rfl ?_
        refine mr_iinc (pc := 30) (lv' := [(3, iv (z415 + 1)), (2, iv (z416 + 0)), (0, .ref 106), (1, iv z5)]) dX12_rests_30 rfl (by decide) rfl ?_
        refine sv_goto (pc := 33) (tgt := 9) dX12_rests_33 (by decide) ?_
        refine mr_lvS (lv' := [(0, .ref 106), (1, iv z5), (2, iv (z416 + 0)), (3, iv (z415 + 1))]) (List.forall_mem_cons.mpr ⟨rfl, List.forall_mem_cons.mpr ⟨rfl, List.forall_mem_cons.mpr ⟨rfl, List.forall_mem_cons.mpr ⟨rfl, fun _ h => absurd h List.not_mem_nil⟩⟩⟩⟩) ?_
        exact ih429 (z416 + 0) (z415 + 1) μ478 T479 (mF.call (mF.call mF.refl F422 rfl) F480 rfl) (rAdd (e := 0) (f := 46656) h419 (rR (x := 0)) rfl) (rW (c := 0) (d := 46656) (rAdd (e := 1) (f := 46656) h459 (rR (x := 1)) rfl) rfl) (vc_X12_rests_v_19 h424 h425 h457 h459 h419 h18.1) (vc_X12_rests_v_20 h424 h425 h457 h459 h419 h18.1) (wgT.of (h18.2.2.2.2.2.2.2.1).1 (rowB (A_187 hw) ((mF.call (mF.call mF.refl F422 rfl) F480 rfl) : mF [188999] w μ1 μ478) rfl rfl) (rowB (A_184 hw) ((mF.call (mF.call mF.refl F422 rfl) F480 rfl) : mF [188999] w μ1 μ478) rfl rfl)) (cnP.step R427 (vc_X12_rests_v_22 h424 h425 h457 h459 h419 h18.1) (Iff.trans h481.2.1 (RSt.cg (rowB (A_184 hw) ((mF.call (mF.call mF.refl F3 rfl) F422 rfl) : mF [187999, 188999] w μ μ417) rfl rfl) (rowB (A_185 hw) ((mF.call (mF.call mF.refl F3 rfl) F422 rfl) : mF [187999, 188999] w μ μ417) rfl rfl) (rowB (A_186 hw) ((mF.call (mF.call mF.refl F3 rfl) F422 rfl) : mF [187999, 188999] w μ μ417) rfl rfl))) (vc_X12_rests_v_23 h425 h483 h424 h457 h459 h419 h484 h18.1)) (vc_X12_rests_v_21 (nS h428) h424 h425 h457 h459 h419 h18.1)
      have h485 : 1 ≤ z482 ∧ z482 ≤ 1 := (vc_X12_ring_24 h483 h481.1)
      refine mr_iconst (pc := 23) (z := 1) dX12_rests_23 ?_
      refine sv_goto (pc := 24) (tgt := 28) dX12_rests_24 (by decide) ?_
      refine mr_iadd (pc := 28) (x := z416) (y := 1) dX12_rests_28 ?_
      refine mr_istore_n (pc := 29) (lv' := [(2, iv (z416 + 1)), (0, .ref 106), (1, iv z5), (3, iv z415)]) dX12_rests_29 rfl (by decide) rfl ?_
      refine mr_iinc (pc := 30) (lv' := [(3, iv (z415 + 1)), (2, iv (z416 + 1)), (0, .ref 106), (1, iv z5)]) dX12_rests_30 rfl (by decide) rfl ?_
      refine sv_goto (pc := 33) (tgt := 9) dX12_rests_33 (by decide) ?_
      refine mr_lvS (lv' := [(0, .ref 106), (1, iv z5), (2, iv (z416 + 1)), (3, iv (z415 + 1))]) (List.forall_mem_cons.mpr ⟨rfl, List.forall_mem_cons.mpr ⟨rfl, List.forall_mem_cons.mpr ⟨rfl, List.forall_mem_cons.mpr ⟨rfl, fun _ h => absurd h List.not_mem_nil⟩⟩⟩⟩) ?_
      exact ih429 (z416 + 1) (z415 + 1) μ478 T479 (mF.call (mF.call mF.refl F422 rfl) F480 rfl) (vc_X12_rests_v_25 h425 h424 h457 h459 h419 h18.1) (rW (c := 0) (d := 46656) (rAdd (e := 1) (f := 46656) h459 (rR (x := 1)) rfl) rfl) (vc_X12_rests_v_19 h424 h425 h457 h459 h419 h18.1) (vc_X12_rests_v_26 h424 h425 h457 h459 h419 h18.1) (wgT.of (h18.2.2.2.2.2.2.2.1).1 (rowB (A_187 hw) ((mF.call (mF.call mF.refl F422 rfl) F480 rfl) : mF [188999] w μ1 μ478) rfl rfl) (rowB (A_184 hw) ((mF.call (mF.call mF.refl F422 rfl) F480 rfl) : mF [188999] w μ1 μ478) rfl rfl)) (cnP.step R427 (vc_X12_rests_v_22 h424 h425 h457 h459 h419 h18.1) (Iff.trans h481.2.1 (RSt.cg (rowB (A_184 hw) ((mF.call (mF.call mF.refl F3 rfl) F422 rfl) : mF [187999, 188999] w μ μ417) rfl rfl) (rowB (A_185 hw) ((mF.call (mF.call mF.refl F3 rfl) F422 rfl) : mF [187999, 188999] w μ μ417) rfl rfl) (rowB (A_186 hw) ((mF.call (mF.call mF.refl F3 rfl) F422 rfl) : mF [187999, 188999] w μ μ417) rfl rfl))) (vc_X12_rests_v_27 h425 h483 h424 h457 h459 h419 h485 h18.1)) (vc_X12_rests_v_21 (nS h428) h424 h425 h457 h459 h419 h18.1)
  refine mr_lvS (lv' := [(0, .ref 106), (1, iv z5), (2, iv 0), (3, iv 0)]) (List.forall_mem_cons.mpr ⟨rfl, List.forall_mem_cons.mpr ⟨rfl, List.forall_mem_cons.mpr ⟨rfl, List.forall_mem_cons.mpr ⟨rfl, fun _ h => absurd h List.not_mem_nil⟩⟩⟩⟩) ?_
  exact L418 46658 0 0 μ1 T2 mF.refl (rW (c := 0) (d := 46656) (rR (x := 0)) rfl) (rW (c := 0) (d := 46656) (rR (x := 0)) rfl) (vc_X12_rests_v_28 h18.1) vc_X12_dropMark_20 (h18.2.2.2.2.2.2.2.1).1 (by rfl) vc_X12_tries_27
theorem vc_X12_rest_v_2 {p1 p2 : Int} (h0 : p1 < 0) (h1 : (-2147483648) ≤ p1 ∧ p1 ≤ (-1)) (h2 : (-2147483648) ≤ p2 ∧ p2 ≤ 2147483647) : p1 < 0 ∨ p2 < 1 ∨ 6 < p2 := by omega
theorem vc_X12_rest_v_4 {p2 z8 : Int} (h0 : ¬ z8 = 0) (h1 : (z8 = 1 → (1 : Int) ≤ p2 ∧ p2 ≤ (6 : Int))) (h2 : (z8 = 0 → p2 < (1 : Int) ∨ (6 : Int) < p2)) (h3 : (-2147483648) ≤ p2 ∧ p2 ≤ 2147483647) (h4 : 0 ≤ z8 ∧ z8 ≤ 1) : 1 ≤ z8 ∧ z8 ≤ 1 := by omega
theorem vc_X12_rest_v_5 {p2 z8 : Int} (h0 : (z8 = 1 → (1 : Int) ≤ p2 ∧ p2 ≤ (6 : Int))) (h1 : (z8 = 0 → p2 < (1 : Int) ∨ (6 : Int) < p2)) (h2 : ¬ z8 = 0) (h3 : (-2147483648) ≤ p2 ∧ p2 ≤ 2147483647) (h4 : 1 ≤ z8 ∧ z8 ≤ 1) : z8 = 1 := by omega
theorem vc_X12_rest_v_6 {p2 z8 : Int} (h0 : (1 : Int) ≤ p2 ∧ p2 ≤ (6 : Int)) (h1 : (z8 = 1 → (1 : Int) ≤ p2 ∧ p2 ≤ (6 : Int))) (h2 : (z8 = 0 → p2 < (1 : Int) ∨ (6 : Int) < p2)) (h3 : (-2147483648) ≤ p2 ∧ p2 ≤ 2147483647) (h4 : 1 ≤ z8 ∧ z8 ≤ 1) : 1 ≤ p2 ∧ p2 ≤ 6 := by omega
theorem vc_X12_rest_v_13 {z17 z986 : Int} (h0 : (46657 - z986) < ((0 : Nat) : Int)) (h1 : z986 ≤ z17) (h2 : 1 ≤ z17 ∧ z17 ≤ 46656) (h3 : 0 ≤ z986 ∧ z986 ≤ 46656) : False := by omega
theorem vc_X12_rest_v_14 {z17 z986 : Int} (h0 : z17 ≤ z986) (h1 : z986 ≤ z17) (h2 : 1 ≤ z17 ∧ z17 ≤ 46656) (h3 : 0 ≤ z986 ∧ z986 ≤ 46656) : 1 ≤ z986 ∧ z986 ≤ 46656 := by omega
theorem vc_X12_rest_v_15 {p1 p2 z8 : Int} (h0 : 0 ≤ p1) (h1 : (z8 = 1 → (1 : Int) ≤ p2 ∧ p2 ≤ (6 : Int))) (h2 : (z8 = 0 → p2 < (1 : Int) ∨ (6 : Int) < p2)) (h3 : (1 : Int) ≤ p2 ∧ p2 ≤ (6 : Int)) (h4 : ¬ z8 = 0) (h5 : 0 ≤ p1 ∧ p1 ≤ 2147483647) (h6 : 1 ≤ p2 ∧ p2 ≤ 6) (h7 : 1 ≤ z8 ∧ z8 ≤ 1) : 0 ≤ p1 ∧ 1 ≤ p2 ∧ p2 ≤ 6 := by omega
theorem vc_X12_rest_v_16 {z17 z986 : Int} (h0 : z986 ≤ z17) (h1 : z17 ≤ z986) (h2 : 1 ≤ z17 ∧ z17 ≤ 46656) (h3 : 1 ≤ z986 ∧ z986 ≤ 46656) : z986 = z17 := by omega
theorem vc_X12_rest_v_17 {z987 : Int} (h0 : 0 ≤ z987) (h1 : 0 ≤ z987 ∧ z987 ≤ 2147483647) : 0 ≤ z987 := by omega
theorem vc_X12_rest_v_18 {z17 z986 : Int} (h0 : z986 < z17) (h1 : z986 ≤ z17) (h2 : 1 ≤ z17 ∧ z17 ≤ 46656) (h3 : 0 ≤ z986 ∧ z986 ≤ 46656) : 0 ≤ z986 ∧ z986 ≤ 46655 := by omega
theorem vc_X12_rest_v_26 {z987 : Int} (h0 : ¬ z987 = 0) (h1 : 0 ≤ z987) (h2 : 0 ≤ z987 ∧ z987 ≤ 2147483647) : 1 ≤ z987 ∧ z987 ≤ 2147483647 := by omega
theorem vc_X12_rest_v_27 {z17 z986 : Int} (h0 : z986 ≤ z17) (h1 : z986 < z17) (h2 : 1 ≤ z17 ∧ z17 ≤ 46656) (h3 : 0 ≤ z986 ∧ z986 ≤ 46655) : (z986 + 1) ≤ z17 := by omega
theorem vc_X12_rest_v_28 {z987 : Int} (h0 : 0 ≤ z987) (h1 : ¬ z987 = 0) (h2 : 1 ≤ z987 ∧ z987 ≤ 2147483647) : 0 ≤ (z987 + (-1)) := by omega
theorem vc_X12_rest_v_29 {N z17 z986 : Int} (h0 : (46657 - z986) < N + 1) (h1 : z986 ≤ z17) (h2 : z986 < z17) (h3 : 1 ≤ z17 ∧ z17 ≤ 46656) (h4 : 0 ≤ z986 ∧ z986 ≤ 46655) : (46657 - (z986 + 1)) < N := by omega
theorem vc_X12_rest_v_30 {z17 z986 : Int} (h0 : z986 ≤ z17) (h1 : z986 < z17) (h2 : 1 ≤ z17 ∧ z17 ≤ 46656) (h3 : 0 ≤ z986 ∧ z986 ≤ 46655) : 0 ≤ z986 := by omega
theorem vc_X12_rest_v_31 {p1 z1026 z987 : Int} (h0 : 0 ≤ p1) (h1 : 0 ≤ z987) (h2 : ¬ z1026 = 0) (h3 : ¬ z987 = 0) (h4 : 0 ≤ p1 ∧ p1 ≤ 2147483647) (h5 : 1 ≤ z1026 ∧ z1026 ≤ 1) (h6 : 1 ≤ z987 ∧ z987 ≤ 2147483647) : (z1026 = 1 ∧ p1 - (z987 + (-1)) = p1 - z987 + 1) ∨ (¬ z1026 = 1 ∧ p1 - (z987 + (-1)) = p1 - z987) := by omega
theorem vc_X12_rest_v_32 {z987 : Int} (h0 : z987 = 0) (h1 : 0 ≤ z987) (h2 : 0 ≤ z987 ∧ z987 ≤ 2147483647) : 0 ≤ z987 ∧ z987 ≤ 0 := by omega
theorem vc_X12_rest_v_34 {z987 : Int} (h0 : 0 ≤ z987) (h1 : z987 = 0) (h2 : 0 ≤ z987 ∧ z987 ≤ 0) : z987 = 0 := by omega
theorem vc_X12_rest_v_35 {z17 z986 : Int} (h0 : z986 ≤ z17) (h1 : z986 < z17) (h2 : 1 ≤ z17 ∧ z17 ≤ 46656) (h3 : 0 ≤ z986 ∧ z986 ≤ 46655) : 0 ≤ z986 ∧ z986 < z17 := by omega
theorem vc_X12_rest_v_36 {p2 z8 : Int} (h0 : (z8 = 1 → (1 : Int) ≤ p2 ∧ p2 ≤ (6 : Int))) (h1 : (z8 = 0 → p2 < (1 : Int) ∨ (6 : Int) < p2)) (h2 : (1 : Int) ≤ p2 ∧ p2 ≤ (6 : Int)) (h3 : ¬ z8 = 0) (h4 : 1 ≤ p2 ∧ p2 ≤ 6) (h5 : 1 ≤ z8 ∧ z8 ≤ 1) : 1 ≤ p2 ∧ p2 ≤ 6 := by omega
theorem vc_X12_rest_v_37 {z1056 z1059 : Int} (h0 : ¬ z1056 = z1059) (h1 : 0 ≤ z1056 ∧ z1056 ≤ 5) (h2 : 0 ≤ z1059 ∧ z1059 ≤ 5) : (z1056 = z1059 ∧ z1056 = -4) ∨ (¬ z1056 = z1059 ∧ z1056 = z1056) := by omega
theorem vc_X12_rest_v_38 {z1056 z1059 : Int} (h0 : z1056 = z1059) (h1 : 0 ≤ z1056 ∧ z1056 ≤ 5) (h2 : 0 ≤ z1059 ∧ z1059 ≤ 5) : (z1056 = z1059 ∧ ((-4) : Int) = -4) ∨ (¬ z1056 = z1059 ∧ ((-4) : Int) = z1056) := by omega
theorem vc_X12_rest_v_40 {p1 z1026 z987 : Int} (h0 : 0 ≤ p1) (h1 : 0 ≤ z987) (h2 : z1026 = 0) (h3 : 0 ≤ p1 ∧ p1 ≤ 2147483647) (h4 : 0 ≤ z1026 ∧ z1026 ≤ 0) (h5 : 0 ≤ z987 ∧ z987 ≤ 2147483647) : (z1026 = 1 ∧ p1 - z987 = p1 - z987 + 1) ∨ (¬ z1026 = 1 ∧ p1 - z987 = p1 - z987) := by omega
theorem vc_X12_rest_v_44 {p1 : Int} (h0 : 0 ≤ p1) (h1 : 0 ≤ p1 ∧ p1 ≤ 2147483647) : p1 - p1 = 0 := by omega
theorem vc_X12_rest_v_45 {p2 z8 : Int} (h0 : z8 = 0) (h1 : (z8 = 1 → (1 : Int) ≤ p2 ∧ p2 ≤ (6 : Int))) (h2 : (z8 = 0 → p2 < (1 : Int) ∨ (6 : Int) < p2)) (h3 : (-2147483648) ≤ p2 ∧ p2 ≤ 2147483647) (h4 : 0 ≤ z8 ∧ z8 ≤ 1) : 0 ≤ z8 ∧ z8 ≤ 0 := by omega
theorem vc_X12_rest_v_46 {p2 z8 : Int} (h0 : (z8 = 1 → (1 : Int) ≤ p2 ∧ p2 ≤ (6 : Int))) (h1 : (z8 = 0 → p2 < (1 : Int) ∨ (6 : Int) < p2)) (h2 : z8 = 0) (h3 : (-2147483648) ≤ p2 ∧ p2 ≤ 2147483647) (h4 : 0 ≤ z8 ∧ z8 ≤ 0) : z8 = 0 := by omega
theorem vc_X12_rest_v_47 {p1 p2 z8 : Int} (h0 : 0 ≤ p1) (h1 : (z8 = 1 → (1 : Int) ≤ p2 ∧ p2 ≤ (6 : Int))) (h2 : (z8 = 0 → p2 < (1 : Int) ∨ (6 : Int) < p2)) (h3 : p2 < (1 : Int) ∨ (6 : Int) < p2) (h4 : z8 = 0) (h5 : 0 ≤ p1 ∧ p1 ≤ 2147483647) (h6 : (-2147483648) ≤ p2 ∧ p2 ≤ 2147483647) (h7 : 0 ≤ z8 ∧ z8 ≤ 0) : p1 < 0 ∨ p2 < 1 ∨ 6 < p2 := by omega
set_option maxRecDepth 4000 in
set_option maxHeartbeats 4000000 in
theorem c_X12_rest_v {l : Launch} {D : va_G} {c : Nat → ClassId} {H0 : Heap} {sa : Nat × Nat × (Nat → Int32)} {w : mW} {μ : mM} (hw : mWF w) (hT : mT w μ) {p1 : Int} (hp1 : (-2147483648) ≤ p1 ∧ p1 ≤ 2147483647) {p2 : Int} (hp2 : (-2147483648) ≤ p2 ∧ p2 ≤ 2147483647) : sC (gG l D c H0 sa) mX12_rest 4 0 0 [.ref 106, iv p1, iv p2] (mk w μ) (qI w [187999, 188999] μ (fun z μ1 => ((-2147483648) ≤ z ∧ z ≤ 2147483647) ∧ (rtZ (RSt μ 184 185 186 8) (wgk (μ 184) 6).toNat (μ 184) p1 p2 z) ∧ True)) := by
  refine sC.of rfl (by decide) (le_t rfl) ?_
  refine mr_lvE (lv' := [(0, .ref 106), (1, iv p1), (2, iv p2)]) rfl ?_
  refine mr_iload_n (pc := 0) (z := p1) dX12_rest_0 rfl rfl ?_
  refine mr_if_lt (pc := 1) (tgt := 14) dX12_rest_1 (by decide) hp1 (fun h1 => ?_) (fun h1 => ?_)
  · have h2 : (-2147483648) ≤ p1 ∧ p1 ≤ (-1) := (vc_X12_cut_1 h1 hp1)
    refine mr_iconst (pc := 14) (z := (-1)) dX12_rest_14 ?_
    exact mr_iret dX12_rest_15 rfl (le_t rfl) (le_t rfl) hT mF.refl ⟨(rW (c := (-2147483648)) (d := 2147483647) (rR (x := (-1))) rfl), (Or.inl ⟨(vc_X12_rest_v_2 h1 h2 hp2), rfl⟩), trivial⟩
  have h3 : 0 ≤ p1 ∧ p1 ≤ 2147483647 := (vc_X12_cut_2 h1 hp1)
  refine mr_iload_n (pc := 4) (z := p2) dX12_rest_4 rfl rfl ?_
  refine mr_iconst (pc := 5) (z := 1) dX12_rest_5 ?_
  refine mr_bipush (pc := 6) (z := 6) dX12_rest_6 (by decide) ?_
  refine mr_cSP (pc := 8) (c_X12_in hw hT hp2 (rW (c := (-2147483648)) (d := 2147483647) (rR (x := 1)) rfl) (rW (c := (-2147483648)) (d := 2147483647) (rR (x := 6)) rfl)) (gOk _ _ _ _ _) dX12_rest_8 (tX12_in _ _ _ _ _) wS_X12_in wM_X12_18 ⟨le_t rfl, le_t rfl⟩ ⟨le_t rfl, le_t rfl⟩ rfl (le_t rfl) fun z8 h7 => ?_
  refine mr_if_ne (pc := 11) (tgt := 16) dX12_rest_11 (by decide) (r32 h7.1 rfl) (fun h9 => ?_) (fun h9 => ?_)
  · have h10 : 1 ≤ z8 ∧ z8 ≤ 1 := (vc_X12_rest_v_4 h9 h7.2.1 h7.2.2.1 hp2 h7.1)
    have h11 : (1 : Int) ≤ p2 ∧ p2 ≤ (6 : Int) := (h7.2.1 (vc_X12_rest_v_5 h7.2.1 h7.2.2.1 h9 hp2 h10))
    have h12 : 1 ≤ p2 ∧ p2 ≤ 6 := (vc_X12_rest_v_6 h11 h7.2.1 h7.2.2.1 hp2 h10)
    refine sv_aload_n (pc := 16) dX12_rest_16 rfl rfl ?_
    refine mr_cVI (pc := 17) (c_X12_states_v hw hT) (gOk _ _ _ _ _) dX12_rest_17 (tX12_states _ _ _ _ _) ⟨wV_X12_states, wL_X12_states⟩ wM_X12_728 (gCX12 _ _ _ _ _) rfl (A_106 hw) rfl ⟨le_t rfl, le_t rfl⟩ ⟨le_t rfl, le_t rfl⟩ rfl (le_t rfl) fun z17 μ13 T14 F15 h16 => ?_
    obtain ⟨z18, z20, z22, z24, z26, z28, q19, q21, q23, q25, q27, q29, h30⟩ := h16
    have h31 : (0 ≤ z18 ∧ z18 ≤ 46656) := by rw [← q19]; exact T14 187 187 (A_187 hw) ((1 : Int).toNat)
    have h32 : (0 ≤ z20 ∧ z20 ≤ 46656) := by rw [← q21]; exact T14 187 187 (A_187 hw) ((2 : Int).toNat)
    have h33 : (0 ≤ z22 ∧ z22 ≤ 46656) := by rw [← q23]; exact T14 187 187 (A_187 hw) ((3 : Int).toNat)
    have h34 : (0 ≤ z24 ∧ z24 ≤ 46656) := by rw [← q25]; exact T14 187 187 (A_187 hw) ((4 : Int).toNat)
    have h35 : (0 ≤ z26 ∧ z26 ≤ 46656) := by rw [← q27]; exact T14 187 187 (A_187 hw) ((5 : Int).toNat)
    have h36 : (0 ≤ z28 ∧ z28 ≤ 46656) := by rw [← q29]; exact T14 187 187 (A_187 hw) ((6 : Int).toNat)
    have h37 : 1 ≤ z18 ∧ z18 ≤ 46656 := (vc_X12_open_r_1 h30.2.1 h31)
    have h38 : 1 ≤ z20 ∧ z20 ≤ 46656 := (vc_X12_open_r_1 h30.2.2.1 h32)
    have h39 : 1 ≤ z22 ∧ z22 ≤ 46656 := (vc_X12_open_r_1 h30.2.2.2.1 h33)
    have h40 : 1 ≤ z24 ∧ z24 ≤ 46656 := (vc_X12_open_r_1 h30.2.2.2.2.1 h34)
    have h41 : 1 ≤ z26 ∧ z26 ≤ 46656 := (vc_X12_open_r_1 h30.2.2.2.2.2.1 h35)
    have h42 : 1 ≤ z28 ∧ z28 ≤ 46656 := (vc_X12_open_r_1 h30.2.2.2.2.2.2.1 h36)
    refine mr_istore_n (pc := 20) (lv' := [(3, iv z17), (0, .ref 106), (1, iv p1), (2, iv p2)]) dX12_rest_20 rfl (by decide) rfl ?_
    refine mr_iload_n (pc := 21) (z := p1) dX12_rest_21 rfl rfl ?_
    refine mr_istore (pc := 22) (lv' := [(4, iv p1), (3, iv z17), (0, .ref 106), (1, iv p1), (2, iv p2)]) dX12_rest_22 (by decide) rfl ?_
    refine mr_iconst (pc := 24) (z := 0) dX12_rest_24 ?_
    refine mr_istore (pc := 25) (lv' := [(5, iv 0), (4, iv p1), (3, iv z17), (0, .ref 106), (1, iv p1), (2, iv p2)]) dX12_rest_25 (by decide) rfl ?_
    have L989 : ∀ (nL989 : Nat) (z987 z986 : Int) (μ988 : mM), mT w μ988 → mF [188999] w μ13 μ988 → (0 ≤ z987 ∧ z987 ≤ 2147483647) → (0 ≤ z986 ∧ z986 ≤ 46656) → (z986 ≤ z17) → (0 ≤ z987) → wgT μ988 187 184 → (p1 - z987 = cnP (RSt μ 184 185 186 8) (z986).toNat) → (46657 - z986) < (nL989 : Int) → sV (gG l D c H0 sa) mX12_rest (sRm 4 0 0) (sZ (gG l D c H0 sa) 0 0 (qI w [187999, 188999] μ (fun z μ1 => ((-2147483648) ≤ z ∧ z ≤ 2147483647) ∧ (rtZ (RSt μ 184 185 186 8) (wgk (μ 184) 6).toNat (μ 184) p1 p2 z) ∧ True))) 27 [(0, .ref 106), (2, iv p2), (3, iv z17), (4, iv z987), (5, iv z986)] [] (mk w μ988) 0 0 := by
      intro nL989
      induction nL989 with
      | zero => intro z987 z986 μ988 T992 F993 h990 h991 h995 h996 R997 R998 h999; exact ((vc_X12_rest_v_13 h999 h995 h30.1 h991)).elim
      | succ nL989 ih1000 =>
        intro z987 z986 μ988 T992 F993 h990 h991 h995 h996 R997 R998 h999
        refine mr_iload (pc := 27) (z := z986) dX12_rest_27 rfl ?_
        refine mr_iload_n (pc := 29) (z := z17) dX12_rest_29 rfl rfl ?_
        refine mr_icmp_ge (pc := 30) (tgt := 92) dX12_rest_30 (by decide) (r32 h991 rfl) (r32 h30.1 rfl) (fun h1001 => ?_) (fun h1001 => ?_)
        · have h1002 : 1 ≤ z986 ∧ z986 ≤ 46656 := (vc_X12_rest_v_14 h1001 h995 h30.1 h991)
          refine mr_iconst (pc := 92) (z := (-1)) dX12_rest_92 ?_
          exact mr_iret dX12_rest_93 rfl (le_t rfl) (le_t rfl) T992 (mF.call (mF.call mF.refl F15 rfl) F993 rfl) ⟨(rW (c := (-2147483648)) (d := 2147483647) (rR (x := (-1))) rfl), (Or.inr ⟨(vc_X12_rest_v_15 h1 h7.2.1 h7.2.2.1 h11 h9 h3 h12 h10), Or.inl ⟨cnP.fin R998 (cnP.N (h30.2.2.2.2.2.2.2.1).2 (rowB (A_184 hw) ((mF.call mF.refl F15 rfl) : mF [187999] w μ μ13) rfl rfl)) (vc_X12_rest_v_16 h995 h1001 h30.1 h1002) (vc_X12_rest_v_17 h996 h990), rfl⟩⟩), trivial⟩
        have h1003 : 0 ≤ z986 ∧ z986 ≤ 46655 := (vc_X12_rest_v_18 h1001 h995 h30.1 h991)
        refine sv_aload_n (pc := 33) dX12_rest_33 rfl rfl ?_
        refine mr_iload (pc := 34) (z := z986) dX12_rest_34 rfl ?_
        obtain ⟨z1004, q1005⟩ : ∃ z, μ988 184 ((1 : Int).toNat) = z := ⟨_, rfl⟩
        have h1006 : (0 ≤ z1004 ∧ z1004 ≤ 5) := by rw [← q1005]; exact T992 184 184 (A_184 hw) ((1 : Int).toNat)
        obtain ⟨z1007, q1008⟩ : ∃ z, μ988 184 ((2 : Int).toNat) = z := ⟨_, rfl⟩
        have h1009 : (0 ≤ z1007 ∧ z1007 ≤ 5) := by rw [← q1008]; exact T992 184 184 (A_184 hw) ((2 : Int).toNat)
        obtain ⟨z1010, q1011⟩ : ∃ z, μ988 184 ((3 : Int).toNat) = z := ⟨_, rfl⟩
        have h1012 : (0 ≤ z1010 ∧ z1010 ≤ 5) := by rw [← q1011]; exact T992 184 184 (A_184 hw) ((3 : Int).toNat)
        obtain ⟨z1013, q1014⟩ : ∃ z, μ988 184 ((4 : Int).toNat) = z := ⟨_, rfl⟩
        have h1015 : (0 ≤ z1013 ∧ z1013 ≤ 5) := by rw [← q1014]; exact T992 184 184 (A_184 hw) ((4 : Int).toNat)
        obtain ⟨z1016, q1017⟩ : ∃ z, μ988 184 ((5 : Int).toNat) = z := ⟨_, rfl⟩
        have h1018 : (0 ≤ z1016 ∧ z1016 ≤ 5) := by rw [← q1017]; exact T992 184 184 (A_184 hw) ((5 : Int).toNat)
        obtain ⟨z1019, q1020⟩ : ∃ z, μ988 184 ((6 : Int).toNat) = z := ⟨_, rfl⟩
        have h1021 : (0 ≤ z1019 ∧ z1019 ≤ 5) := by rw [← q1020]; exact T992 184 184 (A_184 hw) ((6 : Int).toNat)
        refine mr_cVI (pc := 36) (c_X12_isRest_v hw T992 h1003 (F993.f (A_187 hw) rfl q19) (F993.f (A_187 hw) rfl q21) (F993.f (A_187 hw) rfl q23) (F993.f (A_187 hw) rfl q25) (F993.f (A_187 hw) rfl q27) (F993.f (A_187 hw) rfl q29) q1005 q1008 q1011 q1014 q1017 q1020 (vc_X12_tries_36 h30.2.1 h37) (vc_X12_tries_36 h30.2.2.1 h38) (vc_X12_tries_36 h30.2.2.2.1 h39) (vc_X12_tries_36 h30.2.2.2.2.1 h40) (vc_X12_tries_36 h30.2.2.2.2.2.1 h41) (vc_X12_tries_36 h30.2.2.2.2.2.2.1 h42) (wgT.of (h30.2.2.2.2.2.2.2.1).1 (rowB (A_187 hw) ((mF.call mF.refl F993 rfl) : mF [188999] w μ13 μ988) rfl rfl) (rowB (A_184 hw) ((mF.call mF.refl F993 rfl) : mF [188999] w μ13 μ988) rfl rfl))) (gOk _ _ _ _ _) dX12_rest_36 (tX12_isRest _ _ _ _ _) ⟨wV_X12_isRest, wL_X12_isRest⟩ wM_X12_731 (gCX12 _ _ _ _ _) rfl (A_106 hw) rfl ⟨le_t rfl, le_t rfl⟩ ⟨le_t rfl, le_t rfl⟩ rfl (le_t rfl) fun z1026 μ1022 T1023 F1024 h1025 => ?_
        refine mr_if_ne (pc := 39) (tgt := 45) dX12_rest_39 (by decide) (r32 h1025.1 rfl) (fun h1027 => ?_) (fun h1027 => ?_)
        · have h1028 : 1 ≤ z1026 ∧ z1026 ≤ 1 := (vc_X12_ring_24 h1027 h1025.1)
          refine mr_iload (pc := 45) (z := z987) dX12_rest_45 rfl ?_
          refine mr_if_ne (pc := 47) (tgt := 83) dX12_rest_47 (by decide) (r32 h990 rfl) (fun h1029 => ?_) (fun h1029 => ?_)
          · have h1030 : 1 ≤ z987 ∧ z987 ≤ 2147483647 := (vc_X12_rest_v_26 h1029 h996 h990)
            refine mr_iinc (pc := 83) (lv' := [(4, iv (z987 + (-1))), (0, .ref 106), (2, iv p2), (3, iv z17), (5, iv z986)]) dX12_rest_83 rfl (by decide) rfl ?_
            refine mr_iinc (pc := 86) (lv' := [(5, iv (z986 + 1)), (4, iv (z987 + (-1))), (0, .ref 106), (2, iv p2), (3, iv z17)]) dX12_rest_86 rfl (by decide) rfl ?_
            refine sv_goto (pc := 89) (tgt := 27) dX12_rest_89 (by decide) ?_
            refine mr_lvS (lv' := [(0, .ref 106), (2, iv p2), (3, iv z17), (4, iv (z987 + (-1))), (5, iv (z986 + 1))]) (List.forall_mem_cons.mpr ⟨rfl, List.forall_mem_cons.mpr ⟨rfl, List.forall_mem_cons.mpr ⟨rfl, List.forall_mem_cons.mpr ⟨rfl, List.forall_mem_cons.mpr ⟨rfl, fun _ h => absurd h List.not_mem_nil⟩⟩⟩⟩⟩) ?_
            exact ih1000 (z987 + (-1)) (z986 + 1) μ1022 T1023 (mF.call (mF.call mF.refl F993 rfl) F1024 rfl) (rW (c := 0) (d := 2147483647) (rAdd (e := 0) (f := 2147483646) h1030 (rR (x := (-1))) rfl) rfl) (rW (c := 0) (d := 46656) (rAdd (e := 1) (f := 46656) h1003 (rR (x := 1)) rfl) rfl) (vc_X12_rest_v_27 h995 h1001 h30.1 h1003) (vc_X12_rest_v_28 h996 h1029 h1030) (wgT.of (h30.2.2.2.2.2.2.2.1).1 (rowB (A_187 hw) ((mF.call (mF.call mF.refl F993 rfl) F1024 rfl) : mF [188999] w μ13 μ1022) rfl rfl) (rowB (A_184 hw) ((mF.call (mF.call mF.refl F993 rfl) F1024 rfl) : mF [188999] w μ13 μ1022) rfl rfl)) (cnP.step R998 (vc_X12_rest_v_30 h995 h1001 h30.1 h1003) (Iff.trans h1025.2.1 (RSt.cg (rowB (A_184 hw) ((mF.call (mF.call mF.refl F15 rfl) F993 rfl) : mF [187999, 188999] w μ μ988) rfl rfl) (rowB (A_185 hw) ((mF.call (mF.call mF.refl F15 rfl) F993 rfl) : mF [187999, 188999] w μ μ988) rfl rfl) (rowB (A_186 hw) ((mF.call (mF.call mF.refl F15 rfl) F993 rfl) : mF [187999, 188999] w μ μ988) rfl rfl))) (vc_X12_rest_v_31 h1 h996 h1027 h1029 h3 h1028 h1030)) (vc_X12_rest_v_29 (nS h999) h995 h1001 h30.1 h1003)
          have h1031 : 0 ≤ z987 ∧ z987 ≤ 0 := (vc_X12_rest_v_32 h1029 h996 h990)
          refine sv_aload_n (pc := 50) dX12_rest_50 rfl rfl ?_
          refine mr_iload (pc := 51) (z := z986) dX12_rest_51 rfl ?_
          refine mr_cVV (pc := 53) (c_X12_open_r hw T1023 h1003 (F1024.f (A_187 hw) rfl (F993.f (A_187 hw) rfl q19)) (F1024.f (A_187 hw) rfl (F993.f (A_187 hw) rfl q21)) (F1024.f (A_187 hw) rfl (F993.f (A_187 hw) rfl q23)) (F1024.f (A_187 hw) rfl (F993.f (A_187 hw) rfl q25)) (F1024.f (A_187 hw) rfl (F993.f (A_187 hw) rfl q27)) (F1024.f (A_187 hw) rfl (F993.f (A_187 hw) rfl q29)) (F1024.f (A_184 hw) rfl q1005) (F1024.f (A_184 hw) rfl q1008) (F1024.f (A_184 hw) rfl q1011) (F1024.f (A_184 hw) rfl q1014) (F1024.f (A_184 hw) rfl q1017) (F1024.f (A_184 hw) rfl q1020) (vc_X12_tries_36 h30.2.1 h37) (vc_X12_tries_36 h30.2.2.1 h38) (vc_X12_tries_36 h30.2.2.2.1 h39) (vc_X12_tries_36 h30.2.2.2.2.1 h40) (vc_X12_tries_36 h30.2.2.2.2.2.1 h41) (vc_X12_tries_36 h30.2.2.2.2.2.2.1 h42)) (gOk _ _ _ _ _) dX12_rest_53 (tX12_open _ _ _ _ _) ⟨wV_X12_open, wL_X12_open⟩ wM_X12_722 (gCX12 _ _ _ _ _) rfl (A_106 hw) rfl ⟨le_t rfl, le_t rfl⟩ ⟨le_t rfl, le_t rfl⟩ rfl (le_t rfl) fun μ1032 T1033 F1034 h1035 => ?_
          obtain ⟨z1036, z1038, z1040, z1042, z1044, z1046, q1037, q1039, q1041, q1043, q1045, q1047, h1048⟩ := h1035
          have h1049 : (0 ≤ z1036 ∧ z1036 ≤ 5) := by rw [← q1037]; exact T1033 188 188 (A_188 hw) ((1 : Int).toNat)
          have h1050 : (0 ≤ z1038 ∧ z1038 ≤ 5) := by rw [← q1039]; exact T1033 188 188 (A_188 hw) ((2 : Int).toNat)
          have h1051 : (0 ≤ z1040 ∧ z1040 ≤ 5) := by rw [← q1041]; exact T1033 188 188 (A_188 hw) ((3 : Int).toNat)
          have h1052 : (0 ≤ z1042 ∧ z1042 ≤ 5) := by rw [← q1043]; exact T1033 188 188 (A_188 hw) ((4 : Int).toNat)
          have h1053 : (0 ≤ z1044 ∧ z1044 ≤ 5) := by rw [← q1045]; exact T1033 188 188 (A_188 hw) ((5 : Int).toNat)
          have h1054 : (0 ≤ z1046 ∧ z1046 ≤ 5) := by rw [← q1047]; exact T1033 188 188 (A_188 hw) ((6 : Int).toNat)
          have h1055 : hasD μ1032 188 184 z986 := digs.hasD h1048.2.2.2.2.2.2.1 (wgT.of (h30.2.2.2.2.2.2.2.1).1 (rowB (A_187 hw) ((mF.call (mF.call (mF.call mF.refl F993 rfl) F1024 rfl) F1034 rfl) : mF [188999] w μ13 μ1032) rfl rfl) (rowB (A_184 hw) ((mF.call (mF.call (mF.call mF.refl F993 rfl) F1024 rfl) F1034 rfl) : mF [188999] w μ13 μ1032) rfl rfl))
          refine sv_aload_n (pc := 56) dX12_rest_56 rfl rfl ?_
          refine gf_X12_122 (pc := 57) dX12_rest_57 wF_X12_526 (A_106 hw) T1033 ?_
          refine mr_iload_n (pc := 60) (z := p2) dX12_rest_60 rfl rfl ?_
          refine la_188 (pc := 61) dX12_rest_61 (A_188 hw) T1033 (rIx (n := 7) h12 rfl) fun z1056 q1057 h1058 => ?_
          refine sv_aload_n (pc := 62) dX12_rest_62 rfl rfl ?_
          refine gf_X12_118 (pc := 63) dX12_rest_63 wF_X12_514 (A_106 hw) T1033 ?_
          refine mr_iload_n (pc := 66) (z := p2) dX12_rest_66 rfl rfl ?_
          refine la_184 (pc := 67) dX12_rest_67 (A_184 hw) T1033 (rIx (n := 7) h12 rfl) fun z1059 q1060 h1061 => ?_
          refine mr_icmp_ne (pc := 68) (tgt := 76) dX12_rest_68 (by decide) (r32 h1058 rfl) (r32 h1061 rfl) (fun h1062 => ?_) (fun h1062 => ?_)
          · refine sv_aload_n (pc := 76) dX12_rest_76 rfl rfl ?_
            refine gf_X12_122 (pc := 77) dX12_rest_77 wF_X12_526 (A_106 hw) T1033 ?_
            refine mr_iload_n (pc := 80) (z := p2) dX12_rest_80 rfl rfl ?_
            refine lk_188 (pc := 81) dX12_rest_81 (A_188 hw) (rIx (n := 7) h12 rfl) q1057 ?_
            exact mr_iret dX12_rest_82 rfl (le_t rfl) (le_t rfl) T1033 (mF.call (mF.call (mF.call (mF.call mF.refl F15 rfl) F993 rfl) F1024 rfl) F1034 rfl) ⟨(rW (c := (-2147483648)) (d := 2147483647) h1058 rfl), (Or.inr ⟨(vc_X12_rest_v_15 h1 h7.2.1 h7.2.2.1 h11 h9 h3 h12 h10), Or.inr (rtZ.at (Iff.trans h1025.2.1 (RSt.cg (rowB (A_184 hw) ((mF.call (mF.call mF.refl F15 rfl) F993 rfl) : mF [187999, 188999] w μ μ988) rfl rfl) (rowB (A_185 hw) ((mF.call (mF.call mF.refl F15 rfl) F993 rfl) : mF [187999, 188999] w μ μ988) rfl rfl) (rowB (A_186 hw) ((mF.call (mF.call mF.refl F15 rfl) F993 rfl) : mF [187999, 188999] w μ μ988) rfl rfl))) (vc_X12_best_l_18 h1027 h1028) R998 (vc_X12_rest_v_34 h996 h1029 h1031) (cnP.N (h30.2.2.2.2.2.2.2.1).2 (rowB (A_184 hw) ((mF.call mF.refl F15 rfl) : mF [187999] w μ μ13) rfl rfl)) (vc_X12_rest_v_35 h995 h1001 h30.1 h1003) h1055 (rowB (A_184 hw) ((mF.call (mF.call (mF.call (mF.call mF.refl F15 rfl) F993 rfl) F1024 rfl) F1034 rfl) : mF [187999, 188999] w μ μ1032) rfl rfl) (vc_X12_rest_v_36 h7.2.1 h7.2.2.1 h11 h9 h12 h10) q1057 q1060 (vc_X12_rest_v_37 h1062 h1058 h1061))⟩), trivial⟩
          refine mr_bipush (pc := 71) (z := (-4)) dX12_rest_71 (by decide) ?_
          refine sv_goto (pc := 73) (tgt := 82) dX12_rest_73 (by decide) ?_
          exact mr_iret dX12_rest_82 rfl (le_t rfl) (le_t rfl) T1033 (mF.call (mF.call (mF.call (mF.call mF.refl F15 rfl) F993 rfl) F1024 rfl) F1034 rfl) ⟨(rW (c := (-2147483648)) (d := 2147483647) (rR (x := (-4))) rfl), (Or.inr ⟨(vc_X12_rest_v_15 h1 h7.2.1 h7.2.2.1 h11 h9 h3 h12 h10), Or.inr (rtZ.at (Iff.trans h1025.2.1 (RSt.cg (rowB (A_184 hw) ((mF.call (mF.call mF.refl F15 rfl) F993 rfl) : mF [187999, 188999] w μ μ988) rfl rfl) (rowB (A_185 hw) ((mF.call (mF.call mF.refl F15 rfl) F993 rfl) : mF [187999, 188999] w μ μ988) rfl rfl) (rowB (A_186 hw) ((mF.call (mF.call mF.refl F15 rfl) F993 rfl) : mF [187999, 188999] w μ μ988) rfl rfl))) (vc_X12_best_l_18 h1027 h1028) R998 (vc_X12_rest_v_34 h996 h1029 h1031) (cnP.N (h30.2.2.2.2.2.2.2.1).2 (rowB (A_184 hw) ((mF.call mF.refl F15 rfl) : mF [187999] w μ μ13) rfl rfl)) (vc_X12_rest_v_35 h995 h1001 h30.1 h1003) h1055 (rowB (A_184 hw) ((mF.call (mF.call (mF.call (mF.call mF.refl F15 rfl) F993 rfl) F1024 rfl) F1034 rfl) : mF [187999, 188999] w μ μ1032) rfl rfl) (vc_X12_rest_v_36 h7.2.1 h7.2.2.1 h11 h9 h12 h10) q1057 q1060 (vc_X12_rest_v_38 h1062 h1058 h1061))⟩), trivial⟩
        have h1063 : 0 ≤ z1026 ∧ z1026 ≤ 0 := (vc_X12_ring_22 h1027 h1025.1)
        refine sv_goto (pc := 42) (tgt := 86) dX12_rest_42 (by decide) ?_
        refine mr_iinc (pc := 86) (lv' := [(5, iv (z986 + 1)), (0, .ref 106), (2, iv p2), (3, iv z17), (4, iv z987)]) dX12_rest_86 rfl (by decide) rfl ?_
        refine sv_goto (pc := 89) (tgt := 27) dX12_rest_89 (by decide) ?_
        refine mr_lvS (lv' := [(0, .ref 106), (2, iv p2), (3, iv z17), (4, iv z987), (5, iv (z986 + 1))]) (List.forall_mem_cons.mpr ⟨rfl, List.forall_mem_cons.mpr ⟨rfl, List.forall_mem_cons.mpr ⟨rfl, List.forall_mem_cons.mpr ⟨rfl, List.forall_mem_cons.mpr ⟨rfl, fun _ h => absurd h List.not_mem_nil⟩⟩⟩⟩⟩) ?_
        exact ih1000 z987 (z986 + 1) μ1022 T1023 (mF.call (mF.call mF.refl F993 rfl) F1024 rfl) h990 (rW (c := 0) (d := 46656) (rAdd (e := 1) (f := 46656) h1003 (rR (x := 1)) rfl) rfl) (vc_X12_rest_v_27 h995 h1001 h30.1 h1003) (vc_X12_rest_v_17 h996 h990) (wgT.of (h30.2.2.2.2.2.2.2.1).1 (rowB (A_187 hw) ((mF.call (mF.call mF.refl F993 rfl) F1024 rfl) : mF [188999] w μ13 μ1022) rfl rfl) (rowB (A_184 hw) ((mF.call (mF.call mF.refl F993 rfl) F1024 rfl) : mF [188999] w μ13 μ1022) rfl rfl)) (cnP.step R998 (vc_X12_rest_v_30 h995 h1001 h30.1 h1003) (Iff.trans h1025.2.1 (RSt.cg (rowB (A_184 hw) ((mF.call (mF.call mF.refl F15 rfl) F993 rfl) : mF [187999, 188999] w μ μ988) rfl rfl) (rowB (A_185 hw) ((mF.call (mF.call mF.refl F15 rfl) F993 rfl) : mF [187999, 188999] w μ μ988) rfl rfl) (rowB (A_186 hw) ((mF.call (mF.call mF.refl F15 rfl) F993 rfl) : mF [187999, 188999] w μ μ988) rfl rfl))) (vc_X12_rest_v_40 h1 h996 h1027 h3 h1063 h990)) (vc_X12_rest_v_29 (nS h999) h995 h1001 h30.1 h1003)
    refine mr_lvS (lv' := [(0, .ref 106), (2, iv p2), (3, iv z17), (4, iv p1), (5, iv 0)]) (List.forall_mem_cons.mpr ⟨rfl, List.forall_mem_cons.mpr ⟨rfl, List.forall_mem_cons.mpr ⟨rfl, List.forall_mem_cons.mpr ⟨rfl, List.forall_mem_cons.mpr ⟨rfl, fun _ h => absurd h List.not_mem_nil⟩⟩⟩⟩⟩) ?_
    exact L989 46658 p1 0 μ13 T14 mF.refl h3 (rW (c := 0) (d := 46656) (rR (x := 0)) rfl) (vc_X12_rests_v_28 h30.1) (vc_X12_rest_v_17 h1 h3) (h30.2.2.2.2.2.2.2.1).1 (show p1 - p1 = 0 from (vc_X12_rest_v_44 h1 h3)) vc_X12_tries_27
  have h1064 : 0 ≤ z8 ∧ z8 ≤ 0 := (vc_X12_rest_v_45 h9 h7.2.1 h7.2.2.1 hp2 h7.1)
  have h1065 : p2 < (1 : Int) ∨ (6 : Int) < p2 := (h7.2.2.1 (vc_X12_rest_v_46 h7.2.1 h7.2.2.1 h9 hp2 h1064))
  refine mr_iconst (pc := 14) (z := (-1)) dX12_rest_14 ?_
  exact mr_iret dX12_rest_15 rfl (le_t rfl) (le_t rfl) hT mF.refl ⟨(rW (c := (-2147483648)) (d := 2147483647) (rR (x := (-1))) rfl), (Or.inl ⟨(vc_X12_rest_v_47 h1 h7.2.1 h7.2.2.1 h1065 h9 h3 hp2 h1064), rfl⟩), trivial⟩
theorem vc_X4_find_n_6 {p2 p3 z1085 z1097 : Int} (h0 : p3 ≤ z1097) (h1 : p2 + p3 ≤ 245) (h2 : ¬ z1085 = p3) (h3 : 0 ≤ p2 ∧ p2 ≤ 244) (h4 : (-1) ≤ p3 ∧ p3 ≤ 7) (h5 : 0 ≤ z1085 ∧ z1085 ≤ 7) (h6 : 0 ≤ z1097 ∧ z1097 ≤ 0) : (-1) ≤ p3 ∧ p3 ≤ 0 := by omega
theorem vc_X4_find_n_10 {f_N f_q z1073 : Int} (h0 : z1073 < f_N) (h1 : 1 ≤ f_N ∧ f_N ≤ 5) (h2 : 0 ≤ f_q ∧ f_q ≤ 6) (h3 : 0 ≤ z1073 ∧ z1073 ≤ 4) : ((f_q * 5) + z1073) = 5 * f_q + z1073 := by omega
theorem vc_X4_find_n_11 {z1098 : Int} (h0 : 0 ≤ z1098 ∧ z1098 ≤ 0) : ¬ z1098 = 1 := by omega
theorem vc_X4_find_n_12 {p2 p3 z1085 z1097 : Int} (h0 : z1097 < p3) (h1 : p2 + p3 ≤ 245) (h2 : ¬ z1085 = p3) (h3 : 0 ≤ p2 ∧ p2 ≤ 244) (h4 : (-1) ≤ p3 ∧ p3 ≤ 7) (h5 : 0 ≤ z1085 ∧ z1085 ≤ 7) (h6 : 0 ≤ z1097 ∧ z1097 ≤ 0) : 1 ≤ p3 ∧ p3 ≤ 7 := by omega
theorem vc_X4_find_n_15 {p2 p3 z1085 : Int} (h0 : p2 + p3 ≤ 245) (h1 : ¬ z1085 = p3) (h2 : 0 ≤ p2 ∧ p2 ≤ 244) (h3 : (-1) ≤ p3 ∧ p3 ≤ 7) (h4 : 0 ≤ z1085 ∧ z1085 ≤ 7) : (z1085 = p3 ∧ (0 : Int) = 1) ∨ (¬ z1085 = p3 ∧ ¬ (0 : Int) = 1) := by omega
theorem vc_X4_find_n_16 {p2 p3 z1085 : Int} (h0 : z1085 = p3) (h1 : p2 + p3 ≤ 245) (h2 : 0 ≤ p2 ∧ p2 ≤ 244) (h3 : (-1) ≤ p3 ∧ p3 ≤ 7) (h4 : 0 ≤ z1085 ∧ z1085 ≤ 7) : 0 ≤ p3 ∧ p3 ≤ 7 := by omega
theorem vc_X4_find_n_22 {f_N z1073 : Int} (h0 : z1073 < f_N) (h1 : 1 ≤ f_N ∧ f_N ≤ 5) (h2 : 0 ≤ z1073 ∧ z1073 ≤ 4) : z1073 = z1073 := by omega
theorem vc_X4_find_n_24 {p2 p3 z1085 z1220 : Int} (h0 : p2 + p3 ≤ 245) (h1 : z1085 = p3) (h2 : p3 ≤ z1220) (h3 : 0 ≤ p2 ∧ p2 ≤ 244) (h4 : 0 ≤ p3 ∧ p3 ≤ 7) (h5 : 0 ≤ z1085 ∧ z1085 ≤ 7) (h6 : 0 ≤ z1220 ∧ z1220 ≤ 7) : p3 ≤ z1220 := by omega
theorem vc_X4_find_n_25 {p2 p3 z1085 z1220 : Int} (h0 : z1220 < p3) (h1 : p2 + p3 ≤ 245) (h2 : z1085 = p3) (h3 : 0 ≤ p2 ∧ p2 ≤ 244) (h4 : 0 ≤ p3 ∧ p3 ≤ 7) (h5 : 0 ≤ z1085 ∧ z1085 ≤ 7) (h6 : 0 ≤ z1220 ∧ z1220 ≤ 7) : 0 ≤ z1220 ∧ z1220 ≤ 6 := by omega
theorem vc_X4_find_n_26 {p2 p3 z1085 z1220 : Int} (h0 : z1220 < p3) (h1 : p2 + p3 ≤ 245) (h2 : z1085 = p3) (h3 : 0 ≤ p2 ∧ p2 ≤ 244) (h4 : 0 ≤ p3 ∧ p3 ≤ 7) (h5 : 0 ≤ z1085 ∧ z1085 ≤ 7) (h6 : 0 ≤ z1220 ∧ z1220 ≤ 6) : 1 ≤ p3 ∧ p3 ≤ 7 := by omega
theorem vc_X4_find_n_28 {f_q z1073 z1220 : Int} (h0 : 0 ≤ f_q ∧ f_q ≤ 6) (h1 : 0 ≤ z1073 ∧ z1073 ≤ 4) (h2 : 0 ≤ z1220 ∧ z1220 ≤ 6) : ((7 * ((f_q * 5) + z1073)) + z1220) = ((((f_q * 5) + z1073) * 7) + z1220) := by omega
theorem vc_X4_find_n_29 {p2 p3 z1085 z1220 : Int} (h0 : p2 + p3 ≤ 245) (h1 : z1220 < p3) (h2 : z1085 = p3) (h3 : 0 ≤ p2 ∧ p2 ≤ 244) (h4 : 1 ≤ p3 ∧ p3 ≤ 7) (h5 : 0 ≤ z1085 ∧ z1085 ≤ 7) (h6 : 0 ≤ z1220 ∧ z1220 ≤ 6) : 0 ≤ (p2 + z1220) ∧ (p2 + z1220) < 245 := by omega
theorem vc_X4_find_n_30 {N p2 p3 z1085 z1220 : Int} (h0 : (8 - z1220) < N + 1) (h1 : z1220 < p3) (h2 : p2 + p3 ≤ 245) (h3 : z1085 = p3) (h4 : 0 ≤ p2 ∧ p2 ≤ 244) (h5 : 1 ≤ p3 ∧ p3 ≤ 7) (h6 : 0 ≤ z1085 ∧ z1085 ≤ 7) (h7 : 0 ≤ z1220 ∧ z1220 ≤ 6) : (8 - (z1220 + 1)) < N := by omega
theorem vc_X4_find_n_31 {p2 p3 z1085 z1220 : Int} (h0 : p2 + p3 ≤ 245) (h1 : z1085 = p3) (h2 : z1220 < p3) (h3 : 0 ≤ p2 ∧ p2 ≤ 244) (h4 : 1 ≤ p3 ∧ p3 ≤ 7) (h5 : 0 ≤ z1085 ∧ z1085 ≤ 7) (h6 : 0 ≤ z1220 ∧ z1220 ≤ 6) : 0 ≤ z1220 ∧ z1220 < p3 := by omega
theorem vc_X4_find_n_32 {f_N f_q p2 p3 z1073 z1085 z1220 : Int} (h0 : z1073 < f_N) (h1 : z1220 < p3) (h2 : p2 + p3 ≤ 245) (h3 : z1085 = p3) (h4 : 1 ≤ f_N ∧ f_N ≤ 5) (h5 : 0 ≤ f_q ∧ f_q ≤ 6) (h6 : 0 ≤ p2 ∧ p2 ≤ 244) (h7 : 1 ≤ p3 ∧ p3 ≤ 7) (h8 : 0 ≤ z1073 ∧ z1073 ≤ 4) (h9 : 0 ≤ z1085 ∧ z1085 ≤ 7) (h10 : 0 ≤ z1220 ∧ z1220 ≤ 6) : 0 ≤ ((f_q * 5) + z1073) ∧ ((7 * ((f_q * 5) + z1073)) + z1220) = 7 * ((f_q * 5) + z1073) + z1220 := by omega
theorem vc_X4_find_n_33 {p2 p3 z1085 z1220 : Int} (h0 : p2 + p3 ≤ 245) (h1 : z1220 < p3) (h2 : z1085 = p3) (h3 : 0 ≤ p2 ∧ p2 ≤ 244) (h4 : 1 ≤ p3 ∧ p3 ≤ 7) (h5 : 0 ≤ z1085 ∧ z1085 ≤ 7) (h6 : 0 ≤ z1220 ∧ z1220 ≤ 6) : (p2 + z1220) = p2 + z1220 := by omega
theorem vc_X4_find_n_37 {p2 p3 z1085 : Int} (h0 : p2 + p3 ≤ 245) (h1 : z1085 = p3) (h2 : 0 ≤ p2 ∧ p2 ≤ 244) (h3 : 0 ≤ p3 ∧ p3 ≤ 7) (h4 : 0 ≤ z1085 ∧ z1085 ≤ 7) : (z1085 = p3 ∧ (1 : Int) = 1) ∨ (¬ z1085 = p3 ∧ ¬ (1 : Int) = 1) := by omega
set_option maxRecDepth 4000 in
set_option maxHeartbeats 4000000 in
theorem c_X4_find_n {l : Launch} {D : va_G} {c : Nat → ClassId} {H0 : Heap} {sa : Nat × Nat × (Nat → Int32)} {w : mW} {μ : mM} (hw : mWF w) (hT : mT w μ) (hA1 : mAt w 96 96) {p2 : Int} (hp2 : 0 ≤ p2 ∧ p2 ≤ 244) {p3 : Int} (hp3 : (-1) ≤ p3 ∧ p3 ≤ 7) {f_q : Int} (q_f_q : μ 96 (p2.toNat) = f_q) {f_N : Int} (q_f_N : μ 95 (f_q.toNat) = f_N) (hq0 : p2 + p3 ≤ 245) : sC (gG l D c H0 sa) mX4_find 1 0 0 [.ref 94, .ref 96, iv p2, iv p3] (mk w μ) (qP w μ (fun z => ((-1) ≤ z ∧ z ≤ 4) ∧ (fnG μ f_q p2 p3 f_N z) ∧ True)) := by
  refine sC.of rfl (by decide) (le_t rfl) ?_
  have ht_f_q : (0 ≤ f_q ∧ f_q ≤ 6) := by rw [← q_f_q]; exact hT 96 96 (A_96 hw) (p2.toNat)
  have ht_f_N : (0 ≤ f_N ∧ f_N ≤ 5) := by rw [← q_f_N]; exact hT 95 95 (A_95 hw) (f_q.toNat)
  refine mr_lvE (lv' := [(0, .ref 94), (1, .ref 96), (2, iv p2), (3, iv p3)]) rfl ?_
  refine sv_aload_n (pc := 0) dX4_find_0 rfl rfl ?_
  refine mr_iload_n (pc := 1) (z := p2) dX4_find_1 rfl rfl ?_
  refine lk_96 (pc := 2) dX4_find_2 (A_96 hw) (rIx (n := 245) hp2 rfl) q_f_q ?_
  refine mr_istore (pc := 3) (lv' := [(4, iv f_q), (0, .ref 94), (1, .ref 96), (2, iv p2), (3, iv p3)]) dX4_find_3 (by decide) rfl ?_
  refine mr_iconst (pc := 5) (z := 0) dX4_find_5 ?_
  refine mr_istore (pc := 6) (lv' := [(5, iv 0), (4, iv f_q), (0, .ref 94), (1, .ref 96), (2, iv p2), (3, iv p3)]) dX4_find_6 (by decide) rfl ?_
  have L1074 : ∀ (nL1074 : Nat) (z1073 : Int), True → (0 ≤ z1073 ∧ z1073 ≤ 5) → nsf μ f_q p2 p3 z1073 → (6 - z1073) < (nL1074 : Int) → sV (gG l D c H0 sa) mX4_find (sRm 1 0 0) (sZ (gG l D c H0 sa) 0 0 (qP w μ (fun z => ((-1) ≤ z ∧ z ≤ 4) ∧ (fnG μ f_q p2 p3 f_N z) ∧ True))) 8 [(0, .ref 94), (1, .ref 96), (2, iv p2), (3, iv p3), (4, iv f_q), (5, iv z1073)] [] (mk w μ) 0 0 := by
    intro nL1074
    induction nL1074 with
    | zero => intro z1073 _ h1075 R1079 h1080; exact ((vc_X4_actOf_1 h1080 h1075)).elim
    | succ nL1074 ih1081 =>
      intro z1073 _ h1075 R1079 h1080
      refine mr_iload (pc := 8) (z := z1073) dX4_find_8 rfl ?_
      refine sv_aload_n (pc := 10) dX4_find_10 rfl rfl ?_
      refine gf_X4_12 (pc := 11) dX4_find_11 wF_X4_11 (A_94 hw) hT ?_
      refine mr_iload (pc := 14) (z := f_q) dX4_find_14 rfl ?_
      refine lk_95 (pc := 16) dX4_find_16 (A_95 hw) (rIx (n := 7) ht_f_q rfl) q_f_N ?_
      refine mr_icmp_ge (pc := 17) (tgt := 110) dX4_find_17 (by decide) (r32 h1075 rfl) (r32 ht_f_N rfl) (fun h1082 => ?_) (fun h1082 => ?_)
      · refine mr_iconst (pc := 110) (z := (-1)) dX4_find_110 ?_
        exact mr_iretP dX4_find_111 rfl (le_t rfl) (le_t rfl) ⟨(rW (c := (-1)) (d := 4) (rR (x := (-1))) rfl), (fnG.no R1079 (vc_X12_acted_v_5 h1082 ht_f_N h1075)), trivial⟩
      have h1083 : 0 ≤ z1073 ∧ z1073 ≤ 4 := (vc_X4_actOf_2 h1082 ht_f_N h1075)
      have h1084 : 1 ≤ f_N ∧ f_N ≤ 5 := (vc_X4_actOf_3 h1082 ht_f_N h1083)
      refine mr_iload (pc := 20) (z := f_q) dX4_find_20 rfl ?_
      refine mr_iconst (pc := 22) (z := 5) dX4_find_22 ?_
      refine mr_imul (pc := 23) (x := f_q) (y := 5) dX4_find_23 ?_
      refine mr_iload (pc := 24) (z := z1073) dX4_find_24 rfl ?_
      refine mr_iadd (pc := 26) (x := (f_q * 5)) (y := z1073) dX4_find_26 ?_
      refine mr_istore (pc := 27) (lv' := [(6, iv ((f_q * 5) + z1073)), (0, .ref 94), (1, .ref 96), (2, iv p2), (3, iv p3), (4, iv f_q), (5, iv z1073)]) dX4_find_27 (by decide) rfl ?_
      refine sv_aload_n (pc := 29) dX4_find_29 rfl rfl ?_
      refine gf_X4_1 (pc := 30) dX4_find_30 wF_X4_18 (A_94 hw) hT ?_
      refine mr_iload (pc := 33) (z := ((f_q * 5) + z1073)) dX4_find_33 rfl ?_
      refine la_97 (pc := 35) dX4_find_35 (A_97 hw) hT (rIx (n := 35) (rAdd (e := 0) (f := 34) (rMulR (n := 5) (e := 0) (f := 30) ht_f_q rfl) h1083 rfl) rfl) fun z1085 q1086 h1087 => ?_
      refine mr_iload_n (pc := 36) (z := p3) dX4_find_36 rfl rfl ?_
      refine mr_icmp_ne (pc := 37) (tgt := 44) dX4_find_37 (by decide) (r32 h1087 rfl) (r32 hp3 rfl) (fun h1088 => ?_) (fun h1088 => ?_)
      · refine mr_iconst (pc := 44) (z := 0) dX4_find_44 ?_
        refine mr_istore (pc := 45) (lv' := [(7, iv 0), (6, iv ((f_q * 5) + z1073)), (0, .ref 94), (1, .ref 96), (2, iv p2), (3, iv p3), (4, iv f_q), (5, iv z1073)]) dX4_find_45 (by decide) rfl ?_
        refine mr_iconst (pc := 47) (z := 0) dX4_find_47 ?_
        refine mr_istore (pc := 48) (lv' := [(8, iv 0), (7, iv 0), (6, iv ((f_q * 5) + z1073)), (0, .ref 94), (1, .ref 96), (2, iv p2), (3, iv p3), (4, iv f_q), (5, iv z1073)]) dX4_find_48 (by decide) rfl ?_
        have L1099 : ∀ (nL1099 : Nat) (z1098 z1097 : Int), True → (0 ≤ z1098 ∧ z1098 ≤ 0) → (0 ≤ z1097 ∧ z1097 ≤ 0) → sfI μ (((f_q * 5) + z1073)).toNat p2 p3 z1097 z1098 → 1 < (nL1099 : Int) → sV (gG l D c H0 sa) mX4_find (sRm 1 0 0) (sZ (gG l D c H0 sa) 0 0 (qP w μ (fun z => ((-1) ≤ z ∧ z ≤ 4) ∧ (fnG μ f_q p2 p3 f_N z) ∧ True))) 50 [(0, .ref 94), (1, .ref 96), (2, iv p2), (3, iv p3), (4, iv f_q), (5, iv z1073), (6, iv ((f_q * 5) + z1073)), (7, iv z1098), (8, iv z1097)] [] (mk w μ) 0 0 := by
          intro nL1099
          induction nL1099 with
          | zero => intro z1098 z1097 _ h1100 h1101 R1105 h1106; exact ((vc_X8_lastStanding_2 h1106)).elim
          | succ nL1099 ih1107 =>
            intro z1098 z1097 _ h1100 h1101 R1105 h1106
            refine mr_iload (pc := 50) (z := z1097) dX4_find_50 rfl ?_
            refine mr_iload_n (pc := 52) (z := p3) dX4_find_52 rfl rfl ?_
            refine mr_icmp_ge (pc := 53) (tgt := 96) dX4_find_53 (by decide) (r32 h1101 rfl) (r32 hp3 rfl) (fun h1108 => ?_) (fun h1108 => ?_)
            · have h1109 : (-1) ≤ p3 ∧ p3 ≤ 0 := (vc_X4_find_n_6 h1108 hq0 h1088 hp2 hp3 h1087 h1101)
              refine mr_iload (pc := 96) (z := z1098) dX4_find_96 rfl ?_
              refine mr_if_eq (pc := 98) (tgt := 104) dX4_find_98 (by decide) (r32 h1100 rfl) (fun _ => ?_) (fun h => ((vc_X10_firstWrongStep_7 h h1100)).elim)
              refine mr_iinc (pc := 104) (lv' := [(5, iv (z1073 + 1)), (0, .ref 94), (1, .ref 96), (2, iv p2), (3, iv p3), (4, iv f_q), (6, iv ((f_q * 5) + z1073)), (7, iv z1098), (8, iv z1097)]) dX4_find_104 rfl (by decide) rfl ?_
              refine sv_goto (pc := 107) (tgt := 8) dX4_find_107 (by decide) ?_
              refine mr_lvS (lv' := [(0, .ref 94), (1, .ref 96), (2, iv p2), (3, iv p3), (4, iv f_q), (5, iv (z1073 + 1))]) (List.forall_mem_cons.mpr ⟨rfl, List.forall_mem_cons.mpr ⟨rfl, List.forall_mem_cons.mpr ⟨rfl, List.forall_mem_cons.mpr ⟨rfl, List.forall_mem_cons.mpr ⟨rfl, List.forall_mem_cons.mpr ⟨rfl, fun _ h => absurd h List.not_mem_nil⟩⟩⟩⟩⟩⟩) ?_
              exact ih1081 (z1073 + 1) trivial (rW (c := 0) (d := 5) (rAdd (e := 1) (f := 5) h1083 (rR (x := 1)) rfl) rfl) (nsf.next R1079 (vc_X12_acted_w_15 h1082 h1084 h1083) (vc_X4_find_n_10 h1082 h1084 ht_f_q h1083) ((R1105).2 (vc_X4_find_n_11 h1100))) (vc_X4_actOf_6 (nS h1080) h1082 h1084 h1083)
            have h1110 : 1 ≤ p3 ∧ p3 ≤ 7 := (vc_X4_find_n_12 h1108 hq0 h1088 hp2 hp3 h1087 h1101)
            refine mr_iload (pc := 56) (z := z1098) dX4_find_56 rfl ?_
            refine mr_if_eq (pc := 58) (tgt := 96) dX4_find_58 (by decide) (r32 h1100 rfl) (fun _ => ?_) (fun h => ((vc_X10_firstWrongStep_7 h h1100)).elim)
            refine mr_iload (pc := 96) (z := z1098) dX4_find_96 rfl ?_
            refine mr_if_eq (pc := 98) (tgt := 104) dX4_find_98 (by decide) (r32 h1100 rfl) (fun _ => ?_) (fun h => ((vc_X10_firstWrongStep_7 h h1100)).elim)
            refine mr_iinc (pc := 104) (lv' := [(5, iv (z1073 + 1)), (0, .ref 94), (1, .ref 96), (2, iv p2), (3, iv p3), (4, iv f_q), (6, iv ((f_q * 5) + z1073)), (7, iv z1098), (8, iv z1097)]) dX4_find_104 rfl (by decide) rfl ?_
            refine sv_goto (pc := 107) (tgt := 8) dX4_find_107 (by decide) ?_
            refine mr_lvS (lv' := [(0, .ref 94), (1, .ref 96), (2, iv p2), (3, iv p3), (4, iv f_q), (5, iv (z1073 + 1))]) (List.forall_mem_cons.mpr ⟨rfl, List.forall_mem_cons.mpr ⟨rfl, List.forall_mem_cons.mpr ⟨rfl, List.forall_mem_cons.mpr ⟨rfl, List.forall_mem_cons.mpr ⟨rfl, List.forall_mem_cons.mpr ⟨rfl, fun _ h => absurd h List.not_mem_nil⟩⟩⟩⟩⟩⟩) ?_
            exact ih1081 (z1073 + 1) trivial (rW (c := 0) (d := 5) (rAdd (e := 1) (f := 5) h1083 (rR (x := 1)) rfl) rfl) (nsf.next R1079 (vc_X12_acted_w_15 h1082 h1084 h1083) (vc_X4_find_n_10 h1082 h1084 ht_f_q h1083) ((R1105).2 (vc_X4_find_n_11 h1100))) (vc_X4_actOf_6 (nS h1080) h1082 h1084 h1083)
        refine mr_lvS (lv' := [(0, .ref 94), (1, .ref 96), (2, iv p2), (3, iv p3), (4, iv f_q), (5, iv z1073), (6, iv ((f_q * 5) + z1073)), (7, iv 0), (8, iv 0)]) (List.forall_mem_cons.mpr ⟨rfl, List.forall_mem_cons.mpr ⟨rfl, List.forall_mem_cons.mpr ⟨rfl, List.forall_mem_cons.mpr ⟨rfl, List.forall_mem_cons.mpr ⟨rfl, List.forall_mem_cons.mpr ⟨rfl, List.forall_mem_cons.mpr ⟨rfl, List.forall_mem_cons.mpr ⟨rfl, List.forall_mem_cons.mpr ⟨rfl, fun _ h => absurd h List.not_mem_nil⟩⟩⟩⟩⟩⟩⟩⟩⟩) ?_
        exact L1099 2 0 0 trivial (rR (x := 0)) (rR (x := 0)) (sfI.start q1086 vc_X12_isOffered_v_15 (vc_X4_find_n_15 hq0 h1088 hp2 hp3 h1087)) vc_X8_lastStanding_7
      have h1111 : 0 ≤ p3 ∧ p3 ≤ 7 := (vc_X4_find_n_16 h1088 hq0 hp2 hp3 h1087)
      refine mr_iconst (pc := 40) (z := 1) dX4_find_40 ?_
      refine sv_goto (pc := 41) (tgt := 45) dX4_find_41 (by decide) ?_
      refine mr_istore (pc := 45) (lv' := [(7, iv 1), (6, iv ((f_q * 5) + z1073)), (0, .ref 94), (1, .ref 96), (2, iv p2), (3, iv p3), (4, iv f_q), (5, iv z1073)]) dX4_find_45 (by decide) rfl ?_
      refine mr_iconst (pc := 47) (z := 0) dX4_find_47 ?_
      refine mr_istore (pc := 48) (lv' := [(8, iv 0), (7, iv 1), (6, iv ((f_q * 5) + z1073)), (0, .ref 94), (1, .ref 96), (2, iv p2), (3, iv p3), (4, iv f_q), (5, iv z1073)]) dX4_find_48 (by decide) rfl ?_
      have L1222 : ∀ (nL1222 : Nat) (z1221 z1220 : Int), True → (0 ≤ z1221 ∧ z1221 ≤ 1) → (0 ≤ z1220 ∧ z1220 ≤ 7) → sfI μ (((f_q * 5) + z1073)).toNat p2 p3 z1220 z1221 → (8 - z1220) < (nL1222 : Int) → sV (gG l D c H0 sa) mX4_find (sRm 1 0 0) (sZ (gG l D c H0 sa) 0 0 (qP w μ (fun z => ((-1) ≤ z ∧ z ≤ 4) ∧ (fnG μ f_q p2 p3 f_N z) ∧ True))) 50 [(0, .ref 94), (1, .ref 96), (2, iv p2), (3, iv p3), (4, iv f_q), (5, iv z1073), (6, iv ((f_q * 5) + z1073)), (7, iv z1221), (8, iv z1220)] [] (mk w μ) 0 0 := by
        intro nL1222
        induction nL1222 with
        | zero => intro z1221 z1220 _ h1223 h1224 R1228 h1229; exact ((vc_X12_isOffered_3 h1229 h1224)).elim
        | succ nL1222 ih1230 =>
          intro z1221 z1220 _ h1223 h1224 R1228 h1229
          refine mr_iload (pc := 50) (z := z1220) dX4_find_50 rfl ?_
          refine mr_iload_n (pc := 52) (z := p3) dX4_find_52 rfl rfl ?_
          refine mr_icmp_ge (pc := 53) (tgt := 96) dX4_find_53 (by decide) (r32 h1224 rfl) (r32 h1111 rfl) (fun h1231 => ?_) (fun h1231 => ?_)
          · refine mr_iload (pc := 96) (z := z1221) dX4_find_96 rfl ?_
            refine mr_if_eq (pc := 98) (tgt := 104) dX4_find_98 (by decide) (r32 h1223 rfl) (fun h1232 => ?_) (fun h1232 => ?_)
            · have h1233 : 0 ≤ z1221 ∧ z1221 ≤ 0 := (vc_X12_ring_22 h1232 h1223)
              refine mr_iinc (pc := 104) (lv' := [(5, iv (z1073 + 1)), (0, .ref 94), (1, .ref 96), (2, iv p2), (3, iv p3), (4, iv f_q), (6, iv ((f_q * 5) + z1073)), (7, iv z1221), (8, iv z1220)]) dX4_find_104 rfl (by decide) rfl ?_
              refine sv_goto (pc := 107) (tgt := 8) dX4_find_107 (by decide) ?_
              refine mr_lvS (lv' := [(0, .ref 94), (1, .ref 96), (2, iv p2), (3, iv p3), (4, iv f_q), (5, iv (z1073 + 1))]) (List.forall_mem_cons.mpr ⟨rfl, List.forall_mem_cons.mpr ⟨rfl, List.forall_mem_cons.mpr ⟨rfl, List.forall_mem_cons.mpr ⟨rfl, List.forall_mem_cons.mpr ⟨rfl, List.forall_mem_cons.mpr ⟨rfl, fun _ h => absurd h List.not_mem_nil⟩⟩⟩⟩⟩⟩) ?_
              exact ih1081 (z1073 + 1) trivial (rW (c := 0) (d := 5) (rAdd (e := 1) (f := 5) h1083 (rR (x := 1)) rfl) rfl) (nsf.next R1079 (vc_X12_acted_w_15 h1082 h1084 h1083) (vc_X4_find_n_10 h1082 h1084 ht_f_q h1083) ((R1228).2 (vc_X12_acted_w_17 h1232 h1233))) (vc_X4_actOf_6 (nS h1080) h1082 h1084 h1083)
            have h1234 : 1 ≤ z1221 ∧ z1221 ≤ 1 := (vc_X12_ring_24 h1232 h1223)
            refine mr_iload (pc := 101) (z := z1073) dX4_find_101 rfl ?_
            exact mr_iretP dX4_find_103 rfl (le_t rfl) (le_t rfl) ⟨(rW (c := (-1)) (d := 4) h1083 rfl), (fnG.yes (vc_X12_acted_w_20 h1082 h1084 h1083) (vc_X4_find_n_10 h1082 h1084 ht_f_q h1083) (vc_X4_find_n_22 h1082 h1084 h1083) ((R1228).yes (vc_X12_best_l_18 h1232 h1234) (vc_X4_find_n_24 hq0 h1088 h1231 hp2 h1111 h1087 h1224))), trivial⟩
          have h1235 : 0 ≤ z1220 ∧ z1220 ≤ 6 := (vc_X4_find_n_25 h1231 hq0 h1088 hp2 h1111 h1087 h1224)
          have h1236 : 1 ≤ p3 ∧ p3 ≤ 7 := (vc_X4_find_n_26 h1231 hq0 h1088 hp2 h1111 h1087 h1235)
          refine mr_iload (pc := 56) (z := z1221) dX4_find_56 rfl ?_
          refine mr_if_eq (pc := 58) (tgt := 96) dX4_find_58 (by decide) (r32 h1223 rfl) (fun h1237 => ?_) (fun h1237 => ?_)
          · have h1238 : 0 ≤ z1221 ∧ z1221 ≤ 0 := (vc_X12_ring_22 h1237 h1223)
            refine mr_iload (pc := 96) (z := z1221) dX4_find_96 rfl ?_
            refine mr_if_eq (pc := 98) (tgt := 104) dX4_find_98 (by decide) (r32 h1238 rfl) (fun _ => ?_) (fun h => ((vc_X10_firstWrongStep_7 h h1238)).elim)
            refine mr_iinc (pc := 104) (lv' := [(5, iv (z1073 + 1)), (0, .ref 94), (1, .ref 96), (2, iv p2), (3, iv p3), (4, iv f_q), (6, iv ((f_q * 5) + z1073)), (7, iv z1221), (8, iv z1220)]) dX4_find_104 rfl (by decide) rfl ?_
            refine sv_goto (pc := 107) (tgt := 8) dX4_find_107 (by decide) ?_
            refine mr_lvS (lv' := [(0, .ref 94), (1, .ref 96), (2, iv p2), (3, iv p3), (4, iv f_q), (5, iv (z1073 + 1))]) (List.forall_mem_cons.mpr ⟨rfl, List.forall_mem_cons.mpr ⟨rfl, List.forall_mem_cons.mpr ⟨rfl, List.forall_mem_cons.mpr ⟨rfl, List.forall_mem_cons.mpr ⟨rfl, List.forall_mem_cons.mpr ⟨rfl, fun _ h => absurd h List.not_mem_nil⟩⟩⟩⟩⟩⟩) ?_
            exact ih1081 (z1073 + 1) trivial (rW (c := 0) (d := 5) (rAdd (e := 1) (f := 5) h1083 (rR (x := 1)) rfl) rfl) (nsf.next R1079 (vc_X12_acted_w_15 h1082 h1084 h1083) (vc_X4_find_n_10 h1082 h1084 ht_f_q h1083) ((R1228).2 (vc_X12_acted_w_17 h1237 h1238))) (vc_X4_actOf_6 (nS h1080) h1082 h1084 h1083)
          have h1239 : 1 ≤ z1221 ∧ z1221 ≤ 1 := (vc_X12_ring_24 h1237 h1223)
          refine sv_aload_n (pc := 61) dX4_find_61 rfl rfl ?_
          refine gf_X4_0 (pc := 62) dX4_find_62 wF_X4_15 (A_94 hw) hT ?_
          refine mr_iload (pc := 65) (z := ((f_q * 5) + z1073)) dX4_find_65 rfl ?_
          refine mr_bipush (pc := 67) (z := 7) dX4_find_67 (by decide) ?_
          refine mr_imul (pc := 69) (x := ((f_q * 5) + z1073)) (y := 7) dX4_find_69 ?_
          refine mr_iload (pc := 70) (z := z1220) dX4_find_70 rfl ?_
          refine mr_iadd (pc := 72) (x := (((f_q * 5) + z1073) * 7)) (y := z1220) dX4_find_72 ?_
          refine la_96 (pc := 73) dX4_find_73 (A_96 hw) hT (rIx (n := 245) (rAdd (e := 0) (f := 244) (rMulR (n := 7) (e := 0) (f := 238) (rAdd (e := 0) (f := 34) (rMulR (n := 5) (e := 0) (f := 30) ht_f_q rfl) h1083 rfl) rfl) h1235 rfl) rfl) fun z1240 q1241 h1242 => ?_
          refine sv_aload_n (pc := 74) dX4_find_74 rfl rfl ?_
          refine mr_iload_n (pc := 75) (z := p2) dX4_find_75 rfl rfl ?_
          refine mr_iload (pc := 76) (z := z1220) dX4_find_76 rfl ?_
          refine mr_iadd (pc := 78) (x := p2) (y := z1220) dX4_find_78 ?_
          refine la_96 (pc := 79) dX4_find_79 (A_96 hw) hT (vc_X4_find_n_29 hq0 h1231 h1088 hp2 h1236 h1087 h1235) fun z1243 q1244 h1245 => ?_
          refine mr_icmp_ne (pc := 80) (tgt := 87) dX4_find_80 (by decide) (r32 h1242 rfl) (r32 h1245 rfl) (fun h1246 => ?_) (fun h1246 => ?_)
          · refine mr_iconst (pc := 87) (z := 0) dX4_find_87 ?_
            refine mr_istore (pc := 88) (lv' := [(7, iv 0), (0, .ref 94), (1, .ref 96), (2, iv p2), (3, iv p3), (4, iv f_q), (5, iv z1073), (6, iv ((f_q * 5) + z1073)), (8, iv z1220)]) dX4_find_88 (by decide) rfl ?_
            refine mr_iinc (pc := 90) (lv' := [(8, iv (z1220 + 1)), (7, iv 0), (0, .ref 94), (1, .ref 96), (2, iv p2), (3, iv p3), (4, iv f_q), (5, iv z1073), (6, iv ((f_q * 5) + z1073))]) dX4_find_90 rfl (by decide) rfl ?_
            refine sv_goto (pc := 93) (tgt := 50) dX4_find_93 (by decide) ?_
            refine mr_lvS (lv' := [(0, .ref 94), (1, .ref 96), (2, iv p2), (3, iv p3), (4, iv f_q), (5, iv z1073), (6, iv ((f_q * 5) + z1073)), (7, iv 0), (8, iv (z1220 + 1))]) (List.forall_mem_cons.mpr ⟨rfl, List.forall_mem_cons.mpr ⟨rfl, List.forall_mem_cons.mpr ⟨rfl, List.forall_mem_cons.mpr ⟨rfl, List.forall_mem_cons.mpr ⟨rfl, List.forall_mem_cons.mpr ⟨rfl, List.forall_mem_cons.mpr ⟨rfl, List.forall_mem_cons.mpr ⟨rfl, List.forall_mem_cons.mpr ⟨rfl, fun _ h => absurd h List.not_mem_nil⟩⟩⟩⟩⟩⟩⟩⟩⟩) ?_
            exact ih1230 0 (z1220 + 1) trivial (rW (c := 0) (d := 1) (rR (x := 0)) rfl) (rW (c := 0) (d := 7) (rAdd (e := 1) (f := 7) h1235 (rR (x := 1)) rfl) rfl) (sfI.next R1228 (vc_X12_best_l_18 h1237 h1239) (vc_X4_find_n_31 hq0 h1088 h1231 hp2 h1236 h1087 h1235) (eqIx (vc_X4_find_n_28 ht_f_q h1083 h1235) q1241) (vc_X4_find_n_32 h1082 h1231 hq0 h1088 h1084 ht_f_q hp2 h1236 h1083 h1087 h1235) q1244 (vc_X4_find_n_33 hq0 h1231 h1088 hp2 h1236 h1087 h1235) (vc_X12_isOffered_v_34 h1246 h1242 h1245)) (vc_X4_find_n_30 (nS h1229) h1231 hq0 h1088 hp2 h1236 h1087 h1235)
          refine mr_iconst (pc := 83) (z := 1) dX4_find_83 ?_
          refine sv_goto (pc := 84) (tgt := 88) dX4_find_84 (by decide) ?_
          refine mr_istore (pc := 88) (lv' := [(7, iv 1), (0, .ref 94), (1, .ref 96), (2, iv p2), (3, iv p3), (4, iv f_q), (5, iv z1073), (6, iv ((f_q * 5) + z1073)), (8, iv z1220)]) dX4_find_88 (by decide) rfl ?_
          refine mr_iinc (pc := 90) (lv' := [(8, iv (z1220 + 1)), (7, iv 1), (0, .ref 94), (1, .ref 96), (2, iv p2), (3, iv p3), (4, iv f_q), (5, iv z1073), (6, iv ((f_q * 5) + z1073))]) dX4_find_90 rfl (by decide) rfl ?_
          refine sv_goto (pc := 93) (tgt := 50) dX4_find_93 (by decide) ?_
          refine mr_lvS (lv' := [(0, .ref 94), (1, .ref 96), (2, iv p2), (3, iv p3), (4, iv f_q), (5, iv z1073), (6, iv ((f_q * 5) + z1073)), (7, iv 1), (8, iv (z1220 + 1))]) (List.forall_mem_cons.mpr ⟨rfl, List.forall_mem_cons.mpr ⟨rfl, List.forall_mem_cons.mpr ⟨rfl, List.forall_mem_cons.mpr ⟨rfl, List.forall_mem_cons.mpr ⟨rfl, List.forall_mem_cons.mpr ⟨rfl, List.forall_mem_cons.mpr ⟨rfl, List.forall_mem_cons.mpr ⟨rfl, List.forall_mem_cons.mpr ⟨rfl, fun _ h => absurd h List.not_mem_nil⟩⟩⟩⟩⟩⟩⟩⟩⟩) ?_
          exact ih1230 1 (z1220 + 1) trivial (rW (c := 0) (d := 1) (rR (x := 1)) rfl) (rW (c := 0) (d := 7) (rAdd (e := 1) (f := 7) h1235 (rR (x := 1)) rfl) rfl) (sfI.next R1228 (vc_X12_best_l_18 h1237 h1239) (vc_X4_find_n_31 hq0 h1088 h1231 hp2 h1236 h1087 h1235) (eqIx (vc_X4_find_n_28 ht_f_q h1083 h1235) q1241) (vc_X4_find_n_32 h1082 h1231 hq0 h1088 h1084 ht_f_q hp2 h1236 h1083 h1087 h1235) q1244 (vc_X4_find_n_33 hq0 h1231 h1088 hp2 h1236 h1087 h1235) (vc_X12_isOffered_v_35 h1246 h1242 h1245)) (vc_X4_find_n_30 (nS h1229) h1231 hq0 h1088 hp2 h1236 h1087 h1235)
      refine mr_lvS (lv' := [(0, .ref 94), (1, .ref 96), (2, iv p2), (3, iv p3), (4, iv f_q), (5, iv z1073), (6, iv ((f_q * 5) + z1073)), (7, iv 1), (8, iv 0)]) (List.forall_mem_cons.mpr ⟨rfl, List.forall_mem_cons.mpr ⟨rfl, List.forall_mem_cons.mpr ⟨rfl, List.forall_mem_cons.mpr ⟨rfl, List.forall_mem_cons.mpr ⟨rfl, List.forall_mem_cons.mpr ⟨rfl, List.forall_mem_cons.mpr ⟨rfl, List.forall_mem_cons.mpr ⟨rfl, List.forall_mem_cons.mpr ⟨rfl, fun _ h => absurd h List.not_mem_nil⟩⟩⟩⟩⟩⟩⟩⟩⟩) ?_
      exact L1222 9 1 0 trivial (rW (c := 0) (d := 1) (rR (x := 1)) rfl) (rW (c := 0) (d := 7) (rR (x := 0)) rfl) (sfI.start q1086 vc_X12_isOffered_v_15 (vc_X4_find_n_37 hq0 h1088 hp2 h1111 h1087)) vc_X12_isOffered_10
  refine mr_lvS (lv' := [(0, .ref 94), (1, .ref 96), (2, iv p2), (3, iv p3), (4, iv f_q), (5, iv 0)]) (List.forall_mem_cons.mpr ⟨rfl, List.forall_mem_cons.mpr ⟨rfl, List.forall_mem_cons.mpr ⟨rfl, List.forall_mem_cons.mpr ⟨rfl, List.forall_mem_cons.mpr ⟨rfl, List.forall_mem_cons.mpr ⟨rfl, fun _ h => absurd h List.not_mem_nil⟩⟩⟩⟩⟩⟩) ?_
  exact L1074 7 0 trivial (rW (c := 0) (d := 5) (rR (x := 0)) rfl) (nsf.zero vc_X12_isOffered_v_15) vc_X4_actOf_9
theorem vc_X4_need_v_1 {p1 : Int} (h0 : 5 ≤ p1 ∧ p1 ≤ 34) : ((p1 * 7) + 1) = ((7 * p1) + 1) := by omega
theorem vc_X4_need_v_3 {f_l p1 : Int} (h0 : 0 ≤ f_l ∧ f_l ≤ 7) (h1 : 5 ≤ p1 ∧ p1 ≤ 34) : ((p1 * 7) + 1) + (f_l - 1) ≤ 245 := by omega
theorem vc_X4_need_v_4 {p1 : Int} (h0 : 5 ≤ p1 ∧ p1 ≤ 34) : 0 ≤ p1 := by omega
theorem vc_X4_need_v_5 {f_l : Int} (h0 : 0 ≤ f_l ∧ f_l ≤ 7) : (f_l - 1) = f_l - 1 := by omega
theorem vc_X4_need_v_6 {f_s : Int} (h0 : ¬ f_s = 0) (h1 : 1 ≤ f_s ∧ f_s ≤ 6) : f_s = f_s := by omega
theorem vc_X4_need_v_7 {p1 : Int} (h0 : 5 ≤ p1 ∧ p1 ≤ 34) : 0 ≤ p1 ∧ ((7 * p1) + 1) = 7 * p1 + 1 := by omega
set_option maxRecDepth 4000 in
set_option maxHeartbeats 4000000 in
theorem c_X4_need_v {l : Launch} {D : va_G} {c : Nat → ClassId} {H0 : Heap} {sa : Nat × Nat × (Nat → Int32)} {w : mW} {μ : mM} (hw : mWF w) (hT : mT w μ) {p1 : Int} (hp1 : 5 ≤ p1 ∧ p1 ≤ 34) {f_s : Int} (q_f_s : μ 96 (((7 * p1) + 1).toNat) = f_s) {f_l : Int} (q_f_l : μ 97 (p1.toNat) = f_l) {f_N : Int} (q_f_N : μ 95 (f_s.toNat) = f_N) : sC (gG l D c H0 sa) mX4_need 2 0 0 [.ref 94, iv p1] (mk w μ) (qV w [98999, 99999] μ (fun μ1 => (ndW μ μ1 p1) ∧ True)) := by
  refine sC.of rfl (by decide) (le_t rfl) ?_
  have ht_f_s : (0 ≤ f_s ∧ f_s ≤ 6) := by rw [← q_f_s]; exact hT 96 96 (A_96 hw) (((7 * p1) + 1).toNat)
  have ht_f_l : (0 ≤ f_l ∧ f_l ≤ 7) := by rw [← q_f_l]; exact hT 97 97 (A_97 hw) (p1.toNat)
  have ht_f_N : (0 ≤ f_N ∧ f_N ≤ 5) := by rw [← q_f_N]; exact hT 95 95 (A_95 hw) (f_s.toNat)
  refine mr_lvE (lv' := [(0, .ref 94), (1, iv p1)]) rfl ?_
  refine sv_aload_n (pc := 0) dX4_need_0 rfl rfl ?_
  refine gf_X4_0 (pc := 1) dX4_need_1 wF_X4_15 (A_94 hw) hT ?_
  refine mr_iload_n (pc := 4) (z := p1) dX4_need_4 rfl rfl ?_
  refine mr_bipush (pc := 5) (z := 7) dX4_need_5 (by decide) ?_
  refine mr_imul (pc := 7) (x := p1) (y := 7) dX4_need_7 ?_
  refine mr_iconst (pc := 8) (z := 1) dX4_need_8 ?_
  refine mr_iadd (pc := 9) (x := (p1 * 7)) (y := 1) dX4_need_9 ?_
  refine lk_96 (pc := 10) dX4_need_10 (A_96 hw) (rIx (n := 245) (rAdd (e := 36) (f := 239) (rMulR (n := 7) (e := 35) (f := 238) hp1 rfl) (rR (x := 1)) rfl) rfl) (eqIx (vc_X4_need_v_1 hp1) q_f_s) ?_
  refine mr_istore_n (pc := 11) (lv' := [(2, iv f_s), (0, .ref 94), (1, iv p1)]) dX4_need_11 rfl (by decide) rfl ?_
  refine sv_aload_n (pc := 12) dX4_need_12 rfl rfl ?_
  refine gf_X4_2 (pc := 13) dX4_need_13 wF_X4_21 (A_94 hw) hT ?_
  refine mr_iload_n (pc := 16) (z := p1) dX4_need_16 rfl rfl ?_
  refine mr_iload_n (pc := 17) (z := f_s) dX4_need_17 rfl rfl ?_
  refine ss_98 (pc := 18) dX4_need_18 (A_98 hw) hT (rIx (n := 35) hp1 rfl) ht_f_s fun μ49 u50 T51 => ?_
  refine sv_aload_n (pc := 19) dX4_need_19 rfl rfl ?_
  refine gf_X4_3 (pc := 20) dX4_need_20 wF_X4_24 (A_94 hw) T51 ?_
  refine mr_iload_n (pc := 23) (z := p1) dX4_need_23 rfl rfl ?_
  refine mr_iload_n (pc := 24) (z := f_s) dX4_need_24 rfl rfl ?_
  refine mr_if_ne (pc := 25) (tgt := 32) dX4_need_25 (by decide) (r32 ht_f_s rfl) (fun h52 => ?_) (fun h52 => ?_)
  · have h53 : 1 ≤ f_s ∧ f_s ≤ 6 := (vc_X12_isOffered_1 h52 ht_f_s)
    refine sv_aload_n (pc := 32) dX4_need_32 rfl rfl ?_
    refine sv_aload_n (pc := 33) dX4_need_33 rfl rfl ?_
    refine gf_X4_0 (pc := 34) dX4_need_34 wF_X4_15 (A_94 hw) T51 ?_
    refine mr_iload_n (pc := 37) (z := p1) dX4_need_37 rfl rfl ?_
    refine mr_bipush (pc := 38) (z := 7) dX4_need_38 (by decide) ?_
    refine mr_imul (pc := 40) (x := p1) (y := 7) dX4_need_40 ?_
    refine mr_iconst (pc := 41) (z := 1) dX4_need_41 ?_
    refine mr_iadd (pc := 42) (x := (p1 * 7)) (y := 1) dX4_need_42 ?_
    refine sv_aload_n (pc := 43) dX4_need_43 rfl rfl ?_
    refine gf_X4_1 (pc := 44) dX4_need_44 wF_X4_18 (A_94 hw) T51 ?_
    refine mr_iload_n (pc := 47) (z := p1) dX4_need_47 rfl rfl ?_
    refine lk_97 (pc := 48) dX4_need_48 (A_97 hw) (rIx (n := 35) hp1 rfl) (u50.f (Or.inl (mAt.ne (A_98 hw) (A_97 hw) rfl)) q_f_l) ?_
    refine mr_iconst (pc := 49) (z := 1) dX4_need_49 ?_
    refine mr_isub (pc := 50) (x := f_l) (y := 1) dX4_need_50 ?_
    refine mr_cVP (pc := 51) (c_X4_find_n hw T51 (A_96 hw) (rW (c := 0) (d := 244) (rAdd (e := 36) (f := 239) (rMulR (n := 7) (e := 35) (f := 238) hp1 rfl) (rR (x := 1)) rfl) rfl) (rW (c := (-1)) (d := 7) (rSub (e := (-1)) (f := 6) ht_f_l (rR (x := 1)) rfl) rfl) (eqIx (vc_X4_need_v_1 hp1) (u50.f (Or.inl (mAt.ne (A_98 hw) (A_96 hw) rfl)) q_f_s)) (u50.f (Or.inl (mAt.ne (A_98 hw) (A_95 hw) rfl)) q_f_N) (vc_X4_need_v_3 ht_f_l hp1)) (gOk _ _ _ _ _) dX4_need_51 (tX4_find _ _ _ _ _) ⟨wV_X4_find, wL_X4_find⟩ wM_X4_67 (gCX4 _ _ _ _ _) rfl (A_94 hw) rfl ⟨le_t rfl, le_t rfl⟩ ⟨le_t rfl, le_t rfl⟩ rfl (le_t rfl) fun z58 h57 => ?_
    refine ss_99 (pc := 54) dX4_need_54 (A_99 hw) T51 (rIx (n := 35) hp1 rfl) (rW (c := (-1)) (d := 5) h57.1 rfl) fun μ59 u60 T61 => ?_
    exact mr_vret dX4_need_55 rfl (le_t rfl) (le_t rfl) T61 (mF.up (mF.up mF.refl (A_98 hw) u50 rfl) (A_99 hw) u60 rfl) ⟨(ndW.of (one.oth (one.up one.refl (vc_X4_need_v_4 hp1) u50) u60 rfl) (one.up (one.oth one.refl u50 rfl) (vc_X4_need_v_4 hp1) u60) ((u60.f (Or.inl (mAt.ne (A_99 hw) (A_98 hw) rfl)) u50.1).trans (vc_X4_need_v_6 h52 h53)) u60.1 q_f_s (vc_X4_need_v_7 hp1) q_f_l q_f_N (fun _ => ⟨(vc_X4_need_v_5 ht_f_l), (by have h := fnG.cg h57.2.1 (rowB (A_96 hw) ((mF.up mF.refl (A_98 hw) u50 rfl) : mF [98999] w μ μ49) rfl rfl) (rowB (A_97 hw) ((mF.up mF.refl (A_98 hw) u50 rfl) : mF [98999] w μ μ49) rfl rfl); rw [Int.mul_comm p1 7] at h; exact h)⟩)), trivial⟩
  have h62 : 0 ≤ f_s ∧ f_s ≤ 0 := (vc_X12_isOffered_13 h52 ht_f_s)
  refine mr_iconst (pc := 28) (z := 0) dX4_need_28 ?_
  refine sv_goto (pc := 29) (tgt := 54) dX4_need_29 (by decide) ?_
  refine ss_99 (pc := 54) dX4_need_54 (A_99 hw) T51 (rIx (n := 35) hp1 rfl) (rW (c := (-1)) (d := 5) (rR (x := 0)) rfl) fun μ63 u64 T65 => ?_
  exact mr_vret dX4_need_55 rfl (le_t rfl) (le_t rfl) T65 (mF.up (mF.up mF.refl (A_98 hw) u50 rfl) (A_99 hw) u64 rfl) ⟨(ndW.of (n := 0) (one.oth (one.up one.refl (vc_X4_need_v_4 hp1) u50) u64 rfl) (one.up (one.oth one.refl u50 rfl) (vc_X4_need_v_4 hp1) u64) ((u64.f (Or.inl (mAt.ne (A_99 hw) (A_98 hw) rfl)) u50.1).trans (vc_X12_isOffered_v_25 h52 h62)) u64.1 q_f_s (vc_X4_need_v_7 hp1) q_f_l q_f_N (fun g => absurd (vc_X12_goes_7 h52 h62) g)), trivial⟩
theorem vc_X4_prepare_v_14 {z16439 : Int} (h0 : 1 ≤ z16439 ∧ z16439 ≤ 46656) : 1 ≤ z16439 := by omega
theorem vc_X4_prepare_v_34 {z7 z8671 : Int} (h0 : z7 ≤ z8671) (h1 : 0 ≤ z7 ∧ z7 ≤ 5) (h2 : 0 ≤ z8671 ∧ z8671 ≤ 5) : 0 < (1 * (z7 + 1)) := by omega
theorem vc_X4_prepare_v_41 {z16436 z16547 : Int} (h0 : z16547 < z16436) (h1 : 1 ≤ z16436 ∧ z16436 ≤ 5) (h2 : 0 ≤ z16547 ∧ z16547 ≤ 4) : ((1 * 5) + z16547) = 5 * (1 : Int) + z16547 := by omega
theorem vc_X4_prepare_v_42 {z16436 z16547 : Int} (h0 : z16547 < z16436) (h1 : 1 ≤ z16436 ∧ z16436 ≤ 5) (h2 : 0 ≤ z16547 ∧ z16547 ≤ 4) : 0 ≤ (1 : Int) ∧ 0 ≤ z16547 := by omega
theorem vc_X4_prepare_v_45  : ((1 : Int) : Int) = ((2 : Int) : Int) - (1 : Int) := by omega
theorem vc_X4_prepare_v_51 {z16020 z16407 : Int} (h0 : z16407 < z16020) (h1 : 1 ≤ z16020 ∧ z16020 ≤ 5) (h2 : 0 ≤ z16407 ∧ z16407 ≤ 4) : ((2 * 5) + z16407) = 5 * (2 : Int) + z16407 := by omega
theorem vc_X4_prepare_v_52 {z16020 z16407 : Int} (h0 : z16407 < z16020) (h1 : 1 ≤ z16020 ∧ z16020 ≤ 5) (h2 : 0 ≤ z16407 ∧ z16407 ≤ 4) : 0 ≤ (2 : Int) ∧ 0 ≤ z16407 := by omega
theorem vc_X4_prepare_v_54  : ((2 : Int) : Int) = ((3 : Int) : Int) - (1 : Int) := by omega
theorem vc_X4_prepare_v_59 {z15052 z15991 : Int} (h0 : z15991 < z15052) (h1 : 1 ≤ z15052 ∧ z15052 ≤ 5) (h2 : 0 ≤ z15991 ∧ z15991 ≤ 4) : ((3 * 5) + z15991) = 5 * (3 : Int) + z15991 := by omega
theorem vc_X4_prepare_v_60 {z15052 z15991 : Int} (h0 : z15991 < z15052) (h1 : 1 ≤ z15052 ∧ z15052 ≤ 5) (h2 : 0 ≤ z15991 ∧ z15991 ≤ 4) : 0 ≤ (3 : Int) ∧ 0 ≤ z15991 := by omega
theorem vc_X4_prepare_v_62  : ((3 : Int) : Int) = ((4 : Int) : Int) - (1 : Int) := by omega
theorem vc_X4_prepare_v_67 {z12980 z15023 : Int} (h0 : z15023 < z12980) (h1 : 1 ≤ z12980 ∧ z12980 ≤ 5) (h2 : 0 ≤ z15023 ∧ z15023 ≤ 4) : ((4 * 5) + z15023) = 5 * (4 : Int) + z15023 := by omega
theorem vc_X4_prepare_v_68 {z12980 z15023 : Int} (h0 : z15023 < z12980) (h1 : 1 ≤ z12980 ∧ z12980 ≤ 5) (h2 : 0 ≤ z15023 ∧ z15023 ≤ 4) : 0 ≤ (4 : Int) ∧ 0 ≤ z15023 := by omega
theorem vc_X4_prepare_v_70  : ((4 : Int) : Int) = ((5 : Int) : Int) - (1 : Int) := by omega
theorem vc_X4_prepare_v_72 {z12951 z8700 : Int} (h0 : z12951 < z8700) (h1 : 0 ≤ z12951 ∧ z12951 ≤ 5) (h2 : 0 ≤ z8700 ∧ z8700 ≤ 5) : 0 ≤ z12951 ∧ z12951 ≤ 4 := by omega
theorem vc_X4_prepare_v_73 {z12951 z8700 : Int} (h0 : z12951 < z8700) (h1 : 0 ≤ z12951 ∧ z12951 ≤ 4) (h2 : 0 ≤ z8700 ∧ z8700 ≤ 5) : 1 ≤ z8700 ∧ z8700 ≤ 5 := by omega
theorem vc_X4_prepare_v_74 {N z12951 z8700 : Int} (h0 : (6 - z12951) < N + 1) (h1 : z12951 < z8700) (h2 : 0 ≤ z12951 ∧ z12951 ≤ 4) (h3 : 1 ≤ z8700 ∧ z8700 ≤ 5) : (6 - (z12951 + 1)) < N := by omega
theorem vc_X4_prepare_v_75 {z12951 z8700 : Int} (h0 : z12951 < z8700) (h1 : 0 ≤ z12951 ∧ z12951 ≤ 4) (h2 : 1 ≤ z8700 ∧ z8700 ≤ 5) : ((5 * 5) + z12951) = 5 * (5 : Int) + z12951 := by omega
theorem vc_X4_prepare_v_76 {z12951 z8700 : Int} (h0 : z12951 < z8700) (h1 : 0 ≤ z12951 ∧ z12951 ≤ 4) (h2 : 1 ≤ z8700 ∧ z8700 ≤ 5) : 0 ≤ (5 : Int) ∧ 0 ≤ z12951 := by omega
theorem vc_X4_prepare_v_78  : ((5 : Int) : Int) = ((6 : Int) : Int) - (1 : Int) := by omega
theorem vc_X4_prepare_v_79  : (0 : Int) ≤ ((6 : Int) : Int) := by omega
theorem vc_X4_prepare_v_83 {z7 z8671 : Int} (h0 : z8671 < z7) (h1 : 1 ≤ z7 ∧ z7 ≤ 5) (h2 : 0 ≤ z8671 ∧ z8671 ≤ 4) : ((6 * 5) + z8671) = 5 * (6 : Int) + z8671 := by omega
theorem vc_X4_prepare_v_84 {z7 z8671 : Int} (h0 : z8671 < z7) (h1 : 1 ≤ z7 ∧ z7 ≤ 5) (h2 : 0 ≤ z8671 ∧ z8671 ≤ 4) : 0 ≤ (6 : Int) ∧ 0 ≤ z8671 := by omega
theorem vc_X4_prepare_v_85  : (6 : Int) ≤ ((6 : Int) : Int) := by omega
set_option maxRecDepth 4000 in
set_option maxHeartbeats 4000000 in
theorem c_X4_prepare_v {l : Launch} {D : va_G} {c : Nat → ClassId} {H0 : Heap} {sa : Nat × Nat × (Nat → Int32)} {w : mW} {μ : mM} (hw : mWF w) (hT : mT w μ) : sC (gG l D c H0 sa) mX4_prepare 3 0 0 [.ref 94] (mk w μ) (qV w [94009, 98999, 99999, 100999] μ (fun μ1 => ∃ o_st : Int, μ1 94 9 = o_st ∧ (1 ≤ o_st) ∧ (radix μ1 100 95 (μ1 94 9)) ∧ ((wgT μ1 100 95 ∧ μ1 94 9 = wgk (μ1 95) 6)) ∧ (ndA μ1) ∧ True)) := by
  refine sC.of rfl (by decide) (le_t rfl) ?_
  refine mr_lvE (lv' := [(0, .ref 94)]) rfl ?_
  refine sv_aload_n (pc := 0) dX4_prepare_0 rfl rfl ?_
  refine mr_iconst (pc := 1) (z := 1) dX4_prepare_1 ?_
  refine pf_X4_9 (pc := 2) dX4_prepare_2 wF_X4_59 (A_94 hw) hT (rW (c := 0) (d := 46656) (rR (x := 1)) rfl) fun μ1 u2 T3 => ?_
  refine mr_bipush (pc := 5) (z := 6) dX4_prepare_5 (by decide) ?_
  refine mr_istore_n (pc := 7) (lv' := [(1, iv 6), (0, .ref 94)]) dX4_prepare_7 rfl (by decide) rfl ?_
  refine mr_iload_n (pc := 8) (z := 6) dX4_prepare_8 rfl rfl ?_
  refine mr_iconst (pc := 9) (z := 1) dX4_prepare_9 ?_
  refine mr_icmp_lt (pc := 10) (tgt := 73) dX4_prepare_10 (by decide) (r32 (rR (x := 6)) rfl) (r32 (rR (x := 1)) rfl) (fun h => ((vc_X12_states_r_1 h)).elim) (fun _ => ?_)
  refine sv_aload_n (pc := 13) dX4_prepare_13 rfl rfl ?_
  refine gf_X4_4 (pc := 14) dX4_prepare_14 wF_X4_27 (A_94 hw) T3 ?_
  refine mr_iload_n (pc := 17) (z := 6) dX4_prepare_17 rfl rfl ?_
  refine sv_aload_n (pc := 18) dX4_prepare_18 rfl rfl ?_
  refine gk_X4_9 (pc := 19) dX4_prepare_19 wF_X4_59 (A_94 hw) u2.1 ?_
  refine ss_100 (pc := 22) dX4_prepare_22 (A_100 hw) T3 (rIx (n := 7) (rR (x := 6)) rfl) (rW (c := 0) (d := 46656) (rR (x := 1)) rfl) fun μ4 u5 T6 => ?_
  refine sv_aload_n (pc := 23) dX4_prepare_23 rfl rfl ?_
  refine sv_dup (pc := 24) dX4_prepare_24 rfl ?_
  refine gk_X4_9 (pc := 25) dX4_prepare_25 wF_X4_59 (A_94 hw) (u5.f (Or.inl (mAt.ne (A_100 hw) (A_94 hw) rfl)) u2.1) ?_
  refine sv_aload_n (pc := 28) dX4_prepare_28 rfl rfl ?_
  refine gf_X4_12 (pc := 29) dX4_prepare_29 wF_X4_11 (A_94 hw) T6 ?_
  refine mr_iload_n (pc := 32) (z := 6) dX4_prepare_32 rfl rfl ?_
  refine la_95 (pc := 33) dX4_prepare_33 (A_95 hw) T6 (rIx (n := 7) (rR (x := 6)) rfl) fun z7 q8 h9 => ?_
  refine mr_iconst (pc := 34) (z := 1) dX4_prepare_34 ?_
  refine mr_iadd (pc := 35) (x := z7) (y := 1) dX4_prepare_35 ?_
  refine mr_imul (pc := 36) (x := 1) (y := (z7 + 1)) dX4_prepare_36 ?_
  refine pf_X4_9 (pc := 37) dX4_prepare_37 wF_X4_59 (A_94 hw) T6 (rW (c := 0) (d := 46656) (rMulL (n := 1) (e := 1) (f := 6) (rAdd (e := 1) (f := 6) h9 (rR (x := 1)) rfl) rfl) rfl) fun μ10 u11 T12 => ?_
  refine mr_iconst (pc := 40) (z := 0) dX4_prepare_40 ?_
  refine mr_istore_n (pc := 41) (lv' := [(2, iv 0), (1, iv 6), (0, .ref 94)]) dX4_prepare_41 rfl (by decide) rfl ?_
  have L8673 : ∀ (nL8673 : Nat) (z8671 : Int) (μ8672 : mM), mT w μ8672 → mF [98999, 99999] w μ10 μ8672 → (0 ≤ z8671 ∧ z8671 ≤ 5) → ndT μ8672 6 z8671 → (6 - z8671) < (nL8673 : Int) → sV (gG l D c H0 sa) mX4_prepare (sRm 3 0 0) (sZ (gG l D c H0 sa) 0 0 (qV w [94009, 98999, 99999, 100999] μ (fun μ1 => ∃ o_st : Int, μ1 94 9 = o_st ∧ (1 ≤ o_st) ∧ (radix μ1 100 95 (μ1 94 9)) ∧ ((wgT μ1 100 95 ∧ μ1 94 9 = wgk (μ1 95) 6)) ∧ (ndA μ1) ∧ True))) 42 [(0, .ref 94), (1, iv 6), (2, iv z8671)] [] (mk w μ8672) 0 0 := by
    intro nL8673
    induction nL8673 with
    | zero => intro z8671 μ8672 T8675 F8676 h8674 R8678 h8679; exact ((vc_X4_actOf_1 h8679 h8674)).elim
    | succ nL8673 ih8680 =>
      intro z8671 μ8672 T8675 F8676 h8674 R8678 h8679
      refine mr_iload_n (pc := 42) (z := z8671) dX4_prepare_42 rfl rfl ?_
      refine sv_aload_n (pc := 43) dX4_prepare_43 rfl rfl ?_
      refine gf_X4_12 (pc := 44) dX4_prepare_44 wF_X4_11 (A_94 hw) T8675 ?_
      refine mr_iload_n (pc := 47) (z := 6) dX4_prepare_47 rfl rfl ?_
      refine lk_95 (pc := 48) dX4_prepare_48 (A_95 hw) (rIx (n := 7) (rR (x := 6)) rfl) (F8676.f (A_95 hw) rfl (u11.f (Or.inl (mAt.ne (A_94 hw) (A_95 hw) rfl)) q8)) ?_
      refine mr_icmp_ge (pc := 49) (tgt := 67) dX4_prepare_49 (by decide) (r32 h8674 rfl) (r32 h9 rfl) (fun h8696 => ?_) (fun h8696 => ?_)
      · refine mr_iinc (pc := 67) (lv' := [(1, iv 5), (0, .ref 94), (2, iv z8671)]) dX4_prepare_67 rfl (by decide) rfl ?_
        refine sv_goto (pc := 70) (tgt := 8) dX4_prepare_70 (by decide) ?_
        refine mr_iload_n (pc := 8) (z := 5) dX4_prepare_8 rfl rfl ?_
        refine mr_iconst (pc := 9) (z := 1) dX4_prepare_9 ?_
        refine mr_icmp_lt (pc := 10) (tgt := 73) dX4_prepare_10 (by decide) (r32 (rR (x := 5)) rfl) (r32 (rR (x := 1)) rfl) (fun h => ((vc_X12_states_r_2 h)).elim) (fun _ => ?_)
        refine sv_aload_n (pc := 13) dX4_prepare_13 rfl rfl ?_
        refine gf_X4_4 (pc := 14) dX4_prepare_14 wF_X4_27 (A_94 hw) T8675 ?_
        refine mr_iload_n (pc := 17) (z := 5) dX4_prepare_17 rfl rfl ?_
        refine sv_aload_n (pc := 18) dX4_prepare_18 rfl rfl ?_
        refine gk_X4_9 (pc := 19) dX4_prepare_19 wF_X4_59 (A_94 hw) (F8676.f (A_94 hw) rfl u11.1) ?_
        refine ss_100 (pc := 22) dX4_prepare_22 (A_100 hw) T8675 (rIx (n := 7) (rR (x := 5)) rfl) (rW (c := 0) (d := 46656) (rMulL (n := 1) (e := 1) (f := 6) (rAdd (e := 1) (f := 6) h9 (rR (x := 1)) rfl) rfl) rfl) fun μ8697 u8698 T8699 => ?_
        refine sv_aload_n (pc := 23) dX4_prepare_23 rfl rfl ?_
        refine sv_dup (pc := 24) dX4_prepare_24 rfl ?_
        refine gk_X4_9 (pc := 25) dX4_prepare_25 wF_X4_59 (A_94 hw) (u8698.f (Or.inl (mAt.ne (A_100 hw) (A_94 hw) rfl)) (F8676.f (A_94 hw) rfl u11.1)) ?_
        refine sv_aload_n (pc := 28) dX4_prepare_28 rfl rfl ?_
        refine gf_X4_12 (pc := 29) dX4_prepare_29 wF_X4_11 (A_94 hw) T8699 ?_
        refine mr_iload_n (pc := 32) (z := 5) dX4_prepare_32 rfl rfl ?_
        refine la_95 (pc := 33) dX4_prepare_33 (A_95 hw) T8699 (rIx (n := 7) (rR (x := 5)) rfl) fun z8700 q8701 h8702 => ?_
        refine mr_iconst (pc := 34) (z := 1) dX4_prepare_34 ?_
        refine mr_iadd (pc := 35) (x := z8700) (y := 1) dX4_prepare_35 ?_
        refine mr_imul (pc := 36) (x := (1 * (z7 + 1))) (y := (z8700 + 1)) dX4_prepare_36 ?_
        refine mr_gen (P := fun z => 1 ≤ z ∧ z ≤ 36) (rMulP (rMulL (n := 1) (e := 1) (f := 6) (rAdd (e := 1) (f := 6) h9 (rR (x := 1)) rfl) rfl) (rAdd (e := 1) (f := 6) h8702 (rR (x := 1)) rfl) rfl) fun z8703 q8704 h8705 => ?_
        refine pf_X4_9 (pc := 37) dX4_prepare_37 wF_X4_59 (A_94 hw) T8699 (rW (c := 0) (d := 46656) h8705 rfl) fun μ8706 u8707 T8708 => ?_
        refine mr_iconst (pc := 40) (z := 0) dX4_prepare_40 ?_
        refine mr_istore_n (pc := 41) (lv' := [(2, iv 0), (1, iv 5), (0, .ref 94)]) dX4_prepare_41 rfl (by decide) rfl ?_
        have L12953 : ∀ (nL12953 : Nat) (z12951 : Int) (μ12952 : mM), mT w μ12952 → mF [98999, 99999] w μ8706 μ12952 → (0 ≤ z12951 ∧ z12951 ≤ 5) → ndT μ12952 5 z12951 → (6 - z12951) < (nL12953 : Int) → sV (gG l D c H0 sa) mX4_prepare (sRm 3 0 0) (sZ (gG l D c H0 sa) 0 0 (qV w [94009, 98999, 99999, 100999] μ (fun μ1 => ∃ o_st : Int, μ1 94 9 = o_st ∧ (1 ≤ o_st) ∧ (radix μ1 100 95 (μ1 94 9)) ∧ ((wgT μ1 100 95 ∧ μ1 94 9 = wgk (μ1 95) 6)) ∧ (ndA μ1) ∧ True))) 42 [(0, .ref 94), (1, iv 5), (2, iv z12951)] [] (mk w μ12952) 0 0 := by
          intro nL12953
          induction nL12953 with
          | zero => intro z12951 μ12952 T12955 F12956 h12954 R12958 h12959; exact ((vc_X4_actOf_1 h12959 h12954)).elim
          | succ nL12953 ih12960 =>
            intro z12951 μ12952 T12955 F12956 h12954 R12958 h12959
            refine mr_iload_n (pc := 42) (z := z12951) dX4_prepare_42 rfl rfl ?_
            refine sv_aload_n (pc := 43) dX4_prepare_43 rfl rfl ?_
            refine gf_X4_12 (pc := 44) dX4_prepare_44 wF_X4_11 (A_94 hw) T12955 ?_
            refine mr_iload_n (pc := 47) (z := 5) dX4_prepare_47 rfl rfl ?_
            refine lk_95 (pc := 48) dX4_prepare_48 (A_95 hw) (rIx (n := 7) (rR (x := 5)) rfl) (F12956.f (A_95 hw) rfl (u8707.f (Or.inl (mAt.ne (A_94 hw) (A_95 hw) rfl)) q8701)) ?_
            refine mr_icmp_ge (pc := 49) (tgt := 67) dX4_prepare_49 (by decide) (r32 h12954 rfl) (r32 h8702 rfl) (fun h12976 => ?_) (fun h12976 => ?_)
            · refine mr_iinc (pc := 67) (lv' := [(1, iv 4), (0, .ref 94), (2, iv z12951)]) dX4_prepare_67 rfl (by decide) rfl ?_
              refine sv_goto (pc := 70) (tgt := 8) dX4_prepare_70 (by decide) ?_
              refine mr_iload_n (pc := 8) (z := 4) dX4_prepare_8 rfl rfl ?_
              refine mr_iconst (pc := 9) (z := 1) dX4_prepare_9 ?_
              refine mr_icmp_lt (pc := 10) (tgt := 73) dX4_prepare_10 (by decide) (r32 (rR (x := 4)) rfl) (r32 (rR (x := 1)) rfl) (fun h => ((vc_X12_states_r_3 h)).elim) (fun _ => ?_)
              refine sv_aload_n (pc := 13) dX4_prepare_13 rfl rfl ?_
              refine gf_X4_4 (pc := 14) dX4_prepare_14 wF_X4_27 (A_94 hw) T12955 ?_
              refine mr_iload_n (pc := 17) (z := 4) dX4_prepare_17 rfl rfl ?_
              refine sv_aload_n (pc := 18) dX4_prepare_18 rfl rfl ?_
              refine gk_X4_9 (pc := 19) dX4_prepare_19 wF_X4_59 (A_94 hw) (F12956.f (A_94 hw) rfl u8707.1) ?_
              refine ss_100 (pc := 22) dX4_prepare_22 (A_100 hw) T12955 (rIx (n := 7) (rR (x := 4)) rfl) (rW (c := 0) (d := 46656) h8705 rfl) fun μ12977 u12978 T12979 => ?_
              refine sv_aload_n (pc := 23) dX4_prepare_23 rfl rfl ?_
              refine sv_dup (pc := 24) dX4_prepare_24 rfl ?_
              refine gk_X4_9 (pc := 25) dX4_prepare_25 wF_X4_59 (A_94 hw) (u12978.f (Or.inl (mAt.ne (A_100 hw) (A_94 hw) rfl)) (F12956.f (A_94 hw) rfl u8707.1)) ?_
              refine sv_aload_n (pc := 28) dX4_prepare_28 rfl rfl ?_
              refine gf_X4_12 (pc := 29) dX4_prepare_29 wF_X4_11 (A_94 hw) T12979 ?_
              refine mr_iload_n (pc := 32) (z := 4) dX4_prepare_32 rfl rfl ?_
              refine la_95 (pc := 33) dX4_prepare_33 (A_95 hw) T12979 (rIx (n := 7) (rR (x := 4)) rfl) fun z12980 q12981 h12982 => ?_
              refine mr_iconst (pc := 34) (z := 1) dX4_prepare_34 ?_
              refine mr_iadd (pc := 35) (x := z12980) (y := 1) dX4_prepare_35 ?_
              refine mr_imul (pc := 36) (x := z8703) (y := (z12980 + 1)) dX4_prepare_36 ?_
              refine mr_gen (P := fun z => 1 ≤ z ∧ z ≤ 216) (rMulP h8705 (rAdd (e := 1) (f := 6) h12982 (rR (x := 1)) rfl) rfl) fun z12983 q12984 h12985 => ?_
              refine pf_X4_9 (pc := 37) dX4_prepare_37 wF_X4_59 (A_94 hw) T12979 (rW (c := 0) (d := 46656) h12985 rfl) fun μ12986 u12987 T12988 => ?_
              refine mr_iconst (pc := 40) (z := 0) dX4_prepare_40 ?_
              refine mr_istore_n (pc := 41) (lv' := [(2, iv 0), (1, iv 4), (0, .ref 94)]) dX4_prepare_41 rfl (by decide) rfl ?_
              have L15025 : ∀ (nL15025 : Nat) (z15023 : Int) (μ15024 : mM), mT w μ15024 → mF [98999, 99999] w μ12986 μ15024 → (0 ≤ z15023 ∧ z15023 ≤ 5) → ndT μ15024 4 z15023 → (6 - z15023) < (nL15025 : Int) → sV (gG l D c H0 sa) mX4_prepare (sRm 3 0 0) (sZ (gG l D c H0 sa) 0 0 (qV w [94009, 98999, 99999, 100999] μ (fun μ1 => ∃ o_st : Int, μ1 94 9 = o_st ∧ (1 ≤ o_st) ∧ (radix μ1 100 95 (μ1 94 9)) ∧ ((wgT μ1 100 95 ∧ μ1 94 9 = wgk (μ1 95) 6)) ∧ (ndA μ1) ∧ True))) 42 [(0, .ref 94), (1, iv 4), (2, iv z15023)] [] (mk w μ15024) 0 0 := by
                intro nL15025
                induction nL15025 with
                | zero => intro z15023 μ15024 T15027 F15028 h15026 R15030 h15031; exact ((vc_X4_actOf_1 h15031 h15026)).elim
                | succ nL15025 ih15032 =>
                  intro z15023 μ15024 T15027 F15028 h15026 R15030 h15031
                  refine mr_iload_n (pc := 42) (z := z15023) dX4_prepare_42 rfl rfl ?_
                  refine sv_aload_n (pc := 43) dX4_prepare_43 rfl rfl ?_
                  refine gf_X4_12 (pc := 44) dX4_prepare_44 wF_X4_11 (A_94 hw) T15027 ?_
                  refine mr_iload_n (pc := 47) (z := 4) dX4_prepare_47 rfl rfl ?_
                  refine lk_95 (pc := 48) dX4_prepare_48 (A_95 hw) (rIx (n := 7) (rR (x := 4)) rfl) (F15028.f (A_95 hw) rfl (u12987.f (Or.inl (mAt.ne (A_94 hw) (A_95 hw) rfl)) q12981)) ?_
                  refine mr_icmp_ge (pc := 49) (tgt := 67) dX4_prepare_49 (by decide) (r32 h15026 rfl) (r32 h12982 rfl) (fun h15048 => ?_) (fun h15048 => ?_)
                  · refine mr_iinc (pc := 67) (lv' := [(1, iv 3), (0, .ref 94), (2, iv z15023)]) dX4_prepare_67 rfl (by decide) rfl ?_
                    refine sv_goto (pc := 70) (tgt := 8) dX4_prepare_70 (by decide) ?_
                    refine mr_iload_n (pc := 8) (z := 3) dX4_prepare_8 rfl rfl ?_
                    refine mr_iconst (pc := 9) (z := 1) dX4_prepare_9 ?_
                    refine mr_icmp_lt (pc := 10) (tgt := 73) dX4_prepare_10 (by decide) (r32 (rR (x := 3)) rfl) (r32 (rR (x := 1)) rfl) (fun h => ((vc_X12_states_r_4 h)).elim) (fun _ => ?_)
                    refine sv_aload_n (pc := 13) dX4_prepare_13 rfl rfl ?_
                    refine gf_X4_4 (pc := 14) dX4_prepare_14 wF_X4_27 (A_94 hw) T15027 ?_
                    refine mr_iload_n (pc := 17) (z := 3) dX4_prepare_17 rfl rfl ?_
                    refine sv_aload_n (pc := 18) dX4_prepare_18 rfl rfl ?_
                    refine gk_X4_9 (pc := 19) dX4_prepare_19 wF_X4_59 (A_94 hw) (F15028.f (A_94 hw) rfl u12987.1) ?_
                    refine ss_100 (pc := 22) dX4_prepare_22 (A_100 hw) T15027 (rIx (n := 7) (rR (x := 3)) rfl) (rW (c := 0) (d := 46656) h12985 rfl) fun μ15049 u15050 T15051 => ?_
                    refine sv_aload_n (pc := 23) dX4_prepare_23 rfl rfl ?_
                    refine sv_dup (pc := 24) dX4_prepare_24 rfl ?_
                    refine gk_X4_9 (pc := 25) dX4_prepare_25 wF_X4_59 (A_94 hw) (u15050.f (Or.inl (mAt.ne (A_100 hw) (A_94 hw) rfl)) (F15028.f (A_94 hw) rfl u12987.1)) ?_
                    refine sv_aload_n (pc := 28) dX4_prepare_28 rfl rfl ?_
                    refine gf_X4_12 (pc := 29) dX4_prepare_29 wF_X4_11 (A_94 hw) T15051 ?_
                    refine mr_iload_n (pc := 32) (z := 3) dX4_prepare_32 rfl rfl ?_
                    refine la_95 (pc := 33) dX4_prepare_33 (A_95 hw) T15051 (rIx (n := 7) (rR (x := 3)) rfl) fun z15052 q15053 h15054 => ?_
                    refine mr_iconst (pc := 34) (z := 1) dX4_prepare_34 ?_
                    refine mr_iadd (pc := 35) (x := z15052) (y := 1) dX4_prepare_35 ?_
                    refine mr_imul (pc := 36) (x := z12983) (y := (z15052 + 1)) dX4_prepare_36 ?_
                    refine mr_gen (P := fun z => 1 ≤ z ∧ z ≤ 1296) (rMulP h12985 (rAdd (e := 1) (f := 6) h15054 (rR (x := 1)) rfl) rfl) fun z15055 q15056 h15057 => ?_
                    refine pf_X4_9 (pc := 37) dX4_prepare_37 wF_X4_59 (A_94 hw) T15051 (rW (c := 0) (d := 46656) h15057 rfl) fun μ15058 u15059 T15060 => ?_
                    refine mr_iconst (pc := 40) (z := 0) dX4_prepare_40 ?_
                    refine mr_istore_n (pc := 41) (lv' := [(2, iv 0), (1, iv 3), (0, .ref 94)]) dX4_prepare_41 rfl (by decide) rfl ?_
                    have L15993 : ∀ (nL15993 : Nat) (z15991 : Int) (μ15992 : mM), mT w μ15992 → mF [98999, 99999] w μ15058 μ15992 → (0 ≤ z15991 ∧ z15991 ≤ 5) → ndT μ15992 3 z15991 → (6 - z15991) < (nL15993 : Int) → sV (gG l D c H0 sa) mX4_prepare (sRm 3 0 0) (sZ (gG l D c H0 sa) 0 0 (qV w [94009, 98999, 99999, 100999] μ (fun μ1 => ∃ o_st : Int, μ1 94 9 = o_st ∧ (1 ≤ o_st) ∧ (radix μ1 100 95 (μ1 94 9)) ∧ ((wgT μ1 100 95 ∧ μ1 94 9 = wgk (μ1 95) 6)) ∧ (ndA μ1) ∧ True))) 42 [(0, .ref 94), (1, iv 3), (2, iv z15991)] [] (mk w μ15992) 0 0 := by
                      intro nL15993
                      induction nL15993 with
                      | zero => intro z15991 μ15992 T15995 F15996 h15994 R15998 h15999; exact ((vc_X4_actOf_1 h15999 h15994)).elim
                      | succ nL15993 ih16000 =>
                        intro z15991 μ15992 T15995 F15996 h15994 R15998 h15999
                        refine mr_iload_n (pc := 42) (z := z15991) dX4_prepare_42 rfl rfl ?_
                        refine sv_aload_n (pc := 43) dX4_prepare_43 rfl rfl ?_
                        refine gf_X4_12 (pc := 44) dX4_prepare_44 wF_X4_11 (A_94 hw) T15995 ?_
                        refine mr_iload_n (pc := 47) (z := 3) dX4_prepare_47 rfl rfl ?_
                        refine lk_95 (pc := 48) dX4_prepare_48 (A_95 hw) (rIx (n := 7) (rR (x := 3)) rfl) (F15996.f (A_95 hw) rfl (u15059.f (Or.inl (mAt.ne (A_94 hw) (A_95 hw) rfl)) q15053)) ?_
                        refine mr_icmp_ge (pc := 49) (tgt := 67) dX4_prepare_49 (by decide) (r32 h15994 rfl) (r32 h15054 rfl) (fun h16016 => ?_) (fun h16016 => ?_)
                        · refine mr_iinc (pc := 67) (lv' := [(1, iv 2), (0, .ref 94), (2, iv z15991)]) dX4_prepare_67 rfl (by decide) rfl ?_
                          refine sv_goto (pc := 70) (tgt := 8) dX4_prepare_70 (by decide) ?_
                          refine mr_iload_n (pc := 8) (z := 2) dX4_prepare_8 rfl rfl ?_
                          refine mr_iconst (pc := 9) (z := 1) dX4_prepare_9 ?_
                          refine mr_icmp_lt (pc := 10) (tgt := 73) dX4_prepare_10 (by decide) (r32 (rR (x := 2)) rfl) (r32 (rR (x := 1)) rfl) (fun h => ((vc_X12_states_r_5 h)).elim) (fun _ => ?_)
                          refine sv_aload_n (pc := 13) dX4_prepare_13 rfl rfl ?_
                          refine gf_X4_4 (pc := 14) dX4_prepare_14 wF_X4_27 (A_94 hw) T15995 ?_
                          refine mr_iload_n (pc := 17) (z := 2) dX4_prepare_17 rfl rfl ?_
                          refine sv_aload_n (pc := 18) dX4_prepare_18 rfl rfl ?_
                          refine gk_X4_9 (pc := 19) dX4_prepare_19 wF_X4_59 (A_94 hw) (F15996.f (A_94 hw) rfl u15059.1) ?_
                          refine ss_100 (pc := 22) dX4_prepare_22 (A_100 hw) T15995 (rIx (n := 7) (rR (x := 2)) rfl) (rW (c := 0) (d := 46656) h15057 rfl) fun μ16017 u16018 T16019 => ?_
                          refine sv_aload_n (pc := 23) dX4_prepare_23 rfl rfl ?_
                          refine sv_dup (pc := 24) dX4_prepare_24 rfl ?_
                          refine gk_X4_9 (pc := 25) dX4_prepare_25 wF_X4_59 (A_94 hw) (u16018.f (Or.inl (mAt.ne (A_100 hw) (A_94 hw) rfl)) (F15996.f (A_94 hw) rfl u15059.1)) ?_
                          refine sv_aload_n (pc := 28) dX4_prepare_28 rfl rfl ?_
                          refine gf_X4_12 (pc := 29) dX4_prepare_29 wF_X4_11 (A_94 hw) T16019 ?_
                          refine mr_iload_n (pc := 32) (z := 2) dX4_prepare_32 rfl rfl ?_
                          refine la_95 (pc := 33) dX4_prepare_33 (A_95 hw) T16019 (rIx (n := 7) (rR (x := 2)) rfl) fun z16020 q16021 h16022 => ?_
                          refine mr_iconst (pc := 34) (z := 1) dX4_prepare_34 ?_
                          refine mr_iadd (pc := 35) (x := z16020) (y := 1) dX4_prepare_35 ?_
                          refine mr_imul (pc := 36) (x := z15055) (y := (z16020 + 1)) dX4_prepare_36 ?_
                          refine mr_gen (P := fun z => 1 ≤ z ∧ z ≤ 7776) (rMulP h15057 (rAdd (e := 1) (f := 6) h16022 (rR (x := 1)) rfl) rfl) fun z16023 q16024 h16025 => ?_
                          refine pf_X4_9 (pc := 37) dX4_prepare_37 wF_X4_59 (A_94 hw) T16019 (rW (c := 0) (d := 46656) h16025 rfl) fun μ16026 u16027 T16028 => ?_
                          refine mr_iconst (pc := 40) (z := 0) dX4_prepare_40 ?_
                          refine mr_istore_n (pc := 41) (lv' := [(2, iv 0), (1, iv 2), (0, .ref 94)]) dX4_prepare_41 rfl (by decide) rfl ?_
                          have L16409 : ∀ (nL16409 : Nat) (z16407 : Int) (μ16408 : mM), mT w μ16408 → mF [98999, 99999] w μ16026 μ16408 → (0 ≤ z16407 ∧ z16407 ≤ 5) → ndT μ16408 2 z16407 → (6 - z16407) < (nL16409 : Int) → sV (gG l D c H0 sa) mX4_prepare (sRm 3 0 0) (sZ (gG l D c H0 sa) 0 0 (qV w [94009, 98999, 99999, 100999] μ (fun μ1 => ∃ o_st : Int, μ1 94 9 = o_st ∧ (1 ≤ o_st) ∧ (radix μ1 100 95 (μ1 94 9)) ∧ ((wgT μ1 100 95 ∧ μ1 94 9 = wgk (μ1 95) 6)) ∧ (ndA μ1) ∧ True))) 42 [(0, .ref 94), (1, iv 2), (2, iv z16407)] [] (mk w μ16408) 0 0 := by
                            intro nL16409
                            induction nL16409 with
                            | zero => intro z16407 μ16408 T16411 F16412 h16410 R16414 h16415; exact ((vc_X4_actOf_1 h16415 h16410)).elim
                            | succ nL16409 ih16416 =>
                              intro z16407 μ16408 T16411 F16412 h16410 R16414 h16415
                              refine mr_iload_n (pc := 42) (z := z16407) dX4_prepare_42 rfl rfl ?_
                              refine sv_aload_n (pc := 43) dX4_prepare_43 rfl rfl ?_
                              refine gf_X4_12 (pc := 44) dX4_prepare_44 wF_X4_11 (A_94 hw) T16411 ?_
                              refine mr_iload_n (pc := 47) (z := 2) dX4_prepare_47 rfl rfl ?_
                              refine lk_95 (pc := 48) dX4_prepare_48 (A_95 hw) (rIx (n := 7) (rR (x := 2)) rfl) (F16412.f (A_95 hw) rfl (u16027.f (Or.inl (mAt.ne (A_94 hw) (A_95 hw) rfl)) q16021)) ?_
                              refine mr_icmp_ge (pc := 49) (tgt := 67) dX4_prepare_49 (by decide) (r32 h16410 rfl) (r32 h16022 rfl) (fun h16432 => ?_) (fun h16432 => ?_)
                              · refine mr_iinc (pc := 67) (lv' := [(1, iv 1), (0, .ref 94), (2, iv z16407)]) dX4_prepare_67 rfl (by decide) rfl ?_
                                refine sv_goto (pc := 70) (tgt := 8) dX4_prepare_70 (by decide) ?_
                                refine mr_iload_n (pc := 8) (z := 1) dX4_prepare_8 rfl rfl ?_
                                refine mr_iconst (pc := 9) (z := 1) dX4_prepare_9 ?_
                                refine mr_icmp_lt (pc := 10) (tgt := 73) dX4_prepare_10 (by decide) (r32 (rR (x := 1)) rfl) (r32 (rR (x := 1)) rfl) (fun h => ((vc_X12_states_r_6 h)).elim) (fun _ => ?_)
                                refine sv_aload_n (pc := 13) dX4_prepare_13 rfl rfl ?_
                                refine gf_X4_4 (pc := 14) dX4_prepare_14 wF_X4_27 (A_94 hw) T16411 ?_
                                refine mr_iload_n (pc := 17) (z := 1) dX4_prepare_17 rfl rfl ?_
                                refine sv_aload_n (pc := 18) dX4_prepare_18 rfl rfl ?_
                                refine gk_X4_9 (pc := 19) dX4_prepare_19 wF_X4_59 (A_94 hw) (F16412.f (A_94 hw) rfl u16027.1) ?_
                                refine ss_100 (pc := 22) dX4_prepare_22 (A_100 hw) T16411 (rIx (n := 7) (rR (x := 1)) rfl) (rW (c := 0) (d := 46656) h16025 rfl) fun μ16433 u16434 T16435 => ?_
                                refine sv_aload_n (pc := 23) dX4_prepare_23 rfl rfl ?_
                                refine sv_dup (pc := 24) dX4_prepare_24 rfl ?_
                                refine gk_X4_9 (pc := 25) dX4_prepare_25 wF_X4_59 (A_94 hw) (u16434.f (Or.inl (mAt.ne (A_100 hw) (A_94 hw) rfl)) (F16412.f (A_94 hw) rfl u16027.1)) ?_
                                refine sv_aload_n (pc := 28) dX4_prepare_28 rfl rfl ?_
                                refine gf_X4_12 (pc := 29) dX4_prepare_29 wF_X4_11 (A_94 hw) T16435 ?_
                                refine mr_iload_n (pc := 32) (z := 1) dX4_prepare_32 rfl rfl ?_
                                refine la_95 (pc := 33) dX4_prepare_33 (A_95 hw) T16435 (rIx (n := 7) (rR (x := 1)) rfl) fun z16436 q16437 h16438 => ?_
                                refine mr_iconst (pc := 34) (z := 1) dX4_prepare_34 ?_
                                refine mr_iadd (pc := 35) (x := z16436) (y := 1) dX4_prepare_35 ?_
                                refine mr_imul (pc := 36) (x := z16023) (y := (z16436 + 1)) dX4_prepare_36 ?_
                                refine mr_gen (P := fun z => 1 ≤ z ∧ z ≤ 46656) (rMulP h16025 (rAdd (e := 1) (f := 6) h16438 (rR (x := 1)) rfl) rfl) fun z16439 q16440 h16441 => ?_
                                refine pf_X4_9 (pc := 37) dX4_prepare_37 wF_X4_59 (A_94 hw) T16435 (rW (c := 0) (d := 46656) h16441 rfl) fun μ16442 u16443 T16444 => ?_
                                refine mr_iconst (pc := 40) (z := 0) dX4_prepare_40 ?_
                                refine mr_istore_n (pc := 41) (lv' := [(2, iv 0), (1, iv 1), (0, .ref 94)]) dX4_prepare_41 rfl (by decide) rfl ?_
                                have L16549 : ∀ (nL16549 : Nat) (z16547 : Int) (μ16548 : mM), mT w μ16548 → mF [98999, 99999] w μ16442 μ16548 → (0 ≤ z16547 ∧ z16547 ≤ 5) → ndT μ16548 1 z16547 → (6 - z16547) < (nL16549 : Int) → sV (gG l D c H0 sa) mX4_prepare (sRm 3 0 0) (sZ (gG l D c H0 sa) 0 0 (qV w [94009, 98999, 99999, 100999] μ (fun μ1 => ∃ o_st : Int, μ1 94 9 = o_st ∧ (1 ≤ o_st) ∧ (radix μ1 100 95 (μ1 94 9)) ∧ ((wgT μ1 100 95 ∧ μ1 94 9 = wgk (μ1 95) 6)) ∧ (ndA μ1) ∧ True))) 42 [(0, .ref 94), (1, iv 1), (2, iv z16547)] [] (mk w μ16548) 0 0 := by
                                  intro nL16549
                                  induction nL16549 with
                                  | zero => intro z16547 μ16548 T16551 F16552 h16550 R16554 h16555; exact ((vc_X4_actOf_1 h16555 h16550)).elim
                                  | succ nL16549 ih16556 =>
                                    intro z16547 μ16548 T16551 F16552 h16550 R16554 h16555
                                    refine mr_iload_n (pc := 42) (z := z16547) dX4_prepare_42 rfl rfl ?_
                                    refine sv_aload_n (pc := 43) dX4_prepare_43 rfl rfl ?_
                                    refine gf_X4_12 (pc := 44) dX4_prepare_44 wF_X4_11 (A_94 hw) T16551 ?_
                                    refine mr_iload_n (pc := 47) (z := 1) dX4_prepare_47 rfl rfl ?_
                                    refine lk_95 (pc := 48) dX4_prepare_48 (A_95 hw) (rIx (n := 7) (rR (x := 1)) rfl) (F16552.f (A_95 hw) rfl (u16443.f (Or.inl (mAt.ne (A_94 hw) (A_95 hw) rfl)) q16437)) ?_
                                    refine mr_icmp_ge (pc := 49) (tgt := 67) dX4_prepare_49 (by decide) (r32 h16550 rfl) (r32 h16438 rfl) (fun h16572 => ?_) (fun h16572 => ?_)
                                    · refine mr_iinc (pc := 67) (lv' := [(1, iv 0), (0, .ref 94), (2, iv z16547)]) dX4_prepare_67 rfl (by decide) rfl ?_
                                      refine sv_goto (pc := 70) (tgt := 8) dX4_prepare_70 (by decide) ?_
                                      refine mr_iload_n (pc := 8) (z := 0) dX4_prepare_8 rfl rfl ?_
                                      refine mr_iconst (pc := 9) (z := 1) dX4_prepare_9 ?_
                                      refine mr_icmp_lt (pc := 10) (tgt := 73) dX4_prepare_10 (by decide) (r32 (rR (x := 0)) rfl) (r32 (rR (x := 1)) rfl) (fun _ => ?_) (fun h => ((vc_X12_states_r_7 h)).elim)
                                      exact mr_vret dX4_prepare_73 rfl (le_t rfl) (le_t rfl) T16551 (mF.call (mF.up (mF.up (mF.call (mF.up (mF.up (mF.call (mF.up (mF.up (mF.call (mF.up (mF.up (mF.call (mF.up (mF.up (mF.call (mF.up (mF.up (mF.up mF.refl (A_94 hw) u2 rfl) (A_100 hw) u5 rfl) (A_94 hw) u11 rfl) F8676 rfl) (A_100 hw) u8698 rfl) (A_94 hw) u8707 rfl) F12956 rfl) (A_100 hw) u12978 rfl) (A_94 hw) u12987 rfl) F15028 rfl) (A_100 hw) u15050 rfl) (A_94 hw) u15059 rfl) F15996 rfl) (A_100 hw) u16018 rfl) (A_94 hw) u16027 rfl) F16412 rfl) (A_100 hw) u16434 rfl) (A_94 hw) u16443 rfl) F16552 rfl) ⟨z16439, (F16552.f (A_94 hw) rfl u16443.1), (vc_X4_prepare_v_14 h16441), (by show radix μ16548 100 95 (μ16548 94 9); rw [(F16552.f (A_94 hw) rfl u16443.1)]; exact radix.mk (F16552.f (A_95 hw) rfl (u16443.f (Or.inl (mAt.ne (A_94 hw) (A_95 hw) rfl)) q16437)) (F16552.f (A_95 hw) rfl (u16443.f (Or.inl (mAt.ne (A_94 hw) (A_95 hw) rfl)) (u16434.f (Or.inl (mAt.ne (A_100 hw) (A_95 hw) rfl)) (F16412.f (A_95 hw) rfl (u16027.f (Or.inl (mAt.ne (A_94 hw) (A_95 hw) rfl)) q16021))))) (F16552.f (A_95 hw) rfl (u16443.f (Or.inl (mAt.ne (A_94 hw) (A_95 hw) rfl)) (u16434.f (Or.inl (mAt.ne (A_100 hw) (A_95 hw) rfl)) (F16412.f (A_95 hw) rfl (u16027.f (Or.inl (mAt.ne (A_94 hw) (A_95 hw) rfl)) (u16018.f (Or.inl (mAt.ne (A_100 hw) (A_95 hw) rfl)) (F15996.f (A_95 hw) rfl (u15059.f (Or.inl (mAt.ne (A_94 hw) (A_95 hw) rfl)) q15053)))))))) (F16552.f (A_95 hw) rfl (u16443.f (Or.inl (mAt.ne (A_94 hw) (A_95 hw) rfl)) (u16434.f (Or.inl (mAt.ne (A_100 hw) (A_95 hw) rfl)) (F16412.f (A_95 hw) rfl (u16027.f (Or.inl (mAt.ne (A_94 hw) (A_95 hw) rfl)) (u16018.f (Or.inl (mAt.ne (A_100 hw) (A_95 hw) rfl)) (F15996.f (A_95 hw) rfl (u15059.f (Or.inl (mAt.ne (A_94 hw) (A_95 hw) rfl)) (u15050.f (Or.inl (mAt.ne (A_100 hw) (A_95 hw) rfl)) (F15028.f (A_95 hw) rfl (u12987.f (Or.inl (mAt.ne (A_94 hw) (A_95 hw) rfl)) q12981))))))))))) (F16552.f (A_95 hw) rfl (u16443.f (Or.inl (mAt.ne (A_94 hw) (A_95 hw) rfl)) (u16434.f (Or.inl (mAt.ne (A_100 hw) (A_95 hw) rfl)) (F16412.f (A_95 hw) rfl (u16027.f (Or.inl (mAt.ne (A_94 hw) (A_95 hw) rfl)) (u16018.f (Or.inl (mAt.ne (A_100 hw) (A_95 hw) rfl)) (F15996.f (A_95 hw) rfl (u15059.f (Or.inl (mAt.ne (A_94 hw) (A_95 hw) rfl)) (u15050.f (Or.inl (mAt.ne (A_100 hw) (A_95 hw) rfl)) (F15028.f (A_95 hw) rfl (u12987.f (Or.inl (mAt.ne (A_94 hw) (A_95 hw) rfl)) (u12978.f (Or.inl (mAt.ne (A_100 hw) (A_95 hw) rfl)) (F12956.f (A_95 hw) rfl (u8707.f (Or.inl (mAt.ne (A_94 hw) (A_95 hw) rfl)) q8701)))))))))))))) (F16552.f (A_95 hw) rfl (u16443.f (Or.inl (mAt.ne (A_94 hw) (A_95 hw) rfl)) (u16434.f (Or.inl (mAt.ne (A_100 hw) (A_95 hw) rfl)) (F16412.f (A_95 hw) rfl (u16027.f (Or.inl (mAt.ne (A_94 hw) (A_95 hw) rfl)) (u16018.f (Or.inl (mAt.ne (A_100 hw) (A_95 hw) rfl)) (F15996.f (A_95 hw) rfl (u15059.f (Or.inl (mAt.ne (A_94 hw) (A_95 hw) rfl)) (u15050.f (Or.inl (mAt.ne (A_100 hw) (A_95 hw) rfl)) (F15028.f (A_95 hw) rfl (u12987.f (Or.inl (mAt.ne (A_94 hw) (A_95 hw) rfl)) (u12978.f (Or.inl (mAt.ne (A_100 hw) (A_95 hw) rfl)) (F12956.f (A_95 hw) rfl (u8707.f (Or.inl (mAt.ne (A_94 hw) (A_95 hw) rfl)) (u8698.f (Or.inl (mAt.ne (A_100 hw) (A_95 hw) rfl)) (F8676.f (A_95 hw) rfl (u11.f (Or.inl (mAt.ne (A_94 hw) (A_95 hw) rfl)) q8))))))))))))))))) (F16552.f (A_100 hw) rfl (u16443.f (Or.inl (mAt.ne (A_94 hw) (A_100 hw) rfl)) u16434.1)) (F16552.f (A_100 hw) rfl (u16443.f (Or.inl (mAt.ne (A_94 hw) (A_100 hw) rfl)) (u16434.f (Or.inr vc_X12_states_r_8) (F16412.f (A_100 hw) rfl (u16027.f (Or.inl (mAt.ne (A_94 hw) (A_100 hw) rfl)) u16018.1))))) (F16552.f (A_100 hw) rfl (u16443.f (Or.inl (mAt.ne (A_94 hw) (A_100 hw) rfl)) (u16434.f (Or.inr vc_X12_states_r_10) (F16412.f (A_100 hw) rfl (u16027.f (Or.inl (mAt.ne (A_94 hw) (A_100 hw) rfl)) (u16018.f (Or.inr vc_X12_states_r_9) (F15996.f (A_100 hw) rfl (u15059.f (Or.inl (mAt.ne (A_94 hw) (A_100 hw) rfl)) u15050.1)))))))) (F16552.f (A_100 hw) rfl (u16443.f (Or.inl (mAt.ne (A_94 hw) (A_100 hw) rfl)) (u16434.f (Or.inr vc_X12_states_r_13) (F16412.f (A_100 hw) rfl (u16027.f (Or.inl (mAt.ne (A_94 hw) (A_100 hw) rfl)) (u16018.f (Or.inr vc_X12_states_r_12) (F15996.f (A_100 hw) rfl (u15059.f (Or.inl (mAt.ne (A_94 hw) (A_100 hw) rfl)) (u15050.f (Or.inr vc_X12_states_r_11) (F15028.f (A_100 hw) rfl (u12987.f (Or.inl (mAt.ne (A_94 hw) (A_100 hw) rfl)) u12978.1))))))))))) (F16552.f (A_100 hw) rfl (u16443.f (Or.inl (mAt.ne (A_94 hw) (A_100 hw) rfl)) (u16434.f (Or.inr vc_X12_states_r_17) (F16412.f (A_100 hw) rfl (u16027.f (Or.inl (mAt.ne (A_94 hw) (A_100 hw) rfl)) (u16018.f (Or.inr vc_X12_states_r_16) (F15996.f (A_100 hw) rfl (u15059.f (Or.inl (mAt.ne (A_94 hw) (A_100 hw) rfl)) (u15050.f (Or.inr vc_X12_states_r_15) (F15028.f (A_100 hw) rfl (u12987.f (Or.inl (mAt.ne (A_94 hw) (A_100 hw) rfl)) (u12978.f (Or.inr vc_X12_states_r_14) (F12956.f (A_100 hw) rfl (u8707.f (Or.inl (mAt.ne (A_94 hw) (A_100 hw) rfl)) u8698.1)))))))))))))) (F16552.f (A_100 hw) rfl (u16443.f (Or.inl (mAt.ne (A_94 hw) (A_100 hw) rfl)) (u16434.f (Or.inr vc_X12_states_r_22) (F16412.f (A_100 hw) rfl (u16027.f (Or.inl (mAt.ne (A_94 hw) (A_100 hw) rfl)) (u16018.f (Or.inr vc_X12_states_r_21) (F15996.f (A_100 hw) rfl (u15059.f (Or.inl (mAt.ne (A_94 hw) (A_100 hw) rfl)) (u15050.f (Or.inr vc_X12_states_r_20) (F15028.f (A_100 hw) rfl (u12987.f (Or.inl (mAt.ne (A_94 hw) (A_100 hw) rfl)) (u12978.f (Or.inr vc_X12_states_r_19) (F12956.f (A_100 hw) rfl (u8707.f (Or.inl (mAt.ne (A_94 hw) (A_100 hw) rfl)) (u8698.f (Or.inr vc_X12_states_r_18) (F8676.f (A_100 hw) rfl (u11.f (Or.inl (mAt.ne (A_94 hw) (A_100 hw) rfl)) u5.1))))))))))))))))) (vc_X12_states_r_29 h16025) (vc_X12_states_r_30 h15057) (vc_X12_states_r_31 h12985) (vc_X12_states_r_32 h8705) (vc_X4_prepare_v_34 h8696 h9 h8674) vc_X12_states_r_34 rfl q8704.symm q12984.symm q15056.symm q16024.symm q16440.symm), (by rw [(F16552.f (A_94 hw) rfl u16443.1)]; exact (wgT.mk (F16552.f (A_95 hw) rfl (u16443.f (Or.inl (mAt.ne (A_94 hw) (A_95 hw) rfl)) q16437)) (F16552.f (A_95 hw) rfl (u16443.f (Or.inl (mAt.ne (A_94 hw) (A_95 hw) rfl)) (u16434.f (Or.inl (mAt.ne (A_100 hw) (A_95 hw) rfl)) (F16412.f (A_95 hw) rfl (u16027.f (Or.inl (mAt.ne (A_94 hw) (A_95 hw) rfl)) q16021))))) (F16552.f (A_95 hw) rfl (u16443.f (Or.inl (mAt.ne (A_94 hw) (A_95 hw) rfl)) (u16434.f (Or.inl (mAt.ne (A_100 hw) (A_95 hw) rfl)) (F16412.f (A_95 hw) rfl (u16027.f (Or.inl (mAt.ne (A_94 hw) (A_95 hw) rfl)) (u16018.f (Or.inl (mAt.ne (A_100 hw) (A_95 hw) rfl)) (F15996.f (A_95 hw) rfl (u15059.f (Or.inl (mAt.ne (A_94 hw) (A_95 hw) rfl)) q15053)))))))) (F16552.f (A_95 hw) rfl (u16443.f (Or.inl (mAt.ne (A_94 hw) (A_95 hw) rfl)) (u16434.f (Or.inl (mAt.ne (A_100 hw) (A_95 hw) rfl)) (F16412.f (A_95 hw) rfl (u16027.f (Or.inl (mAt.ne (A_94 hw) (A_95 hw) rfl)) (u16018.f (Or.inl (mAt.ne (A_100 hw) (A_95 hw) rfl)) (F15996.f (A_95 hw) rfl (u15059.f (Or.inl (mAt.ne (A_94 hw) (A_95 hw) rfl)) (u15050.f (Or.inl (mAt.ne (A_100 hw) (A_95 hw) rfl)) (F15028.f (A_95 hw) rfl (u12987.f (Or.inl (mAt.ne (A_94 hw) (A_95 hw) rfl)) q12981))))))))))) (F16552.f (A_95 hw) rfl (u16443.f (Or.inl (mAt.ne (A_94 hw) (A_95 hw) rfl)) (u16434.f (Or.inl (mAt.ne (A_100 hw) (A_95 hw) rfl)) (F16412.f (A_95 hw) rfl (u16027.f (Or.inl (mAt.ne (A_94 hw) (A_95 hw) rfl)) (u16018.f (Or.inl (mAt.ne (A_100 hw) (A_95 hw) rfl)) (F15996.f (A_95 hw) rfl (u15059.f (Or.inl (mAt.ne (A_94 hw) (A_95 hw) rfl)) (u15050.f (Or.inl (mAt.ne (A_100 hw) (A_95 hw) rfl)) (F15028.f (A_95 hw) rfl (u12987.f (Or.inl (mAt.ne (A_94 hw) (A_95 hw) rfl)) (u12978.f (Or.inl (mAt.ne (A_100 hw) (A_95 hw) rfl)) (F12956.f (A_95 hw) rfl (u8707.f (Or.inl (mAt.ne (A_94 hw) (A_95 hw) rfl)) q8701)))))))))))))) (F16552.f (A_95 hw) rfl (u16443.f (Or.inl (mAt.ne (A_94 hw) (A_95 hw) rfl)) (u16434.f (Or.inl (mAt.ne (A_100 hw) (A_95 hw) rfl)) (F16412.f (A_95 hw) rfl (u16027.f (Or.inl (mAt.ne (A_94 hw) (A_95 hw) rfl)) (u16018.f (Or.inl (mAt.ne (A_100 hw) (A_95 hw) rfl)) (F15996.f (A_95 hw) rfl (u15059.f (Or.inl (mAt.ne (A_94 hw) (A_95 hw) rfl)) (u15050.f (Or.inl (mAt.ne (A_100 hw) (A_95 hw) rfl)) (F15028.f (A_95 hw) rfl (u12987.f (Or.inl (mAt.ne (A_94 hw) (A_95 hw) rfl)) (u12978.f (Or.inl (mAt.ne (A_100 hw) (A_95 hw) rfl)) (F12956.f (A_95 hw) rfl (u8707.f (Or.inl (mAt.ne (A_94 hw) (A_95 hw) rfl)) (u8698.f (Or.inl (mAt.ne (A_100 hw) (A_95 hw) rfl)) (F8676.f (A_95 hw) rfl (u11.f (Or.inl (mAt.ne (A_94 hw) (A_95 hw) rfl)) q8))))))))))))))))) (F16552.f (A_100 hw) rfl (u16443.f (Or.inl (mAt.ne (A_94 hw) (A_100 hw) rfl)) u16434.1)) (F16552.f (A_100 hw) rfl (u16443.f (Or.inl (mAt.ne (A_94 hw) (A_100 hw) rfl)) (u16434.f (Or.inr vc_X12_states_r_8) (F16412.f (A_100 hw) rfl (u16027.f (Or.inl (mAt.ne (A_94 hw) (A_100 hw) rfl)) u16018.1))))) (F16552.f (A_100 hw) rfl (u16443.f (Or.inl (mAt.ne (A_94 hw) (A_100 hw) rfl)) (u16434.f (Or.inr vc_X12_states_r_10) (F16412.f (A_100 hw) rfl (u16027.f (Or.inl (mAt.ne (A_94 hw) (A_100 hw) rfl)) (u16018.f (Or.inr vc_X12_states_r_9) (F15996.f (A_100 hw) rfl (u15059.f (Or.inl (mAt.ne (A_94 hw) (A_100 hw) rfl)) u15050.1)))))))) (F16552.f (A_100 hw) rfl (u16443.f (Or.inl (mAt.ne (A_94 hw) (A_100 hw) rfl)) (u16434.f (Or.inr vc_X12_states_r_13) (F16412.f (A_100 hw) rfl (u16027.f (Or.inl (mAt.ne (A_94 hw) (A_100 hw) rfl)) (u16018.f (Or.inr vc_X12_states_r_12) (F15996.f (A_100 hw) rfl (u15059.f (Or.inl (mAt.ne (A_94 hw) (A_100 hw) rfl)) (u15050.f (Or.inr vc_X12_states_r_11) (F15028.f (A_100 hw) rfl (u12987.f (Or.inl (mAt.ne (A_94 hw) (A_100 hw) rfl)) u12978.1))))))))))) (F16552.f (A_100 hw) rfl (u16443.f (Or.inl (mAt.ne (A_94 hw) (A_100 hw) rfl)) (u16434.f (Or.inr vc_X12_states_r_17) (F16412.f (A_100 hw) rfl (u16027.f (Or.inl (mAt.ne (A_94 hw) (A_100 hw) rfl)) (u16018.f (Or.inr vc_X12_states_r_16) (F15996.f (A_100 hw) rfl (u15059.f (Or.inl (mAt.ne (A_94 hw) (A_100 hw) rfl)) (u15050.f (Or.inr vc_X12_states_r_15) (F15028.f (A_100 hw) rfl (u12987.f (Or.inl (mAt.ne (A_94 hw) (A_100 hw) rfl)) (u12978.f (Or.inr vc_X12_states_r_14) (F12956.f (A_100 hw) rfl (u8707.f (Or.inl (mAt.ne (A_94 hw) (A_100 hw) rfl)) u8698.1)))))))))))))) (F16552.f (A_100 hw) rfl (u16443.f (Or.inl (mAt.ne (A_94 hw) (A_100 hw) rfl)) (u16434.f (Or.inr vc_X12_states_r_22) (F16412.f (A_100 hw) rfl (u16027.f (Or.inl (mAt.ne (A_94 hw) (A_100 hw) rfl)) (u16018.f (Or.inr vc_X12_states_r_21) (F15996.f (A_100 hw) rfl (u15059.f (Or.inl (mAt.ne (A_94 hw) (A_100 hw) rfl)) (u15050.f (Or.inr vc_X12_states_r_20) (F15028.f (A_100 hw) rfl (u12987.f (Or.inl (mAt.ne (A_94 hw) (A_100 hw) rfl)) (u12978.f (Or.inr vc_X12_states_r_19) (F12956.f (A_100 hw) rfl (u8707.f (Or.inl (mAt.ne (A_94 hw) (A_100 hw) rfl)) (u8698.f (Or.inr vc_X12_states_r_18) (F8676.f (A_100 hw) rfl (u11.f (Or.inl (mAt.ne (A_94 hw) (A_100 hw) rfl)) u5.1))))))))))))))))) rfl rfl q8704.symm q12984.symm q15056.symm q16024.symm q16440.symm)), (ndT.all R16554 vc_X12_isRest_v_36 (F16552.f (A_95 hw) rfl (u16443.f (Or.inl (mAt.ne (A_94 hw) (A_95 hw) rfl)) q16437)) (vc_X12_acted_v_5 h16572 h16438 h16550)), trivial⟩
                                    have h16573 : 0 ≤ z16547 ∧ z16547 ≤ 4 := (vc_X4_actOf_2 h16572 h16438 h16550)
                                    have h16574 : 1 ≤ z16436 ∧ z16436 ≤ 5 := (vc_X4_actOf_3 h16572 h16438 h16573)
                                    refine sv_aload_n (pc := 52) dX4_prepare_52 rfl rfl ?_
                                    refine mr_iload_n (pc := 53) (z := 1) dX4_prepare_53 rfl rfl ?_
                                    refine mr_iconst (pc := 54) (z := 5) dX4_prepare_54 ?_
                                    refine mr_imul (pc := 55) (x := 1) (y := 5) dX4_prepare_55 ?_
                                    refine mr_iload_n (pc := 56) (z := z16547) dX4_prepare_56 rfl rfl ?_
                                    refine mr_iadd (pc := 57) (x := (1 * 5)) (y := z16547) dX4_prepare_57 ?_
                                    obtain ⟨z16575, q16576⟩ : ∃ z, μ16548 96 (((7 * ((1 * 5) + z16547)) + 1).toNat) = z := ⟨_, rfl⟩
                                    have h16577 : (0 ≤ z16575 ∧ z16575 ≤ 6) := by rw [← q16576]; exact T16551 96 96 (A_96 hw) (((7 * ((1 * 5) + z16547)) + 1).toNat)
                                    obtain ⟨z16578, q16579⟩ : ∃ z, μ16548 97 (((1 * 5) + z16547).toNat) = z := ⟨_, rfl⟩
                                    have h16580 : (0 ≤ z16578 ∧ z16578 ≤ 7) := by rw [← q16579]; exact T16551 97 97 (A_97 hw) (((1 * 5) + z16547).toNat)
                                    obtain ⟨z16581, q16582⟩ : ∃ z, μ16548 95 (z16575.toNat) = z := ⟨_, rfl⟩
                                    have h16583 : (0 ≤ z16581 ∧ z16581 ≤ 5) := by rw [← q16582]; exact T16551 95 95 (A_95 hw) (z16575.toNat)
                                    refine mr_cVV (pc := 58) (c_X4_need_v hw T16551 (rW (c := 5) (d := 34) (rAdd (e := 5) (f := 9) (rMulL (n := 1) (e := 5) (f := 5) (rR (x := 5)) rfl) h16573 rfl) rfl) q16576 q16579 q16582) (gOk _ _ _ _ _) dX4_prepare_58 (tX4_need _ _ _ _ _) ⟨wV_X4_need, wL_X4_need⟩ wM_X4_63 (gCX4 _ _ _ _ _) rfl (A_94 hw) rfl ⟨le_t rfl, le_t rfl⟩ ⟨le_t rfl, le_t rfl⟩ rfl (le_t rfl) fun μ16584 T16585 F16586 h16587 => ?_
                                    refine mr_iinc (pc := 61) (lv' := [(2, iv (z16547 + 1)), (0, .ref 94), (1, iv 1)]) dX4_prepare_61 rfl (by decide) rfl ?_
                                    refine sv_goto (pc := 64) (tgt := 42) dX4_prepare_64 (by decide) ?_
                                    refine mr_lvS (lv' := [(0, .ref 94), (1, iv 1), (2, iv (z16547 + 1))]) (List.forall_mem_cons.mpr ⟨rfl, List.forall_mem_cons.mpr ⟨rfl, List.forall_mem_cons.mpr ⟨rfl, fun _ h => absurd h List.not_mem_nil⟩⟩⟩) ?_
                                    exact ih16556 (z16547 + 1) μ16584 T16585 (mF.call (mF.call mF.refl F16552 rfl) F16586 rfl) (rW (c := 0) (d := 5) (rAdd (e := 1) (f := 5) h16573 (rR (x := 1)) rfl) rfl) (ndT.next R16554 (fun p => (T16551 95 95 (A_95 hw) p).2) (vc_X4_prepare_v_41 h16572 h16574 h16573) (vc_X4_prepare_v_42 h16572 h16574 h16573) h16587.1 (rowB (A_95 hw) ((mF.call mF.refl F16586 rfl) : mF [98999, 99999] w μ16548 μ16584) rfl rfl) (rowB (A_96 hw) ((mF.call mF.refl F16586 rfl) : mF [98999, 99999] w μ16548 μ16584) rfl rfl) (rowB (A_97 hw) ((mF.call mF.refl F16586 rfl) : mF [98999, 99999] w μ16548 μ16584) rfl rfl)) (vc_X4_actOf_6 (nS h16555) h16572 h16574 h16573)
                                refine mr_lvS (lv' := [(0, .ref 94), (1, iv 1), (2, iv 0)]) (List.forall_mem_cons.mpr ⟨rfl, List.forall_mem_cons.mpr ⟨rfl, List.forall_mem_cons.mpr ⟨rfl, fun _ h => absurd h List.not_mem_nil⟩⟩⟩) ?_
                                exact L16549 7 0 μ16442 T16444 mF.refl (rW (c := 0) (d := 5) (rR (x := 0)) rfl) (ndT.shift (ndT.of R16414 (rowB (A_95 hw) ((mF.up (mF.up mF.refl (A_100 hw) u16434 rfl) (A_94 hw) u16443 rfl) : mF [94009, 100999] w μ16408 μ16442) rfl rfl) (rowB (A_96 hw) ((mF.up (mF.up mF.refl (A_100 hw) u16434 rfl) (A_94 hw) u16443 rfl) : mF [94009, 100999] w μ16408 μ16442) rfl rfl) (rowB (A_97 hw) ((mF.up (mF.up mF.refl (A_100 hw) u16434 rfl) (A_94 hw) u16443 rfl) : mF [94009, 100999] w μ16408 μ16442) rfl rfl) (rowB (A_98 hw) ((mF.up (mF.up mF.refl (A_100 hw) u16434 rfl) (A_94 hw) u16443 rfl) : mF [94009, 100999] w μ16408 μ16442) rfl rfl) (rowB (A_99 hw) ((mF.up (mF.up mF.refl (A_100 hw) u16434 rfl) (A_94 hw) u16443 rfl) : mF [94009, 100999] w μ16408 μ16442) rfl rfl)) (u16443.f (Or.inl (mAt.ne (A_94 hw) (A_95 hw) rfl)) (u16434.f (Or.inl (mAt.ne (A_100 hw) (A_95 hw) rfl)) (F16412.f (A_95 hw) rfl (u16027.f (Or.inl (mAt.ne (A_94 hw) (A_95 hw) rfl)) q16021)))) (vc_X12_acted_v_5 h16432 h16022 h16410) vc_X4_prepare_v_45 vc_X12_route_u_30 vc_X12_isOffered_v_15) vc_X4_actOf_9
                              have h16588 : 0 ≤ z16407 ∧ z16407 ≤ 4 := (vc_X4_actOf_2 h16432 h16022 h16410)
                              have h16589 : 1 ≤ z16020 ∧ z16020 ≤ 5 := (vc_X4_actOf_3 h16432 h16022 h16588)
                              refine sv_aload_n (pc := 52) dX4_prepare_52 rfl rfl ?_
                              refine mr_iload_n (pc := 53) (z := 2) dX4_prepare_53 rfl rfl ?_
                              refine mr_iconst (pc := 54) (z := 5) dX4_prepare_54 ?_
                              refine mr_imul (pc := 55) (x := 2) (y := 5) dX4_prepare_55 ?_
                              refine mr_iload_n (pc := 56) (z := z16407) dX4_prepare_56 rfl rfl ?_
                              refine mr_iadd (pc := 57) (x := (2 * 5)) (y := z16407) dX4_prepare_57 ?_
                              obtain ⟨z16590, q16591⟩ : ∃ z, μ16408 96 (((7 * ((2 * 5) + z16407)) + 1).toNat) = z := ⟨_, rfl⟩
                              have h16592 : (0 ≤ z16590 ∧ z16590 ≤ 6) := by rw [← q16591]; exact T16411 96 96 (A_96 hw) (((7 * ((2 * 5) + z16407)) + 1).toNat)
                              obtain ⟨z16593, q16594⟩ : ∃ z, μ16408 97 (((2 * 5) + z16407).toNat) = z := ⟨_, rfl⟩
                              have h16595 : (0 ≤ z16593 ∧ z16593 ≤ 7) := by rw [← q16594]; exact T16411 97 97 (A_97 hw) (((2 * 5) + z16407).toNat)
                              obtain ⟨z16596, q16597⟩ : ∃ z, μ16408 95 (z16590.toNat) = z := ⟨_, rfl⟩
                              have h16598 : (0 ≤ z16596 ∧ z16596 ≤ 5) := by rw [← q16597]; exact T16411 95 95 (A_95 hw) (z16590.toNat)
                              refine mr_cVV (pc := 58) (c_X4_need_v hw T16411 (rW (c := 5) (d := 34) (rAdd (e := 10) (f := 14) (rMulL (n := 2) (e := 10) (f := 10) (rR (x := 5)) rfl) h16588 rfl) rfl) q16591 q16594 q16597) (gOk _ _ _ _ _) dX4_prepare_58 (tX4_need _ _ _ _ _) ⟨wV_X4_need, wL_X4_need⟩ wM_X4_63 (gCX4 _ _ _ _ _) rfl (A_94 hw) rfl ⟨le_t rfl, le_t rfl⟩ ⟨le_t rfl, le_t rfl⟩ rfl (le_t rfl) fun μ16599 T16600 F16601 h16602 => ?_
                              refine mr_iinc (pc := 61) (lv' := [(2, iv (z16407 + 1)), (0, .ref 94), (1, iv 2)]) dX4_prepare_61 rfl (by decide) rfl ?_
                              refine sv_goto (pc := 64) (tgt := 42) dX4_prepare_64 (by decide) ?_
                              refine mr_lvS (lv' := [(0, .ref 94), (1, iv 2), (2, iv (z16407 + 1))]) (List.forall_mem_cons.mpr ⟨rfl, List.forall_mem_cons.mpr ⟨rfl, List.forall_mem_cons.mpr ⟨rfl, fun _ h => absurd h List.not_mem_nil⟩⟩⟩) ?_
                              exact ih16416 (z16407 + 1) μ16599 T16600 (mF.call (mF.call mF.refl F16412 rfl) F16601 rfl) (rW (c := 0) (d := 5) (rAdd (e := 1) (f := 5) h16588 (rR (x := 1)) rfl) rfl) (ndT.next R16414 (fun p => (T16411 95 95 (A_95 hw) p).2) (vc_X4_prepare_v_51 h16432 h16589 h16588) (vc_X4_prepare_v_52 h16432 h16589 h16588) h16602.1 (rowB (A_95 hw) ((mF.call mF.refl F16601 rfl) : mF [98999, 99999] w μ16408 μ16599) rfl rfl) (rowB (A_96 hw) ((mF.call mF.refl F16601 rfl) : mF [98999, 99999] w μ16408 μ16599) rfl rfl) (rowB (A_97 hw) ((mF.call mF.refl F16601 rfl) : mF [98999, 99999] w μ16408 μ16599) rfl rfl)) (vc_X4_actOf_6 (nS h16415) h16432 h16589 h16588)
                          refine mr_lvS (lv' := [(0, .ref 94), (1, iv 2), (2, iv 0)]) (List.forall_mem_cons.mpr ⟨rfl, List.forall_mem_cons.mpr ⟨rfl, List.forall_mem_cons.mpr ⟨rfl, fun _ h => absurd h List.not_mem_nil⟩⟩⟩) ?_
                          exact L16409 7 0 μ16026 T16028 mF.refl (rW (c := 0) (d := 5) (rR (x := 0)) rfl) (ndT.shift (ndT.of R15998 (rowB (A_95 hw) ((mF.up (mF.up mF.refl (A_100 hw) u16018 rfl) (A_94 hw) u16027 rfl) : mF [94009, 100999] w μ15992 μ16026) rfl rfl) (rowB (A_96 hw) ((mF.up (mF.up mF.refl (A_100 hw) u16018 rfl) (A_94 hw) u16027 rfl) : mF [94009, 100999] w μ15992 μ16026) rfl rfl) (rowB (A_97 hw) ((mF.up (mF.up mF.refl (A_100 hw) u16018 rfl) (A_94 hw) u16027 rfl) : mF [94009, 100999] w μ15992 μ16026) rfl rfl) (rowB (A_98 hw) ((mF.up (mF.up mF.refl (A_100 hw) u16018 rfl) (A_94 hw) u16027 rfl) : mF [94009, 100999] w μ15992 μ16026) rfl rfl) (rowB (A_99 hw) ((mF.up (mF.up mF.refl (A_100 hw) u16018 rfl) (A_94 hw) u16027 rfl) : mF [94009, 100999] w μ15992 μ16026) rfl rfl)) (u16027.f (Or.inl (mAt.ne (A_94 hw) (A_95 hw) rfl)) (u16018.f (Or.inl (mAt.ne (A_100 hw) (A_95 hw) rfl)) (F15996.f (A_95 hw) rfl (u15059.f (Or.inl (mAt.ne (A_94 hw) (A_95 hw) rfl)) q15053)))) (vc_X12_acted_v_5 h16016 h15054 h15994) vc_X4_prepare_v_54 vc_X12_route_u_33 vc_X12_isOffered_v_15) vc_X4_actOf_9
                        have h16603 : 0 ≤ z15991 ∧ z15991 ≤ 4 := (vc_X4_actOf_2 h16016 h15054 h15994)
                        have h16604 : 1 ≤ z15052 ∧ z15052 ≤ 5 := (vc_X4_actOf_3 h16016 h15054 h16603)
                        refine sv_aload_n (pc := 52) dX4_prepare_52 rfl rfl ?_
                        refine mr_iload_n (pc := 53) (z := 3) dX4_prepare_53 rfl rfl ?_
                        refine mr_iconst (pc := 54) (z := 5) dX4_prepare_54 ?_
                        refine mr_imul (pc := 55) (x := 3) (y := 5) dX4_prepare_55 ?_
                        refine mr_iload_n (pc := 56) (z := z15991) dX4_prepare_56 rfl rfl ?_
                        refine mr_iadd (pc := 57) (x := (3 * 5)) (y := z15991) dX4_prepare_57 ?_
                        obtain ⟨z16605, q16606⟩ : ∃ z, μ15992 96 (((7 * ((3 * 5) + z15991)) + 1).toNat) = z := ⟨_, rfl⟩
                        have h16607 : (0 ≤ z16605 ∧ z16605 ≤ 6) := by rw [← q16606]; exact T15995 96 96 (A_96 hw) (((7 * ((3 * 5) + z15991)) + 1).toNat)
                        obtain ⟨z16608, q16609⟩ : ∃ z, μ15992 97 (((3 * 5) + z15991).toNat) = z := ⟨_, rfl⟩
                        have h16610 : (0 ≤ z16608 ∧ z16608 ≤ 7) := by rw [← q16609]; exact T15995 97 97 (A_97 hw) (((3 * 5) + z15991).toNat)
                        obtain ⟨z16611, q16612⟩ : ∃ z, μ15992 95 (z16605.toNat) = z := ⟨_, rfl⟩
                        have h16613 : (0 ≤ z16611 ∧ z16611 ≤ 5) := by rw [← q16612]; exact T15995 95 95 (A_95 hw) (z16605.toNat)
                        refine mr_cVV (pc := 58) (c_X4_need_v hw T15995 (rW (c := 5) (d := 34) (rAdd (e := 15) (f := 19) (rMulL (n := 3) (e := 15) (f := 15) (rR (x := 5)) rfl) h16603 rfl) rfl) q16606 q16609 q16612) (gOk _ _ _ _ _) dX4_prepare_58 (tX4_need _ _ _ _ _) ⟨wV_X4_need, wL_X4_need⟩ wM_X4_63 (gCX4 _ _ _ _ _) rfl (A_94 hw) rfl ⟨le_t rfl, le_t rfl⟩ ⟨le_t rfl, le_t rfl⟩ rfl (le_t rfl) fun μ16614 T16615 F16616 h16617 => ?_
                        refine mr_iinc (pc := 61) (lv' := [(2, iv (z15991 + 1)), (0, .ref 94), (1, iv 3)]) dX4_prepare_61 rfl (by decide) rfl ?_
                        refine sv_goto (pc := 64) (tgt := 42) dX4_prepare_64 (by decide) ?_
                        refine mr_lvS (lv' := [(0, .ref 94), (1, iv 3), (2, iv (z15991 + 1))]) (List.forall_mem_cons.mpr ⟨rfl, List.forall_mem_cons.mpr ⟨rfl, List.forall_mem_cons.mpr ⟨rfl, fun _ h => absurd h List.not_mem_nil⟩⟩⟩) ?_
                        exact ih16000 (z15991 + 1) μ16614 T16615 (mF.call (mF.call mF.refl F15996 rfl) F16616 rfl) (rW (c := 0) (d := 5) (rAdd (e := 1) (f := 5) h16603 (rR (x := 1)) rfl) rfl) (ndT.next R15998 (fun p => (T15995 95 95 (A_95 hw) p).2) (vc_X4_prepare_v_59 h16016 h16604 h16603) (vc_X4_prepare_v_60 h16016 h16604 h16603) h16617.1 (rowB (A_95 hw) ((mF.call mF.refl F16616 rfl) : mF [98999, 99999] w μ15992 μ16614) rfl rfl) (rowB (A_96 hw) ((mF.call mF.refl F16616 rfl) : mF [98999, 99999] w μ15992 μ16614) rfl rfl) (rowB (A_97 hw) ((mF.call mF.refl F16616 rfl) : mF [98999, 99999] w μ15992 μ16614) rfl rfl)) (vc_X4_actOf_6 (nS h15999) h16016 h16604 h16603)
                    refine mr_lvS (lv' := [(0, .ref 94), (1, iv 3), (2, iv 0)]) (List.forall_mem_cons.mpr ⟨rfl, List.forall_mem_cons.mpr ⟨rfl, List.forall_mem_cons.mpr ⟨rfl, fun _ h => absurd h List.not_mem_nil⟩⟩⟩) ?_
                    exact L15993 7 0 μ15058 T15060 mF.refl (rW (c := 0) (d := 5) (rR (x := 0)) rfl) (ndT.shift (ndT.of R15030 (rowB (A_95 hw) ((mF.up (mF.up mF.refl (A_100 hw) u15050 rfl) (A_94 hw) u15059 rfl) : mF [94009, 100999] w μ15024 μ15058) rfl rfl) (rowB (A_96 hw) ((mF.up (mF.up mF.refl (A_100 hw) u15050 rfl) (A_94 hw) u15059 rfl) : mF [94009, 100999] w μ15024 μ15058) rfl rfl) (rowB (A_97 hw) ((mF.up (mF.up mF.refl (A_100 hw) u15050 rfl) (A_94 hw) u15059 rfl) : mF [94009, 100999] w μ15024 μ15058) rfl rfl) (rowB (A_98 hw) ((mF.up (mF.up mF.refl (A_100 hw) u15050 rfl) (A_94 hw) u15059 rfl) : mF [94009, 100999] w μ15024 μ15058) rfl rfl) (rowB (A_99 hw) ((mF.up (mF.up mF.refl (A_100 hw) u15050 rfl) (A_94 hw) u15059 rfl) : mF [94009, 100999] w μ15024 μ15058) rfl rfl)) (u15059.f (Or.inl (mAt.ne (A_94 hw) (A_95 hw) rfl)) (u15050.f (Or.inl (mAt.ne (A_100 hw) (A_95 hw) rfl)) (F15028.f (A_95 hw) rfl (u12987.f (Or.inl (mAt.ne (A_94 hw) (A_95 hw) rfl)) q12981)))) (vc_X12_acted_v_5 h15048 h12982 h15026) vc_X4_prepare_v_62 vc_X12_route_u_36 vc_X12_isOffered_v_15) vc_X4_actOf_9
                  have h16618 : 0 ≤ z15023 ∧ z15023 ≤ 4 := (vc_X4_actOf_2 h15048 h12982 h15026)
                  have h16619 : 1 ≤ z12980 ∧ z12980 ≤ 5 := (vc_X4_actOf_3 h15048 h12982 h16618)
                  refine sv_aload_n (pc := 52) dX4_prepare_52 rfl rfl ?_
                  refine mr_iload_n (pc := 53) (z := 4) dX4_prepare_53 rfl rfl ?_
                  refine mr_iconst (pc := 54) (z := 5) dX4_prepare_54 ?_
                  refine mr_imul (pc := 55) (x := 4) (y := 5) dX4_prepare_55 ?_
                  refine mr_iload_n (pc := 56) (z := z15023) dX4_prepare_56 rfl rfl ?_
                  refine mr_iadd (pc := 57) (x := (4 * 5)) (y := z15023) dX4_prepare_57 ?_
                  obtain ⟨z16620, q16621⟩ : ∃ z, μ15024 96 (((7 * ((4 * 5) + z15023)) + 1).toNat) = z := ⟨_, rfl⟩
                  have h16622 : (0 ≤ z16620 ∧ z16620 ≤ 6) := by rw [← q16621]; exact T15027 96 96 (A_96 hw) (((7 * ((4 * 5) + z15023)) + 1).toNat)
                  obtain ⟨z16623, q16624⟩ : ∃ z, μ15024 97 (((4 * 5) + z15023).toNat) = z := ⟨_, rfl⟩
                  have h16625 : (0 ≤ z16623 ∧ z16623 ≤ 7) := by rw [← q16624]; exact T15027 97 97 (A_97 hw) (((4 * 5) + z15023).toNat)
                  obtain ⟨z16626, q16627⟩ : ∃ z, μ15024 95 (z16620.toNat) = z := ⟨_, rfl⟩
                  have h16628 : (0 ≤ z16626 ∧ z16626 ≤ 5) := by rw [← q16627]; exact T15027 95 95 (A_95 hw) (z16620.toNat)
                  refine mr_cVV (pc := 58) (c_X4_need_v hw T15027 (rW (c := 5) (d := 34) (rAdd (e := 20) (f := 24) (rMulL (n := 4) (e := 20) (f := 20) (rR (x := 5)) rfl) h16618 rfl) rfl) q16621 q16624 q16627) (gOk _ _ _ _ _) dX4_prepare_58 (tX4_need _ _ _ _ _) ⟨wV_X4_need, wL_X4_need⟩ wM_X4_63 (gCX4 _ _ _ _ _) rfl (A_94 hw) rfl ⟨le_t rfl, le_t rfl⟩ ⟨le_t rfl, le_t rfl⟩ rfl (le_t rfl) fun μ16629 T16630 F16631 h16632 => ?_
                  refine mr_iinc (pc := 61) (lv' := [(2, iv (z15023 + 1)), (0, .ref 94), (1, iv 4)]) dX4_prepare_61 rfl (by decide) rfl ?_
                  refine sv_goto (pc := 64) (tgt := 42) dX4_prepare_64 (by decide) ?_
                  refine mr_lvS (lv' := [(0, .ref 94), (1, iv 4), (2, iv (z15023 + 1))]) (List.forall_mem_cons.mpr ⟨rfl, List.forall_mem_cons.mpr ⟨rfl, List.forall_mem_cons.mpr ⟨rfl, fun _ h => absurd h List.not_mem_nil⟩⟩⟩) ?_
                  exact ih15032 (z15023 + 1) μ16629 T16630 (mF.call (mF.call mF.refl F15028 rfl) F16631 rfl) (rW (c := 0) (d := 5) (rAdd (e := 1) (f := 5) h16618 (rR (x := 1)) rfl) rfl) (ndT.next R15030 (fun p => (T15027 95 95 (A_95 hw) p).2) (vc_X4_prepare_v_67 h15048 h16619 h16618) (vc_X4_prepare_v_68 h15048 h16619 h16618) h16632.1 (rowB (A_95 hw) ((mF.call mF.refl F16631 rfl) : mF [98999, 99999] w μ15024 μ16629) rfl rfl) (rowB (A_96 hw) ((mF.call mF.refl F16631 rfl) : mF [98999, 99999] w μ15024 μ16629) rfl rfl) (rowB (A_97 hw) ((mF.call mF.refl F16631 rfl) : mF [98999, 99999] w μ15024 μ16629) rfl rfl)) (vc_X4_actOf_6 (nS h15031) h15048 h16619 h16618)
              refine mr_lvS (lv' := [(0, .ref 94), (1, iv 4), (2, iv 0)]) (List.forall_mem_cons.mpr ⟨rfl, List.forall_mem_cons.mpr ⟨rfl, List.forall_mem_cons.mpr ⟨rfl, fun _ h => absurd h List.not_mem_nil⟩⟩⟩) ?_
              exact L15025 7 0 μ12986 T12988 mF.refl (rW (c := 0) (d := 5) (rR (x := 0)) rfl) (ndT.shift (ndT.of R12958 (rowB (A_95 hw) ((mF.up (mF.up mF.refl (A_100 hw) u12978 rfl) (A_94 hw) u12987 rfl) : mF [94009, 100999] w μ12952 μ12986) rfl rfl) (rowB (A_96 hw) ((mF.up (mF.up mF.refl (A_100 hw) u12978 rfl) (A_94 hw) u12987 rfl) : mF [94009, 100999] w μ12952 μ12986) rfl rfl) (rowB (A_97 hw) ((mF.up (mF.up mF.refl (A_100 hw) u12978 rfl) (A_94 hw) u12987 rfl) : mF [94009, 100999] w μ12952 μ12986) rfl rfl) (rowB (A_98 hw) ((mF.up (mF.up mF.refl (A_100 hw) u12978 rfl) (A_94 hw) u12987 rfl) : mF [94009, 100999] w μ12952 μ12986) rfl rfl) (rowB (A_99 hw) ((mF.up (mF.up mF.refl (A_100 hw) u12978 rfl) (A_94 hw) u12987 rfl) : mF [94009, 100999] w μ12952 μ12986) rfl rfl)) (u12987.f (Or.inl (mAt.ne (A_94 hw) (A_95 hw) rfl)) (u12978.f (Or.inl (mAt.ne (A_100 hw) (A_95 hw) rfl)) (F12956.f (A_95 hw) rfl (u8707.f (Or.inl (mAt.ne (A_94 hw) (A_95 hw) rfl)) q8701)))) (vc_X12_tries_57 h12976 h12954 h8702) vc_X4_prepare_v_70 vc_X12_route_u_39 vc_X12_isOffered_v_15) vc_X4_actOf_9
            have h16633 : 0 ≤ z12951 ∧ z12951 ≤ 4 := (vc_X4_prepare_v_72 h12976 h12954 h8702)
            have h16634 : 1 ≤ z8700 ∧ z8700 ≤ 5 := (vc_X4_prepare_v_73 h12976 h16633 h8702)
            refine sv_aload_n (pc := 52) dX4_prepare_52 rfl rfl ?_
            refine mr_iload_n (pc := 53) (z := 5) dX4_prepare_53 rfl rfl ?_
            refine mr_iconst (pc := 54) (z := 5) dX4_prepare_54 ?_
            refine mr_imul (pc := 55) (x := 5) (y := 5) dX4_prepare_55 ?_
            refine mr_iload_n (pc := 56) (z := z12951) dX4_prepare_56 rfl rfl ?_
            refine mr_iadd (pc := 57) (x := (5 * 5)) (y := z12951) dX4_prepare_57 ?_
            obtain ⟨z16635, q16636⟩ : ∃ z, μ12952 96 (((7 * ((5 * 5) + z12951)) + 1).toNat) = z := ⟨_, rfl⟩
            have h16637 : (0 ≤ z16635 ∧ z16635 ≤ 6) := by rw [← q16636]; exact T12955 96 96 (A_96 hw) (((7 * ((5 * 5) + z12951)) + 1).toNat)
            obtain ⟨z16638, q16639⟩ : ∃ z, μ12952 97 (((5 * 5) + z12951).toNat) = z := ⟨_, rfl⟩
            have h16640 : (0 ≤ z16638 ∧ z16638 ≤ 7) := by rw [← q16639]; exact T12955 97 97 (A_97 hw) (((5 * 5) + z12951).toNat)
            obtain ⟨z16641, q16642⟩ : ∃ z, μ12952 95 (z16635.toNat) = z := ⟨_, rfl⟩
            have h16643 : (0 ≤ z16641 ∧ z16641 ≤ 5) := by rw [← q16642]; exact T12955 95 95 (A_95 hw) (z16635.toNat)
            refine mr_cVV (pc := 58) (c_X4_need_v hw T12955 (rW (c := 5) (d := 34) (rAdd (e := 25) (f := 29) (rMulL (n := 5) (e := 25) (f := 25) (rR (x := 5)) rfl) h16633 rfl) rfl) q16636 q16639 q16642) (gOk _ _ _ _ _) dX4_prepare_58 (tX4_need _ _ _ _ _) ⟨wV_X4_need, wL_X4_need⟩ wM_X4_63 (gCX4 _ _ _ _ _) rfl (A_94 hw) rfl ⟨le_t rfl, le_t rfl⟩ ⟨le_t rfl, le_t rfl⟩ rfl (le_t rfl) fun μ16644 T16645 F16646 h16647 => ?_
            refine mr_iinc (pc := 61) (lv' := [(2, iv (z12951 + 1)), (0, .ref 94), (1, iv 5)]) dX4_prepare_61 rfl (by decide) rfl ?_
            refine sv_goto (pc := 64) (tgt := 42) dX4_prepare_64 (by decide) ?_
            refine mr_lvS (lv' := [(0, .ref 94), (1, iv 5), (2, iv (z12951 + 1))]) (List.forall_mem_cons.mpr ⟨rfl, List.forall_mem_cons.mpr ⟨rfl, List.forall_mem_cons.mpr ⟨rfl, fun _ h => absurd h List.not_mem_nil⟩⟩⟩) ?_
            exact ih12960 (z12951 + 1) μ16644 T16645 (mF.call (mF.call mF.refl F12956 rfl) F16646 rfl) (rW (c := 0) (d := 5) (rAdd (e := 1) (f := 5) h16633 (rR (x := 1)) rfl) rfl) (ndT.next R12958 (fun p => (T12955 95 95 (A_95 hw) p).2) (vc_X4_prepare_v_75 h12976 h16633 h16634) (vc_X4_prepare_v_76 h12976 h16633 h16634) h16647.1 (rowB (A_95 hw) ((mF.call mF.refl F16646 rfl) : mF [98999, 99999] w μ12952 μ16644) rfl rfl) (rowB (A_96 hw) ((mF.call mF.refl F16646 rfl) : mF [98999, 99999] w μ12952 μ16644) rfl rfl) (rowB (A_97 hw) ((mF.call mF.refl F16646 rfl) : mF [98999, 99999] w μ12952 μ16644) rfl rfl)) (vc_X4_prepare_v_74 (nS h12959) h12976 h16633 h16634)
        refine mr_lvS (lv' := [(0, .ref 94), (1, iv 5), (2, iv 0)]) (List.forall_mem_cons.mpr ⟨rfl, List.forall_mem_cons.mpr ⟨rfl, List.forall_mem_cons.mpr ⟨rfl, fun _ h => absurd h List.not_mem_nil⟩⟩⟩) ?_
        exact L12953 7 0 μ8706 T8708 mF.refl (rW (c := 0) (d := 5) (rR (x := 0)) rfl) (ndT.shift (ndT.of R8678 (rowB (A_95 hw) ((mF.up (mF.up mF.refl (A_100 hw) u8698 rfl) (A_94 hw) u8707 rfl) : mF [94009, 100999] w μ8672 μ8706) rfl rfl) (rowB (A_96 hw) ((mF.up (mF.up mF.refl (A_100 hw) u8698 rfl) (A_94 hw) u8707 rfl) : mF [94009, 100999] w μ8672 μ8706) rfl rfl) (rowB (A_97 hw) ((mF.up (mF.up mF.refl (A_100 hw) u8698 rfl) (A_94 hw) u8707 rfl) : mF [94009, 100999] w μ8672 μ8706) rfl rfl) (rowB (A_98 hw) ((mF.up (mF.up mF.refl (A_100 hw) u8698 rfl) (A_94 hw) u8707 rfl) : mF [94009, 100999] w μ8672 μ8706) rfl rfl) (rowB (A_99 hw) ((mF.up (mF.up mF.refl (A_100 hw) u8698 rfl) (A_94 hw) u8707 rfl) : mF [94009, 100999] w μ8672 μ8706) rfl rfl)) (u8707.f (Or.inl (mAt.ne (A_94 hw) (A_95 hw) rfl)) (u8698.f (Or.inl (mAt.ne (A_100 hw) (A_95 hw) rfl)) (F8676.f (A_95 hw) rfl (u11.f (Or.inl (mAt.ne (A_94 hw) (A_95 hw) rfl)) q8)))) (vc_X12_acted_v_5 h8696 h9 h8674) vc_X4_prepare_v_78 vc_X4_prepare_v_79 vc_X12_isOffered_v_15) vc_X4_actOf_9
      have h16648 : 0 ≤ z8671 ∧ z8671 ≤ 4 := (vc_X4_actOf_2 h8696 h9 h8674)
      have h16649 : 1 ≤ z7 ∧ z7 ≤ 5 := (vc_X4_actOf_3 h8696 h9 h16648)
      refine sv_aload_n (pc := 52) dX4_prepare_52 rfl rfl ?_
      refine mr_iload_n (pc := 53) (z := 6) dX4_prepare_53 rfl rfl ?_
      refine mr_iconst (pc := 54) (z := 5) dX4_prepare_54 ?_
      refine mr_imul (pc := 55) (x := 6) (y := 5) dX4_prepare_55 ?_
      refine mr_iload_n (pc := 56) (z := z8671) dX4_prepare_56 rfl rfl ?_
      refine mr_iadd (pc := 57) (x := (6 * 5)) (y := z8671) dX4_prepare_57 ?_
      obtain ⟨z16650, q16651⟩ : ∃ z, μ8672 96 (((7 * ((6 * 5) + z8671)) + 1).toNat) = z := ⟨_, rfl⟩
      have h16652 : (0 ≤ z16650 ∧ z16650 ≤ 6) := by rw [← q16651]; exact T8675 96 96 (A_96 hw) (((7 * ((6 * 5) + z8671)) + 1).toNat)
      obtain ⟨z16653, q16654⟩ : ∃ z, μ8672 97 (((6 * 5) + z8671).toNat) = z := ⟨_, rfl⟩
      have h16655 : (0 ≤ z16653 ∧ z16653 ≤ 7) := by rw [← q16654]; exact T8675 97 97 (A_97 hw) (((6 * 5) + z8671).toNat)
      obtain ⟨z16656, q16657⟩ : ∃ z, μ8672 95 (z16650.toNat) = z := ⟨_, rfl⟩
      have h16658 : (0 ≤ z16656 ∧ z16656 ≤ 5) := by rw [← q16657]; exact T8675 95 95 (A_95 hw) (z16650.toNat)
      refine mr_cVV (pc := 58) (c_X4_need_v hw T8675 (rW (c := 5) (d := 34) (rAdd (e := 30) (f := 34) (rMulL (n := 6) (e := 30) (f := 30) (rR (x := 5)) rfl) h16648 rfl) rfl) q16651 q16654 q16657) (gOk _ _ _ _ _) dX4_prepare_58 (tX4_need _ _ _ _ _) ⟨wV_X4_need, wL_X4_need⟩ wM_X4_63 (gCX4 _ _ _ _ _) rfl (A_94 hw) rfl ⟨le_t rfl, le_t rfl⟩ ⟨le_t rfl, le_t rfl⟩ rfl (le_t rfl) fun μ16659 T16660 F16661 h16662 => ?_
      refine mr_iinc (pc := 61) (lv' := [(2, iv (z8671 + 1)), (0, .ref 94), (1, iv 6)]) dX4_prepare_61 rfl (by decide) rfl ?_
      refine sv_goto (pc := 64) (tgt := 42) dX4_prepare_64 (by decide) ?_
      refine mr_lvS (lv' := [(0, .ref 94), (1, iv 6), (2, iv (z8671 + 1))]) (List.forall_mem_cons.mpr ⟨rfl, List.forall_mem_cons.mpr ⟨rfl, List.forall_mem_cons.mpr ⟨rfl, fun _ h => absurd h List.not_mem_nil⟩⟩⟩) ?_
      exact ih8680 (z8671 + 1) μ16659 T16660 (mF.call (mF.call mF.refl F8676 rfl) F16661 rfl) (rW (c := 0) (d := 5) (rAdd (e := 1) (f := 5) h16648 (rR (x := 1)) rfl) rfl) (ndT.next R8678 (fun p => (T8675 95 95 (A_95 hw) p).2) (vc_X4_prepare_v_83 h8696 h16649 h16648) (vc_X4_prepare_v_84 h8696 h16649 h16648) h16662.1 (rowB (A_95 hw) ((mF.call mF.refl F16661 rfl) : mF [98999, 99999] w μ8672 μ16659) rfl rfl) (rowB (A_96 hw) ((mF.call mF.refl F16661 rfl) : mF [98999, 99999] w μ8672 μ16659) rfl rfl) (rowB (A_97 hw) ((mF.call mF.refl F16661 rfl) : mF [98999, 99999] w μ8672 μ16659) rfl rfl)) (vc_X4_actOf_6 (nS h8679) h8696 h16649 h16648)
  refine mr_lvS (lv' := [(0, .ref 94), (1, iv 6), (2, iv 0)]) (List.forall_mem_cons.mpr ⟨rfl, List.forall_mem_cons.mpr ⟨rfl, List.forall_mem_cons.mpr ⟨rfl, fun _ h => absurd h List.not_mem_nil⟩⟩⟩) ?_
  exact L8673 7 0 μ10 T12 mF.refl (rW (c := 0) (d := 5) (rR (x := 0)) rfl) (ndT.none vc_X4_prepare_v_85 vc_X12_isOffered_v_15) vc_X4_actOf_9
