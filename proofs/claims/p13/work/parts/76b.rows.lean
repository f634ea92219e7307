theorem vc_X12_tieOf_end_1 {z409 : Int} (h0 : (21 - z409) < ((0 : Nat) : Int)) (h1 : 0 ≤ z409 ∧ z409 ≤ 20) : False := by omega
theorem vc_X12_tieOf_end_2  : (-(99999999 : Int) : Int) = -(99999999 : Int) ∨ ((0 : Int) ≤ (-(99999999 : Int) : Int) ∧ (-(99999999 : Int) : Int) ≤ (19 : Int)) := by omega
theorem vc_X12_tieOf_end_3 {f_ties z409 : Int} (h0 : z409 < f_ties) (h1 : 0 ≤ f_ties ∧ f_ties ≤ 20) (h2 : 0 ≤ z409 ∧ z409 ≤ 20) : 0 ≤ z409 ∧ z409 ≤ 19 := by omega
theorem vc_X12_tieOf_end_4 {f_ties z409 : Int} (h0 : z409 < f_ties) (h1 : 0 ≤ f_ties ∧ f_ties ≤ 20) (h2 : 0 ≤ z409 ∧ z409 ≤ 19) : 1 ≤ f_ties ∧ f_ties ≤ 20 := by omega
theorem vc_X12_tieOf_end_5 {N f_ties z409 : Int} (h0 : (21 - z409) < N + 1) (h1 : z409 < f_ties) (h2 : 1 ≤ f_ties ∧ f_ties ≤ 20) (h3 : 0 ≤ z409 ∧ z409 ≤ 19) : (21 - (z409 + 1)) < N := by omega
theorem vc_X12_tieOf_end_6 {p1 p2 z420 : Int} (h0 : z420 = p2) (h1 : ¬ z420 = p1) (h2 : (-2147483648) ≤ p1 ∧ p1 ≤ 2147483647) (h3 : (-2147483648) ≤ p2 ∧ p2 ≤ 2147483647) (h4 : 0 ≤ z420 ∧ z420 ≤ 9) : 0 ≤ p2 ∧ p2 ≤ 9 := by omega
theorem vc_X12_tieOf_end_7 {p1 z420 z426 : Int} (h0 : z426 = p1) (h1 : ¬ z420 = p1) (h2 : (-2147483648) ≤ p1 ∧ p1 ≤ 2147483647) (h3 : 0 ≤ z420 ∧ z420 ≤ 9) (h4 : 0 ≤ z426 ∧ z426 ≤ 9) : 0 ≤ p1 ∧ p1 ≤ 9 := by omega
theorem vc_X12_tieOf_end_8 {f_ties z409 : Int} (h0 : z409 < f_ties) (h1 : 1 ≤ f_ties ∧ f_ties ≤ 20) (h2 : 0 ≤ z409 ∧ z409 ≤ 19) : z409 = -99999999 ∨ (0 ≤ z409 ∧ z409 ≤ 19) := by omega
theorem vc_X12_tieOf_end_9 {f_ties p1 p2 z409 z420 z426 : Int} (h0 : z409 < f_ties) (h1 : ¬ z420 = p1) (h2 : z420 = p2) (h3 : z426 = p1) (h4 : 1 ≤ f_ties ∧ f_ties ≤ 20) (h5 : 0 ≤ p1 ∧ p1 ≤ 9) (h6 : 0 ≤ p2 ∧ p2 ≤ 9) (h7 : 0 ≤ z409 ∧ z409 ≤ 19) (h8 : 0 ≤ z420 ∧ z420 ≤ 9) (h9 : 0 ≤ z426 ∧ z426 ≤ 9) : z409 < f_ties ∧ ((z420 = p1 ∧ z426 = p2) ∨ (z420 = p2 ∧ z426 = p1)) := by omega
theorem vc_X12_tieOf_end_10 {p1 z420 : Int} (h0 : z420 = p1) (h1 : (-2147483648) ≤ p1 ∧ p1 ≤ 2147483647) (h2 : 0 ≤ z420 ∧ z420 ≤ 9) : 0 ≤ p1 ∧ p1 ≤ 9 := by omega
theorem vc_X12_tieOf_end_11 {p2 z432 : Int} (h0 : z432 = p2) (h1 : (-2147483648) ≤ p2 ∧ p2 ≤ 2147483647) (h2 : 0 ≤ z432 ∧ z432 ≤ 9) : 0 ≤ p2 ∧ p2 ≤ 9 := by omega
theorem vc_X12_tieOf_end_12 {f_ties p1 p2 z409 z420 z432 : Int} (h0 : z409 < f_ties) (h1 : z420 = p1) (h2 : z432 = p2) (h3 : 1 ≤ f_ties ∧ f_ties ≤ 20) (h4 : 0 ≤ p1 ∧ p1 ≤ 9) (h5 : 0 ≤ p2 ∧ p2 ≤ 9) (h6 : 0 ≤ z409 ∧ z409 ≤ 19) (h7 : 0 ≤ z420 ∧ z420 ≤ 9) (h8 : 0 ≤ z432 ∧ z432 ≤ 9) : z409 < f_ties ∧ ((z420 = p1 ∧ z432 = p2) ∨ (z420 = p2 ∧ z432 = p1)) := by omega
theorem vc_X12_tieOf_end_13 {p1 p2 z420 z432 : Int} (h0 : z420 = p2) (h1 : z420 = p1) (h2 : ¬ z432 = p2) (h3 : 0 ≤ p1 ∧ p1 ≤ 9) (h4 : (-2147483648) ≤ p2 ∧ p2 ≤ 2147483647) (h5 : 0 ≤ z420 ∧ z420 ≤ 9) (h6 : 0 ≤ z432 ∧ z432 ≤ 9) : 0 ≤ p2 ∧ p2 ≤ 9 := by omega
theorem vc_X12_tieOf_end_14 {f_ties p1 p2 z409 z420 z432 : Int} (h0 : z409 < f_ties) (h1 : z420 = p1) (h2 : ¬ z432 = p2) (h3 : z420 = p2) (h4 : z432 = p1) (h5 : 1 ≤ f_ties ∧ f_ties ≤ 20) (h6 : 0 ≤ p1 ∧ p1 ≤ 9) (h7 : 0 ≤ p2 ∧ p2 ≤ 9) (h8 : 0 ≤ z409 ∧ z409 ≤ 19) (h9 : 0 ≤ z420 ∧ z420 ≤ 9) (h10 : 0 ≤ z432 ∧ z432 ≤ 9) : z409 < f_ties ∧ ((z420 = p1 ∧ z432 = p2) ∨ (z420 = p2 ∧ z432 = p1)) := by omega
theorem vc_X12_tieOf_end_15  : (21 - 0) < ((22 : Nat) : Int) := by omega
set_option maxRecDepth 4000 in
set_option maxHeartbeats 4000000 in
theorem c_X12_tieOf_end {l : Launch} {D : va_G} {c : Nat → ClassId} {H0 : Heap} {sa : Nat × Nat × (Nat → Int32)} {w : mW} {μ : mM} (hw : mWF w) (hT : mT w μ) {p1 : Int} (hp1 : (-2147483648) ≤ p1 ∧ p1 ≤ 2147483647) {p2 : Int} (hp2 : (-2147483648) ≤ p2 ∧ p2 ≤ 2147483647) {f_ties : Int} (q_f_ties : μ 106 6 = f_ties) : sC (gG l D c H0 sa) mX12_tieOf 1 0 0 [.ref 106, iv p1, iv p2] (mk w μ) (qP w μ (fun z => ((-99999999) ≤ z ∧ z ≤ 19) ∧ (z = -99999999 ∨ (0 ≤ z ∧ z ≤ 19)) ∧ (z = -99999999 ∨ (z < f_ties ∧ ((μ 110 (2 * z).toNat = p1 ∧ μ 110 ((2 * z) + 1).toNat = p2) ∨ (μ 110 (2 * z).toNat = p2 ∧ μ 110 ((2 * z) + 1).toNat = p1)))) ∧ True)) := by
  refine sC.of rfl (by decide) (le_t rfl) ?_
  have ht_f_ties : (0 ≤ f_ties ∧ f_ties ≤ 20) := by rw [← q_f_ties]; exact hT 106 106 (A_106 hw) 6
  refine mr_lvE (lv' := [(0, .ref 106), (1, iv p1), (2, iv p2)]) rfl ?_
  refine mr_iconst (pc := 0) (z := 0) dX12_tieOf_0 ?_
  refine mr_istore_n (pc := 1) (lv' := [(3, iv 0), (0, .ref 106), (1, iv p1), (2, iv p2)]) dX12_tieOf_1 rfl (by decide) rfl ?_
  have L410 : ∀ (nL410 : Nat) (z409 : Int), True → (0 ≤ z409 ∧ z409 ≤ 20) → (21 - z409) < (nL410 : Int) → sV (gG l D c H0 sa) mX12_tieOf (sRm 1 0 0) (sZ (gG l D c H0 sa) 0 0 (qP w μ (fun z => ((-99999999) ≤ z ∧ z ≤ 19) ∧ (z = -99999999 ∨ (0 ≤ z ∧ z ≤ 19)) ∧ (z = -99999999 ∨ (z < f_ties ∧ ((μ 110 (2 * z).toNat = p1 ∧ μ 110 ((2 * z) + 1).toNat = p2) ∨ (μ 110 (2 * z).toNat = p2 ∧ μ 110 ((2 * z) + 1).toNat = p1)))) ∧ True))) 2 [(0, .ref 106), (1, iv p1), (2, iv p2), (3, iv z409)] [] (mk w μ) 0 0 := by
    intro nL410
    induction nL410 with
    | zero => intro z409 _ h411 h415; exact ((vc_X12_tieOf_end_1 h415 h411)).elim
    | succ nL410 ih416 =>
      intro z409 _ h411 h415
      refine mr_iload_n (pc := 2) (z := z409) dX12_tieOf_2 rfl rfl ?_
      refine sv_aload_n (pc := 3) dX12_tieOf_3 rfl rfl ?_
      refine gk_X12_6 (pc := 4) dX12_tieOf_4 wF_X12_37 (A_106 hw) q_f_ties ?_
      refine mr_icmp_ge (pc := 7) (tgt := 70) dX12_tieOf_7 (by decide) (r32 h411 rfl) (r32 ht_f_ties rfl) (fun h417 => ?_) (fun h417 => ?_)
      · refine mr_ldc (pc := 70) (z := (-99999999)) dX12_tieOf_70 wG_X12_29 (by decide) ?_
        exact mr_iretP dX12_tieOf_72 rfl (le_t rfl) (le_t rfl) ⟨(rW (c := (-99999999)) (d := 19) (rR (x := (-99999999))) rfl), vc_X12_tieOf_end_2, (Or.inl rfl), trivial⟩
      have h418 : 0 ≤ z409 ∧ z409 ≤ 19 := (vc_X12_tieOf_end_3 h417 ht_f_ties h411)
      have h419 : 1 ≤ f_ties ∧ f_ties ≤ 20 := (vc_X12_tieOf_end_4 h417 ht_f_ties h418)
      refine sv_aload_n (pc := 10) dX12_tieOf_10 rfl rfl ?_
      refine gf_X12_7 (pc := 11) dX12_tieOf_11 wF_X12_40 (A_106 hw) hT ?_
      refine mr_iconst (pc := 14) (z := 2) dX12_tieOf_14 ?_
      refine mr_iload_n (pc := 15) (z := z409) dX12_tieOf_15 rfl rfl ?_
      refine mr_imul (pc := 16) (x := 2) (y := z409) dX12_tieOf_16 ?_
      refine la_110 (pc := 17) dX12_tieOf_17 (A_110 hw) hT (rIx (n := 40) (rMulL (n := 2) (e := 0) (f := 38) h418 rfl) rfl) fun z420 q421 h422 => ?_
      refine mr_iload_n (pc := 18) (z := p1) dX12_tieOf_18 rfl rfl ?_
      refine mr_icmp_ne (pc := 19) (tgt := 36) dX12_tieOf_19 (by decide) (r32 h422 rfl) hp1 (fun h423 => ?_) (fun h423 => ?_)
      · refine sv_aload_n (pc := 36) dX12_tieOf_36 rfl rfl ?_
        refine gf_X12_7 (pc := 37) dX12_tieOf_37 wF_X12_40 (A_106 hw) hT ?_
        refine mr_iconst (pc := 40) (z := 2) dX12_tieOf_40 ?_
        refine mr_iload_n (pc := 41) (z := z409) dX12_tieOf_41 rfl rfl ?_
        refine mr_imul (pc := 42) (x := 2) (y := z409) dX12_tieOf_42 ?_
        refine lk_110 (pc := 43) dX12_tieOf_43 (A_110 hw) (rIx (n := 40) (rMulL (n := 2) (e := 0) (f := 38) h418 rfl) rfl) q421 ?_
        refine mr_iload_n (pc := 44) (z := p2) dX12_tieOf_44 rfl rfl ?_
        refine mr_icmp_ne (pc := 45) (tgt := 64) dX12_tieOf_45 (by decide) (r32 h422 rfl) hp2 (fun h424 => ?_) (fun h424 => ?_)
        · refine mr_iinc (pc := 64) (lv' := [(3, iv (z409 + 1)), (0, .ref 106), (1, iv p1), (2, iv p2)]) dX12_tieOf_64 rfl (by decide) rfl ?_
          refine sv_goto (pc := 67) (tgt := 2) dX12_tieOf_67 (by decide) ?_
          refine mr_lvS (lv' := [(0, .ref 106), (1, iv p1), (2, iv p2), (3, iv (z409 + 1))]) (List.forall_mem_cons.mpr ⟨rfl, List.forall_mem_cons.mpr ⟨rfl, List.forall_mem_cons.mpr ⟨rfl, List.forall_mem_cons.mpr ⟨rfl, fun _ h => absurd h List.not_mem_nil⟩⟩⟩⟩) ?_
          exact ih416 (z409 + 1) trivial (rW (c := 0) (d := 20) (rAdd (e := 1) (f := 20) h418 (rR (x := 1)) rfl) rfl) (vc_X12_tieOf_end_5 (nS h415) h417 h419 h418)
        have h425 : 0 ≤ p2 ∧ p2 ≤ 9 := (vc_X12_tieOf_end_6 h424 h423 hp1 hp2 h422)
        refine sv_aload_n (pc := 48) dX12_tieOf_48 rfl rfl ?_
        refine gf_X12_7 (pc := 49) dX12_tieOf_49 wF_X12_40 (A_106 hw) hT ?_
        refine mr_iconst (pc := 52) (z := 2) dX12_tieOf_52 ?_
        refine mr_iload_n (pc := 53) (z := z409) dX12_tieOf_53 rfl rfl ?_
        refine mr_imul (pc := 54) (x := 2) (y := z409) dX12_tieOf_54 ?_
        refine mr_iconst (pc := 55) (z := 1) dX12_tieOf_55 ?_
        refine mr_iadd (pc := 56) (x := (2 * z409)) (y := 1) dX12_tieOf_56 ?_
        refine la_110 (pc := 57) dX12_tieOf_57 (A_110 hw) hT (rIx (n := 40) (rAdd (e := 1) (f := 39) (rMulL (n := 2) (e := 0) (f := 38) h418 rfl) (rR (x := 1)) rfl) rfl) fun z426 q427 h428 => ?_
        refine mr_iload_n (pc := 58) (z := p1) dX12_tieOf_58 rfl rfl ?_
        refine mr_icmp_ne (pc := 59) (tgt := 64) dX12_tieOf_59 (by decide) (r32 h428 rfl) hp1 (fun h429 => ?_) (fun h429 => ?_)
        · refine mr_iinc (pc := 64) (lv' := [(3, iv (z409 + 1)), (0, .ref 106), (1, iv p1), (2, iv p2)]) dX12_tieOf_64 rfl (by decide) rfl ?_
          refine sv_goto (pc := 67) (tgt := 2) dX12_tieOf_67 (by decide) ?_
          refine mr_lvS (lv' := [(0, .ref 106), (1, iv p1), (2, iv p2), (3, iv (z409 + 1))]) (List.forall_mem_cons.mpr ⟨rfl, List.forall_mem_cons.mpr ⟨rfl, List.forall_mem_cons.mpr ⟨rfl, List.forall_mem_cons.mpr ⟨rfl, fun _ h => absurd h List.not_mem_nil⟩⟩⟩⟩) ?_
          exact ih416 (z409 + 1) trivial (rW (c := 0) (d := 20) (rAdd (e := 1) (f := 20) h418 (rR (x := 1)) rfl) rfl) (vc_X12_tieOf_end_5 (nS h415) h417 h419 h418)
        have h430 : 0 ≤ p1 ∧ p1 ≤ 9 := (vc_X12_tieOf_end_7 h429 h423 hp1 h422 h428)
        refine mr_iload_n (pc := 62) (z := z409) dX12_tieOf_62 rfl rfl ?_
        exact mr_iretP dX12_tieOf_63 rfl (le_t rfl) (le_t rfl) ⟨(rW (c := (-99999999)) (d := 19) h418 rfl), (vc_X12_tieOf_end_8 h417 h419 h418), (Or.inr (by rw [q421, q427]; exact (vc_X12_tieOf_end_9 h417 h423 h424 h429 h419 h430 h425 h418 h422 h428))), trivial⟩
      have h431 : 0 ≤ p1 ∧ p1 ≤ 9 := (vc_X12_tieOf_end_10 h423 hp1 h422)
      refine sv_aload_n (pc := 22) dX12_tieOf_22 rfl rfl ?_
      refine gf_X12_7 (pc := 23) dX12_tieOf_23 wF_X12_40 (A_106 hw) hT ?_
      refine mr_iconst (pc := 26) (z := 2) dX12_tieOf_26 ?_
      refine mr_iload_n (pc := 27) (z := z409) dX12_tieOf_27 rfl rfl ?_
      refine mr_imul (pc := 28) (x := 2) (y := z409) dX12_tieOf_28 ?_
      refine mr_iconst (pc := 29) (z := 1) dX12_tieOf_29 ?_
      refine mr_iadd (pc := 30) (x := (2 * z409)) (y := 1) dX12_tieOf_30 ?_
      refine la_110 (pc := 31) dX12_tieOf_31 (A_110 hw) hT (rIx (n := 40) (rAdd (e := 1) (f := 39) (rMulL (n := 2) (e := 0) (f := 38) h418 rfl) (rR (x := 1)) rfl) rfl) fun z432 q433 h434 => ?_
      refine mr_iload_n (pc := 32) (z := p2) dX12_tieOf_32 rfl rfl ?_
      refine mr_icmp_eq (pc := 33) (tgt := 62) dX12_tieOf_33 (by decide) (r32 h434 rfl) hp2 (fun h435 => ?_) (fun h435 => ?_)
      · have h436 : 0 ≤ p2 ∧ p2 ≤ 9 := (vc_X12_tieOf_end_11 h435 hp2 h434)
        refine mr_iload_n (pc := 62) (z := z409) dX12_tieOf_62 rfl rfl ?_
        exact mr_iretP dX12_tieOf_63 rfl (le_t rfl) (le_t rfl) ⟨(rW (c := (-99999999)) (d := 19) h418 rfl), (vc_X12_tieOf_end_8 h417 h419 h418), (Or.inr (by rw [q421, q433]; exact (vc_X12_tieOf_end_12 h417 h423 h435 h419 h431 h436 h418 h422 h434))), trivial⟩
      refine sv_aload_n (pc := 36) dX12_tieOf_36 rfl rfl ?_
      refine gf_X12_7 (pc := 37) dX12_tieOf_37 wF_X12_40 (A_106 hw) hT ?_
      refine mr_iconst (pc := 40) (z := 2) dX12_tieOf_40 ?_
      refine mr_iload_n (pc := 41) (z := z409) dX12_tieOf_41 rfl rfl ?_
      refine mr_imul (pc := 42) (x := 2) (y := z409) dX12_tieOf_42 ?_
      refine lk_110 (pc := 43) dX12_tieOf_43 (A_110 hw) (rIx (n := 40) (rMulL (n := 2) (e := 0) (f := 38) h418 rfl) rfl) q421 ?_
      refine mr_iload_n (pc := 44) (z := p2) dX12_tieOf_44 rfl rfl ?_
      refine mr_icmp_ne (pc := 45) (tgt := 64) dX12_tieOf_45 (by decide) (r32 h422 rfl) hp2 (fun h437 => ?_) (fun h437 => ?_)
      · refine mr_iinc (pc := 64) (lv' := [(3, iv (z409 + 1)), (0, .ref 106), (1, iv p1), (2, iv p2)]) dX12_tieOf_64 rfl (by decide) rfl ?_
        refine sv_goto (pc := 67) (tgt := 2) dX12_tieOf_67 (by decide) ?_
        refine mr_lvS (lv' := [(0, .ref 106), (1, iv p1), (2, iv p2), (3, iv (z409 + 1))]) (List.forall_mem_cons.mpr ⟨rfl, List.forall_mem_cons.mpr ⟨rfl, List.forall_mem_cons.mpr ⟨rfl, List.forall_mem_cons.mpr ⟨rfl, fun _ h => absurd h List.not_mem_nil⟩⟩⟩⟩) ?_
        exact ih416 (z409 + 1) trivial (rW (c := 0) (d := 20) (rAdd (e := 1) (f := 20) h418 (rR (x := 1)) rfl) rfl) (vc_X12_tieOf_end_5 (nS h415) h417 h419 h418)
      have h438 : 0 ≤ p2 ∧ p2 ≤ 9 := (vc_X12_tieOf_end_13 h437 h423 h435 h431 hp2 h422 h434)
      refine sv_aload_n (pc := 48) dX12_tieOf_48 rfl rfl ?_
      refine gf_X12_7 (pc := 49) dX12_tieOf_49 wF_X12_40 (A_106 hw) hT ?_
      refine mr_iconst (pc := 52) (z := 2) dX12_tieOf_52 ?_
      refine mr_iload_n (pc := 53) (z := z409) dX12_tieOf_53 rfl rfl ?_
      refine mr_imul (pc := 54) (x := 2) (y := z409) dX12_tieOf_54 ?_
      refine mr_iconst (pc := 55) (z := 1) dX12_tieOf_55 ?_
      refine mr_iadd (pc := 56) (x := (2 * z409)) (y := 1) dX12_tieOf_56 ?_
      refine lk_110 (pc := 57) dX12_tieOf_57 (A_110 hw) (rIx (n := 40) (rAdd (e := 1) (f := 39) (rMulL (n := 2) (e := 0) (f := 38) h418 rfl) (rR (x := 1)) rfl) rfl) q433 ?_
      refine mr_iload_n (pc := 58) (z := p1) dX12_tieOf_58 rfl rfl ?_
      refine mr_icmp_ne (pc := 59) (tgt := 64) dX12_tieOf_59 (by decide) (r32 h434 rfl) (r32 h431 rfl) (fun h439 => ?_) (fun h439 => ?_)
      · refine mr_iinc (pc := 64) (lv' := [(3, iv (z409 + 1)), (0, .ref 106), (1, iv p1), (2, iv p2)]) dX12_tieOf_64 rfl (by decide) rfl ?_
        refine sv_goto (pc := 67) (tgt := 2) dX12_tieOf_67 (by decide) ?_
        refine mr_lvS (lv' := [(0, .ref 106), (1, iv p1), (2, iv p2), (3, iv (z409 + 1))]) (List.forall_mem_cons.mpr ⟨rfl, List.forall_mem_cons.mpr ⟨rfl, List.forall_mem_cons.mpr ⟨rfl, List.forall_mem_cons.mpr ⟨rfl, fun _ h => absurd h List.not_mem_nil⟩⟩⟩⟩) ?_
        exact ih416 (z409 + 1) trivial (rW (c := 0) (d := 20) (rAdd (e := 1) (f := 20) h418 (rR (x := 1)) rfl) rfl) (vc_X12_tieOf_end_5 (nS h415) h417 h419 h418)
      refine mr_iload_n (pc := 62) (z := z409) dX12_tieOf_62 rfl rfl ?_
      exact mr_iretP dX12_tieOf_63 rfl (le_t rfl) (le_t rfl) ⟨(rW (c := (-99999999)) (d := 19) h418 rfl), (vc_X12_tieOf_end_8 h417 h419 h418), (Or.inr (by rw [q421, q433]; exact (vc_X12_tieOf_end_14 h417 h423 h435 h437 h439 h419 h431 h438 h418 h422 h434))), trivial⟩
  refine mr_lvS (lv' := [(0, .ref 106), (1, iv p1), (2, iv p2), (3, iv 0)]) (List.forall_mem_cons.mpr ⟨rfl, List.forall_mem_cons.mpr ⟨rfl, List.forall_mem_cons.mpr ⟨rfl, List.forall_mem_cons.mpr ⟨rfl, fun _ h => absurd h List.not_mem_nil⟩⟩⟩⟩) ?_
  exact L410 22 0 trivial (rW (c := 0) (d := 20) (rR (x := 0)) rfl) vc_X12_tieOf_end_15
