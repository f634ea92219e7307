theorem vc_X12_partnerOf_pt_1 {f_e0 f_e1 p1 p2 z29 z30 : Int} (h0 : (z29 = 0 → f_e0 = p2)) (h1 : (z29 = 1 → ¬ f_e0 = p2)) (h2 : ((((2 * p1) + 1) - z29) = (2 * p1) → z30 = f_e0)) (h3 : ((((2 * p1) + 1) - z29) = ((2 * p1) + 1) → z30 = f_e1)) (h4 : 0 ≤ f_e0 ∧ f_e0 ≤ 9) (h5 : 0 ≤ f_e1 ∧ f_e1 ≤ 9) (h6 : 0 ≤ p1 ∧ p1 ≤ 19) (h7 : (-2147483648) ≤ p2 ∧ p2 ≤ 2147483647) (h8 : 0 ≤ z29 ∧ z29 ≤ 1) (h9 : 0 ≤ z30 ∧ z30 ≤ 9) : (f_e0 = p2 → z30 = f_e1) ∧ (¬ f_e0 = p2 → z30 = f_e0) := by omega
set_option maxRecDepth 4000 in
set_option maxHeartbeats 4000000 in
theorem c_X12_partnerOf_pt {l : Launch} {D : va_G} {c : Nat → ClassId} {H0 : Heap} {sa : Nat × Nat × (Nat → Int32)} {w : mW} {μ : mM} (hw : mWF w) (hT : mT w μ) {p1 : Int} (hp1 : 0 ≤ p1 ∧ p1 ≤ 19) {p2 : Int} (hp2 : (-2147483648) ≤ p2 ∧ p2 ≤ 2147483647) {f_e0 : Int} (q_f_e0 : μ 110 ((2 * p1).toNat) = f_e0) {f_e1 : Int} (q_f_e1 : μ 110 (((2 * p1) + 1).toNat) = f_e1) : sC (gG l D c H0 sa) mX12_partnerOf 2 0 0 [.ref 106, iv p1, iv p2] (mk w μ) (qP w μ (fun z => (0 ≤ z ∧ z ≤ 9) ∧ ((f_e0 = p2 → z = f_e1) ∧ (¬ f_e0 = p2 → z = f_e0)) ∧ True)) := by
  refine sC.of rfl (by decide) (le_t rfl) ?_
  have ht_f_e0 : (0 ≤ f_e0 ∧ f_e0 ≤ 9) := by rw [← q_f_e0]; exact hT 110 110 (A_110 hw) ((2 * p1).toNat)
  have ht_f_e1 : (0 ≤ f_e1 ∧ f_e1 ≤ 9) := by rw [← q_f_e1]; exact hT 110 110 (A_110 hw) (((2 * p1) + 1).toNat)
  refine mr_lvE (lv' := [(0, .ref 106), (1, iv p1), (2, iv p2)]) rfl ?_
  refine sv_aload_n (pc := 0) dX12_partnerOf_0 rfl rfl ?_
  refine gf_X12_7 (pc := 1) dX12_partnerOf_1 wF_X12_40 (A_106 hw) hT ?_
  refine mr_iconst (pc := 4) (z := 2) dX12_partnerOf_4 ?_
  refine mr_iload_n (pc := 5) (z := p1) dX12_partnerOf_5 rfl rfl ?_
  refine mr_imul (pc := 6) (x := 2) (y := p1) dX12_partnerOf_6 ?_
  refine mr_iconst (pc := 7) (z := 1) dX12_partnerOf_7 ?_
  refine mr_iadd (pc := 8) (x := (2 * p1)) (y := 1) dX12_partnerOf_8 ?_
  refine sv_aload_n (pc := 9) dX12_partnerOf_9 rfl rfl ?_
  refine mr_iload_n (pc := 10) (z := p1) dX12_partnerOf_10 rfl rfl ?_
  refine mr_iload_n (pc := 11) (z := p2) dX12_partnerOf_11 rfl rfl ?_
  refine mr_cVP (pc := 12) (c_X12_sideOf hw hT hp1 hp2 q_f_e0) (gOk _ _ _ _ _) dX12_partnerOf_12 (tX12_sideOf _ _ _ _ _) ⟨wV_X12_sideOf, wL_X12_sideOf⟩ wM_X12_542 (gCX12 _ _ _ _ _) rfl (A_106 hw) rfl ⟨le_t rfl, le_t rfl⟩ ⟨le_t rfl, le_t rfl⟩ rfl (le_t rfl) fun z29 h28 => ?_
  refine mr_isub (pc := 15) (x := ((2 * p1) + 1)) (y := z29) dX12_partnerOf_15 ?_
  refine la_110 (pc := 16) dX12_partnerOf_16 (A_110 hw) hT (rIx (n := 40) (rSub (e := 0) (f := 39) (rAdd (e := 1) (f := 39) (rMulL (n := 2) (e := 0) (f := 38) hp1 rfl) (rR (x := 1)) rfl) h28.1 rfl) rfl) fun z30 q31 h32 => ?_
  exact mr_iretP dX12_partnerOf_17 rfl (le_t rfl) (le_t rfl) ⟨h32, (vc_X12_partnerOf_pt_1 h28.2.1 h28.2.2.1 (cgr q31 q_f_e0) (cgr q31 q_f_e1) ht_f_e0 ht_f_e1 hp1 hp2 h28.1 h32), trivial⟩
theorem vc_X12_candidate_1 {f_ties p2 : Int} (h0 : p2 < f_ties) (h1 : 0 ≤ f_ties ∧ f_ties ≤ 20) (h2 : 0 ≤ p2 ∧ p2 ≤ 19) : 1 ≤ f_ties ∧ f_ties ≤ 20 := by omega
theorem vc_X12_candidate_2 {f_ties p2 : Int} (h0 : p2 < f_ties) (h1 : 1 ≤ f_ties ∧ f_ties ≤ 20) (h2 : 0 ≤ p2 ∧ p2 ≤ 19) : 0 ≤ (40 * (4 + p2)) := by omega
theorem vc_X12_candidate_3 {f_ties p2 : Int} (h0 : p2 < f_ties) (h1 : 1 ≤ f_ties ∧ f_ties ≤ 20) (h2 : 0 ≤ p2 ∧ p2 ≤ 19) : (40 * (4 + p2)) % 40 = 0 := by omega
theorem vc_X12_candidate_4 {z302 : Int} (h0 : z302 = -1) (h1 : (-1) ≤ z302 ∧ z302 ≤ 9) : (-1) ≤ z302 ∧ z302 ≤ (-1) := by omega
theorem vc_X12_candidate_5 {f_e0 f_ties p1 p2 p3 z297 z313 : Int} (h0 : z313 = (((20 * p2) + (10 * z297)) + p3)) (h1 : p2 < f_ties) (h2 : (z297 = 0 → f_e0 = p1)) (h3 : (z297 = 1 → ¬ f_e0 = p1)) (h4 : 0 ≤ f_e0 ∧ f_e0 ≤ 9) (h5 : 1 ≤ f_ties ∧ f_ties ≤ 20) (h6 : 0 ≤ p1 ∧ p1 ≤ 9) (h7 : 0 ≤ p2 ∧ p2 ≤ 19) (h8 : 0 ≤ p3 ∧ p3 ≤ 9) (h9 : 0 ≤ z297 ∧ z297 ≤ 1) (h10 : 0 ≤ z313 ∧ z313 ≤ 449) : 0 ≤ z313 ∧ z313 ≤ 399 := by omega
theorem vc_X12_candidate_6 {z315 : Int} (h0 : z315 = 0) (h1 : 0 ≤ z315 ∧ z315 ≤ 1) : 0 ≤ z315 ∧ z315 ≤ 0 := by omega
theorem vc_X12_candidate_7 {f_e0 f_ties p1 p2 p3 z297 z313 : Int} (h0 : p2 < f_ties) (h1 : z313 = (((20 * p2) + (10 * z297)) + p3)) (h2 : (z297 = 0 → f_e0 = p1)) (h3 : (z297 = 1 → ¬ f_e0 = p1)) (h4 : 0 ≤ f_e0 ∧ f_e0 ≤ 9) (h5 : 1 ≤ f_ties ∧ f_ties ≤ 20) (h6 : 0 ≤ p1 ∧ p1 ≤ 9) (h7 : 0 ≤ p2 ∧ p2 ≤ 19) (h8 : 0 ≤ p3 ∧ p3 ≤ 9) (h9 : 0 ≤ z297 ∧ z297 ≤ 1) (h10 : 0 ≤ z313 ∧ z313 ≤ 399) : ((40 * p2) + 160) ≤ (40 * (4 + p2)) ∧ ((40 * (4 + p2)) + 1) ≤ ((40 * p2) + 200) := by omega
theorem vc_X12_candidate_8 {z315 : Int} (h0 : ¬ z315 = 0) (h1 : 0 ≤ z315 ∧ z315 ≤ 1) : 1 ≤ z315 ∧ z315 ≤ 1 := by omega
theorem vc_X12_candidate_9 {f_e0 f_ties p1 p2 p3 z297 z313 : Int} (h0 : z313 = (((20 * p2) + (10 * z297)) + p3)) (h1 : p2 < f_ties) (h2 : (z297 = 0 → f_e0 = p1)) (h3 : (z297 = 1 → ¬ f_e0 = p1)) (h4 : 0 ≤ f_e0 ∧ f_e0 ≤ 9) (h5 : 1 ≤ f_ties ∧ f_ties ≤ 20) (h6 : 0 ≤ p1 ∧ p1 ≤ 9) (h7 : 0 ≤ p2 ∧ p2 ≤ 19) (h8 : 0 ≤ p3 ∧ p3 ≤ 9) (h9 : 0 ≤ z297 ∧ z297 ≤ 1) (h10 : 0 ≤ z313 ∧ z313 ≤ 399) : 0 ≤ (40 * (130 + z313)) := by omega
theorem vc_X12_candidate_10 {f_e0 f_ties p1 p2 p3 z297 z313 : Int} (h0 : z313 = (((20 * p2) + (10 * z297)) + p3)) (h1 : p2 < f_ties) (h2 : (z297 = 0 → f_e0 = p1)) (h3 : (z297 = 1 → ¬ f_e0 = p1)) (h4 : 0 ≤ f_e0 ∧ f_e0 ≤ 9) (h5 : 1 ≤ f_ties ∧ f_ties ≤ 20) (h6 : 0 ≤ p1 ∧ p1 ≤ 9) (h7 : 0 ≤ p2 ∧ p2 ≤ 19) (h8 : 0 ≤ p3 ∧ p3 ≤ 9) (h9 : 0 ≤ z297 ∧ z297 ≤ 1) (h10 : 0 ≤ z313 ∧ z313 ≤ 399) : (40 * (130 + z313)) % 40 = 0 := by omega
theorem vc_X12_candidate_11 {z321 z329 : Int} (h0 : ¬ z329 = 0) (h1 : (z329 = 1 → 0 ≤ z321)) (h2 : (z329 = 0 → z321 < 0)) (h3 : (-1) ≤ z321 ∧ z321 ≤ 9) (h4 : 0 ≤ z329 ∧ z329 ≤ 1) : 1 ≤ z329 ∧ z329 ≤ 1 := by omega
theorem vc_X12_candidate_12 {z321 z329 : Int} (h0 : (z329 = 1 → 0 ≤ z321)) (h1 : (z329 = 0 → z321 < 0)) (h2 : ¬ z329 = 0) (h3 : (-1) ≤ z321 ∧ z321 ≤ 9) (h4 : 1 ≤ z329 ∧ z329 ≤ 1) : z329 = 1 := by omega
theorem vc_X12_candidate_13 {z321 z329 : Int} (h0 : 0 ≤ z321) (h1 : (z329 = 1 → 0 ≤ z321)) (h2 : (z329 = 0 → z321 < 0)) (h3 : (-1) ≤ z321 ∧ z321 ≤ 9) (h4 : 1 ≤ z329 ∧ z329 ≤ 1) : 0 ≤ z321 ∧ z321 ≤ 9 := by omega
theorem vc_X12_candidate_14 {z338 : Int} (h0 : z338 = 0) (h1 : 0 ≤ z338 ∧ z338 ≤ 1) : 0 ≤ z338 ∧ z338 ≤ 0 := by omega
theorem vc_X12_candidate_15 {f_e0 f_ties p1 p2 p3 z297 z313 : Int} (h0 : p2 < f_ties) (h1 : z313 = (((20 * p2) + (10 * z297)) + p3)) (h2 : (z297 = 0 → f_e0 = p1)) (h3 : (z297 = 1 → ¬ f_e0 = p1)) (h4 : 0 ≤ f_e0 ∧ f_e0 ≤ 9) (h5 : 1 ≤ f_ties ∧ f_ties ≤ 20) (h6 : 0 ≤ p1 ∧ p1 ≤ 9) (h7 : 0 ≤ p2 ∧ p2 ≤ 19) (h8 : 0 ≤ p3 ∧ p3 ≤ 9) (h9 : 0 ≤ z297 ∧ z297 ≤ 1) (h10 : 0 ≤ z313 ∧ z313 ≤ 399) : (130 + z313) < (4 + p2) ∨ (4 + p2) < (130 + z313) := by omega
theorem vc_X12_candidate_16 {f_e0 f_ties p1 p2 p3 z297 z313 : Int} (h0 : p2 < f_ties) (h1 : z313 = (((20 * p2) + (10 * z297)) + p3)) (h2 : (z297 = 0 → f_e0 = p1)) (h3 : (z297 = 1 → ¬ f_e0 = p1)) (h4 : 0 ≤ f_e0 ∧ f_e0 ≤ 9) (h5 : 1 ≤ f_ties ∧ f_ties ≤ 20) (h6 : 0 ≤ p1 ∧ p1 ≤ 9) (h7 : 0 ≤ p2 ∧ p2 ≤ 19) (h8 : 0 ≤ p3 ∧ p3 ≤ 9) (h9 : 0 ≤ z297 ∧ z297 ≤ 1) (h10 : 0 ≤ z313 ∧ z313 ≤ 399) : 0 ≤ (40 * (4 + p2)) := by omega
theorem vc_X12_candidate_17 {f_e0 f_ties p1 p2 p3 z297 z313 : Int} (h0 : p2 < f_ties) (h1 : z313 = (((20 * p2) + (10 * z297)) + p3)) (h2 : (z297 = 0 → f_e0 = p1)) (h3 : (z297 = 1 → ¬ f_e0 = p1)) (h4 : 0 ≤ f_e0 ∧ f_e0 ≤ 9) (h5 : 1 ≤ f_ties ∧ f_ties ≤ 20) (h6 : 0 ≤ p1 ∧ p1 ≤ 9) (h7 : 0 ≤ p2 ∧ p2 ≤ 19) (h8 : 0 ≤ p3 ∧ p3 ≤ 9) (h9 : 0 ≤ z297 ∧ z297 ≤ 1) (h10 : 0 ≤ z313 ∧ z313 ≤ 399) : (40 * (4 + p2)) % 40 = 0 := by omega
theorem vc_X12_candidate_18 {z321 z329 z345 : Int} (h0 : z345 = z321) (h1 : (z329 = 1 → 0 ≤ z321)) (h2 : (z329 = 0 → z321 < 0)) (h3 : 0 ≤ z321) (h4 : 0 ≤ z321 ∧ z321 ≤ 9) (h5 : 1 ≤ z329 ∧ z329 ≤ 1) (h6 : (-1) ≤ z345 ∧ z345 ≤ 9) : 0 ≤ z345 ∧ z345 ≤ 9 := by omega
theorem vc_X12_candidate_19 {z352 : Int} (h0 : z352 = -99999999 ∨ (0 ≤ z352 ∧ z352 ≤ 11)) : -99999999 ≤ z352 ∧ z352 ≤ 11 := by omega
theorem vc_X12_candidate_20 {f_e0 f_e1 f_ties p1 p2 p3 z297 z313 : Int} (h0 : p2 < f_ties) (h1 : (z297 = 0 → f_e0 = p1)) (h2 : (z297 = 1 → ¬ f_e0 = p1)) (h3 : z313 = (((20 * p2) + (10 * z297)) + p3)) (h4 : f_e0 = p1 ∨ f_e1 = p1) (h5 : 0 ≤ f_e0 ∧ f_e0 ≤ 9) (h6 : 0 ≤ f_e1 ∧ f_e1 ≤ 9) (h7 : 1 ≤ f_ties ∧ f_ties ≤ 20) (h8 : 0 ≤ p1 ∧ p1 ≤ 9) (h9 : 0 ≤ p2 ∧ p2 ≤ 19) (h10 : 0 ≤ p3 ∧ p3 ≤ 9) (h11 : 0 ≤ z297 ∧ z297 ≤ 1) (h12 : 0 ≤ z313 ∧ z313 ≤ 399) : ((4 * p2) + (2 * z297)) < 4 * f_ties := by omega
theorem vc_X12_candidate_21 {f_e0 f_ties p1 p2 p3 z297 z313 : Int} (h0 : p2 < f_ties) (h1 : z313 = (((20 * p2) + (10 * z297)) + p3)) (h2 : (z297 = 0 → f_e0 = p1)) (h3 : (z297 = 1 → ¬ f_e0 = p1)) (h4 : 0 ≤ f_e0 ∧ f_e0 ≤ 9) (h5 : 1 ≤ f_ties ∧ f_ties ≤ 20) (h6 : 0 ≤ p1 ∧ p1 ≤ 9) (h7 : 0 ≤ p2 ∧ p2 ≤ 19) (h8 : 0 ≤ p3 ∧ p3 ≤ 9) (h9 : 0 ≤ z297 ∧ z297 ≤ 1) (h10 : 0 ≤ z313 ∧ z313 ≤ 399) : p2 < f_ties := by omega
theorem vc_X12_candidate_22 {f_e0 f_e1 p1 p2 p3 z297 z313 z364 : Int} (h0 : f_e0 = p1 ∨ f_e1 = p1) (h1 : (z297 = 0 → f_e0 = p1)) (h2 : (z297 = 1 → ¬ f_e0 = p1)) (h3 : (f_e0 = p1 → z364 = f_e1) ∧ (¬ f_e0 = p1 → z364 = f_e0)) (h4 : z313 = (((20 * p2) + (10 * z297)) + p3)) (h5 : 0 ≤ f_e0 ∧ f_e0 ≤ 9) (h6 : 0 ≤ f_e1 ∧ f_e1 ≤ 9) (h7 : 0 ≤ p1 ∧ p1 ≤ 9) (h8 : 0 ≤ p2 ∧ p2 ≤ 19) (h9 : 0 ≤ p3 ∧ p3 ≤ 9) (h10 : 0 ≤ z297 ∧ z297 ≤ 1) (h11 : 0 ≤ z313 ∧ z313 ≤ 399) (h12 : 0 ≤ z364 ∧ z364 ≤ 9) : (f_e0 = p1 ∧ f_e1 = z364) ∨ (f_e0 = z364 ∧ f_e1 = p1) := by omega
theorem vc_X12_candidate_23 {z321 z329 z345 : Int} (h0 : (z329 = 1 → 0 ≤ z321)) (h1 : (z329 = 0 → z321 < 0)) (h2 : 0 ≤ z321) (h3 : z345 = z321) (h4 : ¬ z329 = 0) (h5 : 0 ≤ z321 ∧ z321 ≤ 9) (h6 : 1 ≤ z329 ∧ z329 ≤ 1) (h7 : 0 ≤ z345 ∧ z345 ≤ 9) : 0 ≤ z321 := by omega
theorem vc_X12_candidate_24 {z352 z356 : Int} (h0 : z352 = -99999999 ∨ (0 ≤ z352 ∧ z352 < z356)) (h1 : (-99999999) ≤ z352 ∧ z352 ≤ 11) (h2 : z352 = -99999999 ∨ (0 ≤ z352 ∧ z352 ≤ 11)) (h3 : 0 ≤ z356 ∧ z356 ≤ 12) : z352 = -99999999 ∨ (0 ≤ z352 ∧ z352 < z356) := by omega
theorem vc_X12_candidate_25 {z321 z329 z345 z370 : Int} (h0 : z370 = z321) (h1 : (z329 = 1 → 0 ≤ z321)) (h2 : (z329 = 0 → z321 < 0)) (h3 : 0 ≤ z321) (h4 : z345 = z321) (h5 : 0 ≤ z321 ∧ z321 ≤ 9) (h6 : 1 ≤ z329 ∧ z329 ≤ 1) (h7 : 0 ≤ z345 ∧ z345 ≤ 9) (h8 : (-1) ≤ z370 ∧ z370 ≤ 9) : 0 ≤ z370 ∧ z370 ≤ 9 := by omega
theorem vc_X12_candidate_26 {z369 : Int} (h0 : z369 = 0) (h1 : 0 ≤ z369 ∧ z369 ≤ 1) : 0 ≤ z369 ∧ z369 ≤ 0 := by omega
theorem vc_X12_candidate_27 {z383 : Int} (h0 : z383 = -1) (h1 : (-1) ≤ z383 ∧ z383 ≤ 9) : (-1) ≤ z383 ∧ z383 ≤ (-1) := by omega
theorem vc_X12_candidate_28 {f_e0 f_ties p1 p2 p3 z297 z313 : Int} (h0 : p2 < f_ties) (h1 : z313 = (((20 * p2) + (10 * z297)) + p3)) (h2 : (z297 = 0 → f_e0 = p1)) (h3 : (z297 = 1 → ¬ f_e0 = p1)) (h4 : 0 ≤ f_e0 ∧ f_e0 ≤ 9) (h5 : 1 ≤ f_ties ∧ f_ties ≤ 20) (h6 : 0 ≤ p1 ∧ p1 ≤ 9) (h7 : 0 ≤ p2 ∧ p2 ≤ 19) (h8 : 0 ≤ p3 ∧ p3 ≤ 9) (h9 : 0 ≤ z297 ∧ z297 ≤ 1) (h10 : 0 ≤ z313 ∧ z313 ≤ 399) : ((40 * p2) + 160) ≤ (40 * (4 + p2)) ∧ ((40 * (4 + p2)) + 40) ≤ ((40 * p2) + 200) := by omega
theorem vc_X12_candidate_29 {f_e0 f_ties p1 p2 p3 z297 z313 : Int} (h0 : p2 < f_ties) (h1 : z313 = (((20 * p2) + (10 * z297)) + p3)) (h2 : (z297 = 0 → f_e0 = p1)) (h3 : (z297 = 1 → ¬ f_e0 = p1)) (h4 : 0 ≤ f_e0 ∧ f_e0 ≤ 9) (h5 : 1 ≤ f_ties ∧ f_ties ≤ 20) (h6 : 0 ≤ p1 ∧ p1 ≤ 9) (h7 : 0 ≤ p2 ∧ p2 ≤ 19) (h8 : 0 ≤ p3 ∧ p3 ≤ 9) (h9 : 0 ≤ z297 ∧ z297 ≤ 1) (h10 : 0 ≤ z313 ∧ z313 ≤ 399) : ((40 * p2) + 160) ≤ ((40 * (4 + p2)) + 1) ∧ ((40 * (4 + p2)) + 40) ≤ ((40 * p2) + 200) := by omega
theorem vc_X12_candidate_30 {z369 : Int} (h0 : ¬ z369 = 0) (h1 : 0 ≤ z369 ∧ z369 ≤ 1) : 1 ≤ z369 ∧ z369 ≤ 1 := by omega
theorem vc_X12_candidate_31 {z338 : Int} (h0 : ¬ z338 = 0) (h1 : 0 ≤ z338 ∧ z338 ≤ 1) : 1 ≤ z338 ∧ z338 ≤ 1 := by omega
theorem vc_X12_candidate_32 {z321 z329 : Int} (h0 : z329 = 0) (h1 : (z329 = 1 → 0 ≤ z321)) (h2 : (z329 = 0 → z321 < 0)) (h3 : (-1) ≤ z321 ∧ z321 ≤ 9) (h4 : 0 ≤ z329 ∧ z329 ≤ 1) : 0 ≤ z329 ∧ z329 ≤ 0 := by omega
theorem vc_X12_candidate_33 {z321 z329 : Int} (h0 : (z329 = 1 → 0 ≤ z321)) (h1 : (z329 = 0 → z321 < 0)) (h2 : z329 = 0) (h3 : (-1) ≤ z321 ∧ z321 ≤ 9) (h4 : 0 ≤ z329 ∧ z329 ≤ 0) : z329 = 0 := by omega
theorem vc_X12_candidate_34 {z321 z329 : Int} (h0 : z321 < 0) (h1 : (z329 = 1 → 0 ≤ z321)) (h2 : (z329 = 0 → z321 < 0)) (h3 : (-1) ≤ z321 ∧ z321 ≤ 9) (h4 : 0 ≤ z329 ∧ z329 ≤ 0) : (-1) ≤ z321 ∧ z321 ≤ (-1) := by omega
theorem vc_X12_candidates_1 {z419 : Int} (h0 : (21 - z419) < ((0 : Nat) : Int)) (h1 : 0 ≤ z419 ∧ z419 ≤ 20) : False := by omega
theorem vc_X12_candidates_2  : (160 : Int) ≤ (160 : Int) ∧ (960 : Int) ≤ (960 : Int) := by omega
theorem vc_X12_candidates_3 {z419 z429 : Int} (h0 : z419 < z429) (h1 : 0 ≤ z419 ∧ z419 ≤ 20) (h2 : 0 ≤ z429 ∧ z429 ≤ 20) : 0 ≤ z419 ∧ z419 ≤ 19 := by omega
theorem vc_X12_candidates_4 {z419 z429 : Int} (h0 : z419 < z429) (h1 : 0 ≤ z419 ∧ z419 ≤ 19) (h2 : 0 ≤ z429 ∧ z429 ≤ 20) : 1 ≤ z429 ∧ z429 ≤ 20 := by omega
theorem vc_X12_candidates_5 {p1 z468 z471 z478 : Int} (h0 : z478 = 0) (h1 : (z478 = 1 → z468 = p1 ∨ z471 = p1)) (h2 : (z478 = 0 → ¬ z468 = p1 ∧ ¬ z471 = p1)) (h3 : 0 ≤ p1 ∧ p1 ≤ 9) (h4 : 0 ≤ z468 ∧ z468 ≤ 9) (h5 : 0 ≤ z471 ∧ z471 ≤ 9) (h6 : 0 ≤ z478 ∧ z478 ≤ 1) : 0 ≤ z478 ∧ z478 ≤ 0 := by omega
theorem vc_X12_candidates_6 {p1 z468 z471 z478 : Int} (h0 : (z478 = 1 → z468 = p1 ∨ z471 = p1)) (h1 : (z478 = 0 → ¬ z468 = p1 ∧ ¬ z471 = p1)) (h2 : z478 = 0) (h3 : 0 ≤ p1 ∧ p1 ≤ 9) (h4 : 0 ≤ z468 ∧ z468 ≤ 9) (h5 : 0 ≤ z471 ∧ z471 ≤ 9) (h6 : 0 ≤ z478 ∧ z478 ≤ 0) : z478 = 0 := by omega
theorem vc_X12_candidates_7 {z419 z429 : Int} (h0 : z419 < z429) (h1 : 0 ≤ z419 ∧ z419 ≤ 19) (h2 : 1 ≤ z429 ∧ z429 ≤ 20) : 0 ≤ (40 * (4 + z419)) := by omega
theorem vc_X12_candidates_8 {z419 z429 : Int} (h0 : z419 < z429) (h1 : 0 ≤ z419 ∧ z419 ≤ 19) (h2 : 1 ≤ z429 ∧ z429 ≤ 20) : (40 * (4 + z419)) % 40 = 0 := by omega
theorem vc_X12_candidates_9 {z506 : Int} (h0 : z506 = -1) (h1 : (-1) ≤ z506 ∧ z506 ≤ 9) : (-1) ≤ z506 ∧ z506 ≤ (-1) := by omega
theorem vc_X12_candidates_10 {N z419 z429 : Int} (h0 : (21 - z419) < N + 1) (h1 : z419 < z429) (h2 : 0 ≤ z419 ∧ z419 ≤ 19) (h3 : 1 ≤ z429 ∧ z429 ≤ 20) : (21 - (z419 + 1)) < N := by omega
theorem vc_X12_candidates_11 {z419 z429 : Int} (h0 : z419 < z429) (h1 : 0 ≤ z419 ∧ z419 ≤ 19) (h2 : 1 ≤ z429 ∧ z429 ≤ 20) : 160 ≤ (40 * (4 + z419)) ∧ ((40 * (4 + z419)) + 1) ≤ 960 := by omega
theorem vc_X12_candidates_12 {p1 z468 z471 z478 : Int} (h0 : ¬ z478 = 0) (h1 : (z478 = 1 → z468 = p1 ∨ z471 = p1)) (h2 : (z478 = 0 → ¬ z468 = p1 ∧ ¬ z471 = p1)) (h3 : 0 ≤ p1 ∧ p1 ≤ 9) (h4 : 0 ≤ z468 ∧ z468 ≤ 9) (h5 : 0 ≤ z471 ∧ z471 ≤ 9) (h6 : 0 ≤ z478 ∧ z478 ≤ 1) : 1 ≤ z478 ∧ z478 ≤ 1 := by omega
theorem vc_X12_candidates_13 {p1 z468 z471 z478 : Int} (h0 : (z478 = 1 → z468 = p1 ∨ z471 = p1)) (h1 : (z478 = 0 → ¬ z468 = p1 ∧ ¬ z471 = p1)) (h2 : ¬ z478 = 0) (h3 : 0 ≤ p1 ∧ p1 ≤ 9) (h4 : 0 ≤ z468 ∧ z468 ≤ 9) (h5 : 0 ≤ z471 ∧ z471 ≤ 9) (h6 : 1 ≤ z478 ∧ z478 ≤ 1) : z478 = 1 := by omega
theorem vc_X12_candidates_14 {z419 z429 : Int} (h0 : z419 < z429) (h1 : 0 ≤ z419 ∧ z419 ≤ 19) (h2 : 1 ≤ z429 ∧ z429 ≤ 20) : z419 < z429 := by omega
theorem vc_X12_candidates_15 {p1 z468 z471 z478 : Int} (h0 : (z478 = 1 → z468 = p1 ∨ z471 = p1)) (h1 : (z478 = 0 → ¬ z468 = p1 ∧ ¬ z471 = p1)) (h2 : z468 = p1 ∨ z471 = p1) (h3 : ¬ z478 = 0) (h4 : 0 ≤ p1 ∧ p1 ≤ 9) (h5 : 0 ≤ z468 ∧ z468 ≤ 9) (h6 : 0 ≤ z471 ∧ z471 ≤ 9) (h7 : 1 ≤ z478 ∧ z478 ≤ 1) : z468 = p1 ∨ z471 = p1 := by omega
theorem vc_X12_candidates_16 {z419 z429 : Int} (h0 : z419 < z429) (h1 : 0 ≤ z419 ∧ z419 ≤ 19) (h2 : 1 ≤ z429 ∧ z429 ≤ 20) : 160 ≤ ((40 * z419) + 160) ∧ ((40 * z419) + 200) ≤ 960 := by omega
theorem vc_X12_candidates_17  : (21 - 0) < ((22 : Nat) : Int) := by omega
theorem vc_X12_isBelow_1 {p1 p2 z1 z4 : Int} (h0 : (z1 - (p1 + (-2147483648))) % 4294967296 = 0) (h1 : (z4 - (p2 + (-2147483648))) % 4294967296 = 0) (h2 : z4 ≤ z1) (h3 : (-2147483648) ≤ p1 ∧ p1 ≤ 2147483647) (h4 : (-2147483648) ≤ p2 ∧ p2 ≤ 2147483647) (h5 : (-2147483648) ≤ z1 ∧ z1 ≤ 2147483647) (h6 : (-2147483648) ≤ z4 ∧ z4 ≤ 2147483647) : (0 : Int) = 1 → p1 % 4294967296 < p2 % 4294967296 := by omega
theorem vc_X12_isBelow_2 {p1 p2 z1 z4 : Int} (h0 : (z1 - (p1 + (-2147483648))) % 4294967296 = 0) (h1 : (z4 - (p2 + (-2147483648))) % 4294967296 = 0) (h2 : z4 ≤ z1) (h3 : (-2147483648) ≤ p1 ∧ p1 ≤ 2147483647) (h4 : (-2147483648) ≤ p2 ∧ p2 ≤ 2147483647) (h5 : (-2147483648) ≤ z1 ∧ z1 ≤ 2147483647) (h6 : (-2147483648) ≤ z4 ∧ z4 ≤ 2147483647) : (0 : Int) = 0 → p2 % 4294967296 ≤ p1 % 4294967296 := by omega
theorem vc_X12_isBelow_3 {p1 p2 z1 z4 : Int} (h0 : z1 < z4) (h1 : (z1 - (p1 + (-2147483648))) % 4294967296 = 0) (h2 : (z4 - (p2 + (-2147483648))) % 4294967296 = 0) (h3 : (-2147483648) ≤ p1 ∧ p1 ≤ 2147483647) (h4 : (-2147483648) ≤ p2 ∧ p2 ≤ 2147483647) (h5 : (-2147483648) ≤ z1 ∧ z1 ≤ 2147483647) (h6 : (-2147483648) ≤ z4 ∧ z4 ≤ 2147483647) : (-2147483648) ≤ z1 ∧ z1 ≤ 2147483646 := by omega
theorem vc_X12_isBelow_4 {p1 p2 z1 z4 : Int} (h0 : z1 < z4) (h1 : (z1 - (p1 + (-2147483648))) % 4294967296 = 0) (h2 : (z4 - (p2 + (-2147483648))) % 4294967296 = 0) (h3 : (-2147483648) ≤ p1 ∧ p1 ≤ 2147483647) (h4 : (-2147483648) ≤ p2 ∧ p2 ≤ 2147483647) (h5 : (-2147483648) ≤ z1 ∧ z1 ≤ 2147483646) (h6 : (-2147483648) ≤ z4 ∧ z4 ≤ 2147483647) : (-2147483647) ≤ z4 ∧ z4 ≤ 2147483647 := by omega
theorem vc_X12_isBelow_5 {p1 p2 z1 z4 : Int} (h0 : (z1 - (p1 + (-2147483648))) % 4294967296 = 0) (h1 : (z4 - (p2 + (-2147483648))) % 4294967296 = 0) (h2 : z1 < z4) (h3 : (-2147483648) ≤ p1 ∧ p1 ≤ 2147483647) (h4 : (-2147483648) ≤ p2 ∧ p2 ≤ 2147483647) (h5 : (-2147483648) ≤ z1 ∧ z1 ≤ 2147483646) (h6 : (-2147483647) ≤ z4 ∧ z4 ≤ 2147483647) : (1 : Int) = 1 → p1 % 4294967296 < p2 % 4294967296 := by omega
theorem vc_X12_isBelow_6 {p1 p2 z1 z4 : Int} (h0 : (z1 - (p1 + (-2147483648))) % 4294967296 = 0) (h1 : (z4 - (p2 + (-2147483648))) % 4294967296 = 0) (h2 : z1 < z4) (h3 : (-2147483648) ≤ p1 ∧ p1 ≤ 2147483647) (h4 : (-2147483648) ≤ p2 ∧ p2 ≤ 2147483647) (h5 : (-2147483648) ≤ z1 ∧ z1 ≤ 2147483646) (h6 : (-2147483647) ≤ z4 ∧ z4 ≤ 2147483647) : (1 : Int) = 0 → p2 % 4294967296 ≤ p1 % 4294967296 := by omega
set_option maxRecDepth 4000 in
set_option maxHeartbeats 4000000 in
theorem c_X12_isBelow {l : Launch} {D : va_G} {c : Nat → ClassId} {H0 : Heap} {sa : Nat × Nat × (Nat → Int32)} {w : mW} {μ : mM} (hw : mWF w) (hT : mT w μ) {p1 : Int} (hp1 : (-2147483648) ≤ p1 ∧ p1 ≤ 2147483647) {p2 : Int} (hp2 : (-2147483648) ≤ p2 ∧ p2 ≤ 2147483647) : sC (gG l D c H0 sa) mX12_isBelow 1 0 0 [iv p1, iv p2] (mk w μ) (qP w μ (fun z => (0 ≤ z ∧ z ≤ 1) ∧ (z = 1 → p1 % 4294967296 < p2 % 4294967296) ∧ (z = 0 → p2 % 4294967296 ≤ p1 % 4294967296) ∧ True)) := by
  refine sC.of rfl (by decide) (le_t rfl) ?_
  refine mr_lvE (lv' := [(0, iv p1), (1, iv p2)]) rfl ?_
  refine mr_iload_n (pc := 0) (z := p1) dX12_isBelow_0 rfl rfl ?_
  refine mr_ldcw (pc := 1) (z := (-2147483648)) dX12_isBelow_1 wG_X12_571 (by decide) ?_
  refine mr_iadd (pc := 4) (x := p1) (y := (-2147483648)) dX12_isBelow_4 ?_
  refine mr_wrapF fun z1 h2 h3 => ?_
  refine mr_iload_n (pc := 5) (z := p2) dX12_isBelow_5 rfl rfl ?_
  refine mr_ldcw (pc := 6) (z := (-2147483648)) dX12_isBelow_6 wG_X12_571 (by decide) ?_
  refine mr_iadd (pc := 9) (x := p2) (y := (-2147483648)) dX12_isBelow_9 ?_
  refine mr_wrapF fun z4 h5 h6 => ?_
  refine mr_icmp_ge (pc := 10) (tgt := 17) dX12_isBelow_10 (by decide) h2 h5 (fun h9 => ?_) (fun h9 => ?_)
  · refine mr_iconst (pc := 17) (z := 0) dX12_isBelow_17 ?_
    exact mr_zretP dX12_isBelow_18 rfl (rW (c := 0) (d := 1) (rR (x := 0)) rfl) (le_t rfl) (le_t rfl) ⟨(rW (c := 0) (d := 1) (rR (x := 0)) rfl), (vc_X12_isBelow_1 h3 h6 h9 hp1 hp2 h2 h5), (vc_X12_isBelow_2 h3 h6 h9 hp1 hp2 h2 h5), trivial⟩
  have h10 : (-2147483648) ≤ z1 ∧ z1 ≤ 2147483646 := (vc_X12_isBelow_3 h9 h3 h6 hp1 hp2 h2 h5)
  have h11 : (-2147483647) ≤ z4 ∧ z4 ≤ 2147483647 := (vc_X12_isBelow_4 h9 h3 h6 hp1 hp2 h10 h5)
  refine mr_iconst (pc := 13) (z := 1) dX12_isBelow_13 ?_
  refine sv_goto (pc := 14) (tgt := 18) dX12_isBelow_14 (by decide) ?_
  exact mr_zretP dX12_isBelow_18 rfl (rW (c := 0) (d := 1) (rR (x := 1)) rfl) (le_t rfl) (le_t rfl) ⟨(rW (c := 0) (d := 1) (rR (x := 1)) rfl), (vc_X12_isBelow_5 h3 h6 h9 hp1 hp2 h10 h11), (vc_X12_isBelow_6 h3 h6 h9 hp1 hp2 h10 h11), trivial⟩
theorem vc_X12_best_l_1 {f_ties z383 z384 : Int} (h0 : (21 - z383) < ((0 : Nat) : Int)) (h1 : z384 < z383) (h2 : z383 ≤ f_ties) (h3 : 0 ≤ f_ties ∧ f_ties ≤ 20) (h4 : 0 ≤ z383 ∧ z383 ≤ 20) (h5 : (-99999999) ≤ z384 ∧ z384 ≤ 19) (h6 : z384 = (-99999999) ∨ (0 ≤ z384 ∧ z384 ≤ 19)) : False := by omega
theorem vc_X12_best_l_2 {f_ties z383 z384 : Int} (h0 : z384 < z383) (h1 : z383 ≤ f_ties) (h2 : f_ties ≤ z383) (h3 : 0 ≤ f_ties ∧ f_ties ≤ 20) (h4 : 0 ≤ z383 ∧ z383 ≤ 20) (h5 : (-99999999) ≤ z384 ∧ z384 ≤ 19) (h6 : z384 = (-99999999) ∨ (0 ≤ z384 ∧ z384 ≤ 19)) : z384 = -99999999 ∨ (0 ≤ z384 ∧ z384 ≤ 19) := by omega
theorem vc_X12_best_l_3 {f_ties z383 z384 : Int} (h0 : z384 < z383) (h1 : z383 ≤ f_ties) (h2 : f_ties ≤ z383) (h3 : 0 ≤ f_ties ∧ f_ties ≤ 20) (h4 : 0 ≤ z383 ∧ z383 ≤ 20) (h5 : (-99999999) ≤ z384 ∧ z384 ≤ 19) (h6 : z384 = (-99999999) ∨ (0 ≤ z384 ∧ z384 ≤ 19)) : z384 < f_ties := by omega
theorem vc_X12_best_l_4 {f_ties z383 z384 : Int} (h0 : z384 < z383) (h1 : z383 ≤ f_ties) (h2 : f_ties ≤ z383) (h3 : 0 ≤ f_ties ∧ f_ties ≤ 20) (h4 : 0 ≤ z383 ∧ z383 ≤ 20) (h5 : (-99999999) ≤ z384 ∧ z384 ≤ 19) (h6 : z384 = (-99999999) ∨ (0 ≤ z384 ∧ z384 ≤ 19)) : z383 = f_ties := by omega
theorem vc_X12_best_l_5 {f_ties z383 z384 : Int} (h0 : z383 < f_ties) (h1 : z384 < z383) (h2 : z383 ≤ f_ties) (h3 : 0 ≤ f_ties ∧ f_ties ≤ 20) (h4 : 0 ≤ z383 ∧ z383 ≤ 20) (h5 : (-99999999) ≤ z384 ∧ z384 ≤ 19) (h6 : z384 = (-99999999) ∨ (0 ≤ z384 ∧ z384 ≤ 19)) : 0 ≤ z383 ∧ z383 ≤ 19 := by omega
theorem vc_X12_best_l_6 {f_ties z383 z384 : Int} (h0 : z383 < f_ties) (h1 : z384 < z383) (h2 : z383 ≤ f_ties) (h3 : 0 ≤ f_ties ∧ f_ties ≤ 20) (h4 : 0 ≤ z383 ∧ z383 ≤ 19) (h5 : (-99999999) ≤ z384 ∧ z384 ≤ 19) (h6 : z384 = (-99999999) ∨ (0 ≤ z384 ∧ z384 ≤ 19)) : 1 ≤ f_ties ∧ f_ties ≤ 20 := by omega
theorem vc_X12_best_l_7 {z416 : Int} (h0 : z416 = 0) (h1 : 0 ≤ z416 ∧ z416 ≤ 1) : 0 ≤ z416 ∧ z416 ≤ 0 := by omega
theorem vc_X12_best_l_8 {f_ties z383 z384 : Int} (h0 : z384 < z383) (h1 : z383 ≤ f_ties) (h2 : z383 < f_ties) (h3 : 1 ≤ f_ties ∧ f_ties ≤ 20) (h4 : 0 ≤ z383 ∧ z383 ≤ 19) (h5 : (-99999999) ≤ z384 ∧ z384 ≤ 19) (h6 : z384 = (-99999999) ∨ (0 ≤ z384 ∧ z384 ≤ 19)) : z384 < (z383 + 1) := by omega
theorem vc_X12_best_l_9 {f_ties z383 z384 : Int} (h0 : z384 < z383) (h1 : z383 ≤ f_ties) (h2 : z383 < f_ties) (h3 : 1 ≤ f_ties ∧ f_ties ≤ 20) (h4 : 0 ≤ z383 ∧ z383 ≤ 19) (h5 : (-99999999) ≤ z384 ∧ z384 ≤ 19) (h6 : z384 = (-99999999) ∨ (0 ≤ z384 ∧ z384 ≤ 19)) : (z383 + 1) ≤ f_ties := by omega
theorem vc_X12_best_l_10 {N f_ties z383 z384 : Int} (h0 : (21 - z383) < N + 1) (h1 : z384 < z383) (h2 : z383 ≤ f_ties) (h3 : z383 < f_ties) (h4 : 1 ≤ f_ties ∧ f_ties ≤ 20) (h5 : 0 ≤ z383 ∧ z383 ≤ 19) (h6 : (-99999999) ≤ z384 ∧ z384 ≤ 19) (h7 : z384 = (-99999999) ∨ (0 ≤ z384 ∧ z384 ≤ 19)) : (21 - (z383 + 1)) < N := by omega
theorem vc_X12_best_l_11 {f_ties z383 z384 z416 : Int} (h0 : z384 < z383) (h1 : z416 = 0) (h2 : z383 ≤ f_ties) (h3 : z383 < f_ties) (h4 : 1 ≤ f_ties ∧ f_ties ≤ 20) (h5 : 0 ≤ z383 ∧ z383 ≤ 19) (h6 : (-99999999) ≤ z384 ∧ z384 ≤ 19) (h7 : z384 = (-99999999) ∨ (0 ≤ z384 ∧ z384 ≤ 19)) (h8 : 0 ≤ z416 ∧ z416 ≤ 0) : ¬ z416 = 1 ∨ ¬ z384 = -99999999 := by omega
theorem vc_X12_best_l_12 {f_ties z383 z384 : Int} (h0 : z384 < z383) (h1 : z383 ≤ f_ties) (h2 : z383 < f_ties) (h3 : 1 ≤ f_ties ∧ f_ties ≤ 20) (h4 : 0 ≤ z383 ∧ z383 ≤ 19) (h5 : (-99999999) ≤ z384 ∧ z384 ≤ 19) (h6 : z384 = (-99999999) ∨ (0 ≤ z384 ∧ z384 ≤ 19)) : z384 = (-99999999) ∨ (0 ≤ z384 ∧ z384 ≤ 19) := by omega
theorem vc_X12_best_l_13 {z416 : Int} (h0 : ¬ z416 = 0) (h1 : 0 ≤ z416 ∧ z416 ≤ 1) : 1 ≤ z416 ∧ z416 ≤ 1 := by omega
theorem vc_X12_best_l_14 {z383 z384 : Int} (h0 : z384 = (-99999999)) (h1 : z384 < z383) (h2 : 0 ≤ z383 ∧ z383 ≤ 19) (h3 : (-99999999) ≤ z384 ∧ z384 ≤ 19) (h4 : z384 = (-99999999) ∨ (0 ≤ z384 ∧ z384 ≤ 19)) : (-99999999) ≤ z384 ∧ z384 ≤ (-99999999) := by omega
theorem vc_X12_best_l_15 {f_ties z383 z384 : Int} (h0 : z384 < z383) (h1 : z383 ≤ f_ties) (h2 : z383 < f_ties) (h3 : z384 = (-99999999)) (h4 : 1 ≤ f_ties ∧ f_ties ≤ 20) (h5 : 0 ≤ z383 ∧ z383 ≤ 19) (h6 : (-99999999) ≤ z384 ∧ z384 ≤ (-99999999)) (h7 : z384 = (-99999999) ∨ (0 ≤ z384 ∧ z384 ≤ 19)) : z383 < (z383 + 1) := by omega
theorem vc_X12_best_l_16 {f_ties z383 z384 : Int} (h0 : z384 < z383) (h1 : z383 ≤ f_ties) (h2 : z383 < f_ties) (h3 : z384 = (-99999999)) (h4 : 1 ≤ f_ties ∧ f_ties ≤ 20) (h5 : 0 ≤ z383 ∧ z383 ≤ 19) (h6 : (-99999999) ≤ z384 ∧ z384 ≤ (-99999999)) (h7 : z384 = (-99999999) ∨ (0 ≤ z384 ∧ z384 ≤ 19)) : (z383 + 1) ≤ f_ties := by omega
theorem vc_X12_best_l_17 {N f_ties z383 z384 : Int} (h0 : (21 - z383) < N + 1) (h1 : z384 < z383) (h2 : z383 ≤ f_ties) (h3 : z383 < f_ties) (h4 : z384 = (-99999999)) (h5 : 1 ≤ f_ties ∧ f_ties ≤ 20) (h6 : 0 ≤ z383 ∧ z383 ≤ 19) (h7 : (-99999999) ≤ z384 ∧ z384 ≤ (-99999999)) (h8 : z384 = (-99999999) ∨ (0 ≤ z384 ∧ z384 ≤ 19)) : (21 - (z383 + 1)) < N := by omega
theorem vc_X12_best_l_18 {z416 : Int} (h0 : ¬ z416 = 0) (h1 : 1 ≤ z416 ∧ z416 ≤ 1) : z416 = 1 := by omega
theorem vc_X12_best_l_19 {f_ties z383 z384 : Int} (h0 : z384 < z383) (h1 : z383 ≤ f_ties) (h2 : z383 < f_ties) (h3 : z384 = (-99999999)) (h4 : 1 ≤ f_ties ∧ f_ties ≤ 20) (h5 : 0 ≤ z383 ∧ z383 ≤ 19) (h6 : (-99999999) ≤ z384 ∧ z384 ≤ (-99999999)) (h7 : z384 = (-99999999) ∨ (0 ≤ z384 ∧ z384 ≤ 19)) : 0 ≤ z383 := by omega
theorem vc_X12_best_l_20 {f_ties z383 z384 : Int} (h0 : z384 < z383) (h1 : z383 ≤ f_ties) (h2 : z383 < f_ties) (h3 : z384 = (-99999999)) (h4 : 1 ≤ f_ties ∧ f_ties ≤ 20) (h5 : 0 ≤ z383 ∧ z383 ≤ 19) (h6 : (-99999999) ≤ z384 ∧ z384 ≤ (-99999999)) (h7 : z384 = (-99999999) ∨ (0 ≤ z384 ∧ z384 ≤ 19)) : z383 = (-99999999) ∨ (0 ≤ z383 ∧ z383 ≤ 19) := by omega
theorem vc_X12_best_l_21 {z383 z384 : Int} (h0 : ¬ z384 = (-99999999)) (h1 : z384 < z383) (h2 : 0 ≤ z383 ∧ z383 ≤ 19) (h3 : (-99999999) ≤ z384 ∧ z384 ≤ 19) (h4 : z384 = (-99999999) ∨ (0 ≤ z384 ∧ z384 ≤ 19)) : 0 ≤ z384 ∧ z384 ≤ 19 := by omega
theorem vc_X12_best_l_22 {z429 : Int} (h0 : z429 = 0) (h1 : 0 ≤ z429 ∧ z429 ≤ 1) : 0 ≤ z429 ∧ z429 ≤ 0 := by omega
theorem vc_X12_best_l_23 {f_ties z383 z384 : Int} (h0 : z384 < z383) (h1 : z383 ≤ f_ties) (h2 : z383 < f_ties) (h3 : ¬ z384 = (-99999999)) (h4 : 1 ≤ f_ties ∧ f_ties ≤ 20) (h5 : 0 ≤ z383 ∧ z383 ≤ 19) (h6 : 0 ≤ z384 ∧ z384 ≤ 19) (h7 : z384 = (-99999999) ∨ (0 ≤ z384 ∧ z384 ≤ 19)) : z384 < (z383 + 1) := by omega
theorem vc_X12_best_l_24 {f_ties z383 z384 : Int} (h0 : z384 < z383) (h1 : z383 ≤ f_ties) (h2 : z383 < f_ties) (h3 : ¬ z384 = (-99999999)) (h4 : 1 ≤ f_ties ∧ f_ties ≤ 20) (h5 : 0 ≤ z383 ∧ z383 ≤ 19) (h6 : 0 ≤ z384 ∧ z384 ≤ 19) (h7 : z384 = (-99999999) ∨ (0 ≤ z384 ∧ z384 ≤ 19)) : (z383 + 1) ≤ f_ties := by omega
theorem vc_X12_best_l_25 {N f_ties z383 z384 : Int} (h0 : (21 - z383) < N + 1) (h1 : z384 < z383) (h2 : z383 ≤ f_ties) (h3 : z383 < f_ties) (h4 : ¬ z384 = (-99999999)) (h5 : 1 ≤ f_ties ∧ f_ties ≤ 20) (h6 : 0 ≤ z383 ∧ z383 ≤ 19) (h7 : 0 ≤ z384 ∧ z384 ≤ 19) (h8 : z384 = (-99999999) ∨ (0 ≤ z384 ∧ z384 ≤ 19)) : (21 - (z383 + 1)) < N := by omega
theorem vc_X12_best_l_26 {f_ties z383 z384 z416 : Int} (h0 : z384 < z383) (h1 : ¬ z416 = 0) (h2 : ¬ z384 = (-99999999)) (h3 : z383 ≤ f_ties) (h4 : z383 < f_ties) (h5 : 1 ≤ f_ties ∧ f_ties ≤ 20) (h6 : 0 ≤ z383 ∧ z383 ≤ 19) (h7 : 0 ≤ z384 ∧ z384 ≤ 19) (h8 : z384 = (-99999999) ∨ (0 ≤ z384 ∧ z384 ≤ 19)) (h9 : 1 ≤ z416 ∧ z416 ≤ 1) : ¬ z416 = 1 ∨ ¬ z384 = -99999999 := by omega
theorem vc_X12_best_l_27 {f_ties z383 z384 : Int} (h0 : z384 < z383) (h1 : ¬ z384 = (-99999999)) (h2 : z383 ≤ f_ties) (h3 : z383 < f_ties) (h4 : 1 ≤ f_ties ∧ f_ties ≤ 20) (h5 : 0 ≤ z383 ∧ z383 ≤ 19) (h6 : 0 ≤ z384 ∧ z384 ≤ 19) (h7 : z384 = (-99999999) ∨ (0 ≤ z384 ∧ z384 ≤ 19)) : z384 = (-99999999) ∨ (0 ≤ z384 ∧ z384 ≤ 19) := by omega
theorem vc_X12_best_l_28 {z429 : Int} (h0 : ¬ z429 = 0) (h1 : 0 ≤ z429 ∧ z429 ≤ 1) : 1 ≤ z429 ∧ z429 ≤ 1 := by omega
theorem vc_X12_best_l_29 {f_ties z383 z384 : Int} (h0 : z384 < z383) (h1 : z383 ≤ f_ties) (h2 : z383 < f_ties) (h3 : ¬ z384 = (-99999999)) (h4 : 1 ≤ f_ties ∧ f_ties ≤ 20) (h5 : 0 ≤ z383 ∧ z383 ≤ 19) (h6 : 0 ≤ z384 ∧ z384 ≤ 19) (h7 : z384 = (-99999999) ∨ (0 ≤ z384 ∧ z384 ≤ 19)) : z383 < (z383 + 1) := by omega
theorem vc_X12_best_l_30 {f_ties z383 z384 : Int} (h0 : z384 < z383) (h1 : z383 ≤ f_ties) (h2 : z383 < f_ties) (h3 : ¬ z384 = (-99999999)) (h4 : 1 ≤ f_ties ∧ f_ties ≤ 20) (h5 : 0 ≤ z383 ∧ z383 ≤ 19) (h6 : 0 ≤ z384 ∧ z384 ≤ 19) (h7 : z384 = (-99999999) ∨ (0 ≤ z384 ∧ z384 ≤ 19)) : 0 ≤ z383 := by omega
theorem vc_X12_best_l_31 {f_ties z383 z384 : Int} (h0 : z384 < z383) (h1 : z383 ≤ f_ties) (h2 : z383 < f_ties) (h3 : ¬ z384 = (-99999999)) (h4 : 1 ≤ f_ties ∧ f_ties ≤ 20) (h5 : 0 ≤ z383 ∧ z383 ≤ 19) (h6 : 0 ≤ z384 ∧ z384 ≤ 19) (h7 : z384 = (-99999999) ∨ (0 ≤ z384 ∧ z384 ≤ 19)) : z383 = (-99999999) ∨ (0 ≤ z383 ∧ z383 ≤ 19) := by omega
theorem vc_X12_best_l_32  : (((-99999999) : Int) : Int) < ((0 : Int) : Int) := by omega
theorem vc_X12_best_l_33 {f_ties : Int} (h0 : 0 ≤ f_ties ∧ f_ties ≤ 20) : (0 : Int) ≤ f_ties := by omega
theorem vc_X12_best_l_34  : (21 - 0) < ((22 : Nat) : Int) := by omega
theorem vc_X12_best_l_35  : (((-99999999) : Int) : Int) = ((-99999999) : Int) ∨ ((0 : Int) ≤ (((-99999999) : Int) : Int) ∧ (((-99999999) : Int) : Int) ≤ (19 : Int)) := by omega
set_option maxRecDepth 4000 in
set_option maxHeartbeats 4000000 in
theorem c_X12_best_l {l : Launch} {D : va_G} {c : Nat → ClassId} {H0 : Heap} {sa : Nat × Nat × (Nat → Int32)} {w : mW} {μ : mM} (hw : mWF w) (hT : mT w μ) {p1 : Int} (hp1 : 0 ≤ p1 ∧ p1 ≤ 9) {p2 : Int} (hp2 : 0 ≤ p2 ∧ p2 ≤ 9) {f_ties : Int} (q_f_ties : μ 106 6 = f_ties) : sC (gG l D c H0 sa) mX12_best 4 0 0 [.ref 106, iv p1, iv p2] (mk w μ) (qP w μ (fun z => ((-99999999) ≤ z ∧ z ≤ 19) ∧ (z = -99999999 ∨ (0 ≤ z ∧ z ≤ 19)) ∧ (z < f_ties) ∧ (bestOK μ f_ties z) ∧ True)) := by
  refine sC.of rfl (by decide) (le_t rfl) ?_
  have ht_f_ties : (0 ≤ f_ties ∧ f_ties ≤ 20) := by rw [← q_f_ties]; exact hT 106 106 (A_106 hw) 6
  refine mr_lvE (lv' := [(0, .ref 106), (1, iv p1), (2, iv p2)]) rfl ?_
  refine mr_ldc (pc := 0) (z := (-99999999)) dX12_best_0 wG_X12_29 (by decide) ?_
  refine mr_istore_n (pc := 2) (lv' := [(3, iv (-99999999)), (0, .ref 106), (1, iv p1), (2, iv p2)]) dX12_best_2 rfl (by decide) rfl ?_
  refine mr_iconst (pc := 3) (z := 0) dX12_best_3 ?_
  refine mr_istore (pc := 4) (lv' := [(4, iv 0), (3, iv (-99999999)), (0, .ref 106), (1, iv p1), (2, iv p2)]) dX12_best_4 (by decide) rfl ?_
  have L385 : ∀ (nL385 : Nat) (z384 z383 : Int), True → ((-99999999) ≤ z384 ∧ z384 ≤ 19) → (0 ≤ z383 ∧ z383 ≤ 20) → (z384 < z383) → (z383 ≤ f_ties) → bestOK μ z383 z384 → (z384 = (-99999999) ∨ (0 ≤ z384 ∧ z384 ≤ 19)) → (21 - z383) < (nL385 : Int) → sV (gG l D c H0 sa) mX12_best (sRm 4 0 0) (sZ (gG l D c H0 sa) 0 0 (qP w μ (fun z => ((-99999999) ≤ z ∧ z ≤ 19) ∧ (z = -99999999 ∨ (0 ≤ z ∧ z ≤ 19)) ∧ (z < f_ties) ∧ (bestOK μ f_ties z) ∧ True))) 6 [(0, .ref 106), (1, iv p1), (2, iv p2), (3, iv z384), (4, iv z383)] [] (mk w μ) 0 0 := by
    intro nL385
    induction nL385 with
    | zero => intro z384 z383 _ h386 h387 h391 h392 R393 h394 h395; exact ((vc_X12_best_l_1 h395 h391 h392 ht_f_ties h387 h386 h394)).elim
    | succ nL385 ih396 =>
      intro z384 z383 _ h386 h387 h391 h392 R393 h394 h395
      refine mr_iload (pc := 6) (z := z383) dX12_best_6 rfl ?_
      refine sv_aload_n (pc := 8) dX12_best_8 rfl rfl ?_
      refine gk_X12_6 (pc := 9) dX12_best_9 wF_X12_37 (A_106 hw) q_f_ties ?_
      refine mr_icmp_ge (pc := 12) (tgt := 52) dX12_best_12 (by decide) (r32 h387 rfl) (r32 ht_f_ties rfl) (fun h413 => ?_) (fun h413 => ?_)
      · refine mr_iload_n (pc := 52) (z := z384) dX12_best_52 rfl rfl ?_
        exact mr_iretP dX12_best_53 rfl (le_t rfl) (le_t rfl) ⟨h386, (vc_X12_best_l_2 h391 h392 h413 ht_f_ties h387 h386 h394), (vc_X12_best_l_3 h391 h392 h413 ht_f_ties h387 h386 h394), (by have h := R393; rw [show z383 = f_ties from (vc_X12_best_l_4 h391 h392 h413 ht_f_ties h387 h386 h394)] at h; exact h), trivial⟩
      have h414 : 0 ≤ z383 ∧ z383 ≤ 19 := (vc_X12_best_l_5 h413 h391 h392 ht_f_ties h387 h386 h394)
      have h415 : 1 ≤ f_ties ∧ f_ties ≤ 20 := (vc_X12_best_l_6 h413 h391 h392 ht_f_ties h414 h386 h394)
      refine sv_aload_n (pc := 15) dX12_best_15 rfl rfl ?_
      refine gf_X12_85 (pc := 16) dX12_best_16 wF_X12_457 (A_106 hw) hT ?_
      refine mr_iload (pc := 19) (z := z383) dX12_best_19 rfl ?_
      refine la_165 (pc := 21) dX12_best_21 (A_165 hw) hT (rIx (n := 20) h414 rfl) fun z416 q417 h418 => ?_
      refine mr_if_eq (pc := 22) (tgt := 46) dX12_best_22 (by decide) (r32 h418 rfl) (fun h419 => ?_) (fun h419 => ?_)
      · have h420 : 0 ≤ z416 ∧ z416 ≤ 0 := (vc_X12_best_l_7 h419 h418)
        refine mr_iinc (pc := 46) (lv' := [(4, iv (z383 + 1)), (0, .ref 106), (1, iv p1), (2, iv p2), (3, iv z384)]) dX12_best_46 rfl (by decide) rfl ?_
        refine sv_goto (pc := 49) (tgt := 6) dX12_best_49 (by decide) ?_
        refine mr_lvS (lv' := [(0, .ref 106), (1, iv p1), (2, iv p2), (3, iv z384), (4, iv (z383 + 1))]) (List.forall_mem_cons.mpr ⟨rfl, List.forall_mem_cons.mpr ⟨rfl, List.forall_mem_cons.mpr ⟨rfl, List.forall_mem_cons.mpr ⟨rfl, List.forall_mem_cons.mpr ⟨rfl, fun _ h => absurd h List.not_mem_nil⟩⟩⟩⟩⟩) ?_
        exact ih396 z384 (z383 + 1) trivial h386 (rW (c := 0) (d := 20) (rAdd (e := 1) (f := 20) h414 (rR (x := 1)) rfl) rfl) (vc_X12_best_l_8 h391 h392 h413 h415 h414 h386 h394) (vc_X12_best_l_9 h391 h392 h413 h415 h414 h386 h394) (bestOK.not R393 q417 (vc_X12_best_l_11 h391 h419 h392 h413 h415 h414 h386 h394 h420)) (vc_X12_best_l_12 h391 h392 h413 h415 h414 h386 h394) (vc_X12_best_l_10 (nS h395) h391 h392 h413 h415 h414 h386 h394)
      have h421 : 1 ≤ z416 ∧ z416 ≤ 1 := (vc_X12_best_l_13 h419 h418)
      refine mr_iload_n (pc := 25) (z := z384) dX12_best_25 rfl rfl ?_
      refine mr_ldc (pc := 26) (z := (-99999999)) dX12_best_26 wG_X12_29 (by decide) ?_
      refine mr_icmp_eq (pc := 28) (tgt := 43) dX12_best_28 (by decide) (r32 h386 rfl) (r32 (rR (x := (-99999999))) rfl) (fun h422 => ?_) (fun h422 => ?_)
      · have h423 : (-99999999) ≤ z384 ∧ z384 ≤ (-99999999) := (vc_X12_best_l_14 h422 h391 h414 h386 h394)
        refine mr_iload (pc := 43) (z := z383) dX12_best_43 rfl ?_
        refine mr_istore_n (pc := 45) (lv' := [(3, iv z383), (0, .ref 106), (1, iv p1), (2, iv p2), (4, iv z383)]) dX12_best_45 rfl (by decide) rfl ?_
        refine mr_iinc (pc := 46) (lv' := [(4, iv (z383 + 1)), (3, iv z383), (0, .ref 106), (1, iv p1), (2, iv p2)]) dX12_best_46 rfl (by decide) rfl ?_
        refine sv_goto (pc := 49) (tgt := 6) dX12_best_49 (by decide) ?_
        refine mr_lvS (lv' := [(0, .ref 106), (1, iv p1), (2, iv p2), (3, iv z383), (4, iv (z383 + 1))]) (List.forall_mem_cons.mpr ⟨rfl, List.forall_mem_cons.mpr ⟨rfl, List.forall_mem_cons.mpr ⟨rfl, List.forall_mem_cons.mpr ⟨rfl, List.forall_mem_cons.mpr ⟨rfl, fun _ h => absurd h List.not_mem_nil⟩⟩⟩⟩⟩) ?_
        exact ih396 z383 (z383 + 1) trivial (rW (c := (-99999999)) (d := 19) h414 rfl) (rW (c := 0) (d := 20) (rAdd (e := 1) (f := 20) h414 (rR (x := 1)) rfl) rfl) (vc_X12_best_l_15 h391 h392 h413 h422 h415 h414 h423 h394) (vc_X12_best_l_16 h391 h392 h413 h422 h415 h414 h423 h394) (bestOK.put q417 (vc_X12_best_l_18 h419 h421) (vc_X12_best_l_19 h391 h392 h413 h422 h415 h414 h423 h394)) (vc_X12_best_l_20 h391 h392 h413 h422 h415 h414 h423 h394) (vc_X12_best_l_17 (nS h395) h391 h392 h413 h422 h415 h414 h423 h394)
      have h424 : 0 ≤ z384 ∧ z384 ≤ 19 := (vc_X12_best_l_21 h422 h391 h414 h386 h394)
      refine sv_aload_n (pc := 31) dX12_best_31 rfl rfl ?_
      refine mr_iload_n (pc := 32) (z := p1) dX12_best_32 rfl rfl ?_
      refine mr_iload (pc := 33) (z := z383) dX12_best_33 rfl ?_
      refine mr_iload_n (pc := 35) (z := z384) dX12_best_35 rfl rfl ?_
      refine mr_iload_n (pc := 36) (z := p2) dX12_best_36 rfl rfl ?_
      refine mr_cVP (pc := 37) (c_X12_beats hw hT hp1 h414 h424 hp2) (gOk _ _ _ _ _) dX12_best_37 (tX12_beats _ _ _ _ _) ⟨wV_X12_beats, wL_X12_beats⟩ wM_X12_568 (gCX12 _ _ _ _ _) rfl (A_106 hw) rfl ⟨le_t rfl, le_t rfl⟩ ⟨le_t rfl, le_t rfl⟩ rfl (le_t rfl) fun z429 h428 => ?_
      refine mr_if_eq (pc := 40) (tgt := 46) dX12_best_40 (by decide) (r32 h428.1 rfl) (fun h430 => ?_) (fun h430 => ?_)
      · have h431 : 0 ≤ z429 ∧ z429 ≤ 0 := (vc_X12_best_l_22 h430 h428.1)
        refine mr_iinc (pc := 46) (lv' := [(4, iv (z383 + 1)), (0, .ref 106), (1, iv p1), (2, iv p2), (3, iv z384)]) dX12_best_46 rfl (by decide) rfl ?_
        refine sv_goto (pc := 49) (tgt := 6) dX12_best_49 (by decide) ?_
        refine mr_lvS (lv' := [(0, .ref 106), (1, iv p1), (2, iv p2), (3, iv z384), (4, iv (z383 + 1))]) (List.forall_mem_cons.mpr ⟨rfl, List.forall_mem_cons.mpr ⟨rfl, List.forall_mem_cons.mpr ⟨rfl, List.forall_mem_cons.mpr ⟨rfl, List.forall_mem_cons.mpr ⟨rfl, fun _ h => absurd h List.not_mem_nil⟩⟩⟩⟩⟩) ?_
        exact ih396 z384 (z383 + 1) trivial (rW (c := (-99999999)) (d := 19) h424 rfl) (rW (c := 0) (d := 20) (rAdd (e := 1) (f := 20) h414 (rR (x := 1)) rfl) rfl) (vc_X12_best_l_23 h391 h392 h413 h422 h415 h414 h424 h394) (vc_X12_best_l_24 h391 h392 h413 h422 h415 h414 h424 h394) (bestOK.not R393 q417 (vc_X12_best_l_26 h391 h419 h422 h392 h413 h415 h414 h424 h394 h421)) (vc_X12_best_l_27 h391 h422 h392 h413 h415 h414 h424 h394) (vc_X12_best_l_25 (nS h395) h391 h392 h413 h422 h415 h414 h424 h394)
      have h432 : 1 ≤ z429 ∧ z429 ≤ 1 := (vc_X12_best_l_28 h430 h428.1)
      refine mr_iload (pc := 43) (z := z383) dX12_best_43 rfl ?_
      refine mr_istore_n (pc := 45) (lv' := [(3, iv z383), (0, .ref 106), (1, iv p1), (2, iv p2), (4, iv z383)]) dX12_best_45 rfl (by decide) rfl ?_
      refine mr_iinc (pc := 46) (lv' := [(4, iv (z383 + 1)), (3, iv z383), (0, .ref 106), (1, iv p1), (2, iv p2)]) dX12_best_46 rfl (by decide) rfl ?_
      refine sv_goto (pc := 49) (tgt := 6) dX12_best_49 (by decide) ?_
      refine mr_lvS (lv' := [(0, .ref 106), (1, iv p1), (2, iv p2), (3, iv z383), (4, iv (z383 + 1))]) (List.forall_mem_cons.mpr ⟨rfl, List.forall_mem_cons.mpr ⟨rfl, List.forall_mem_cons.mpr ⟨rfl, List.forall_mem_cons.mpr ⟨rfl, List.forall_mem_cons.mpr ⟨rfl, fun _ h => absurd h List.not_mem_nil⟩⟩⟩⟩⟩) ?_
      exact ih396 z383 (z383 + 1) trivial (rW (c := (-99999999)) (d := 19) h414 rfl) (rW (c := 0) (d := 20) (rAdd (e := 1) (f := 20) h414 (rR (x := 1)) rfl) rfl) (vc_X12_best_l_29 h391 h392 h413 h422 h415 h414 h424 h394) (vc_X12_best_l_24 h391 h392 h413 h422 h415 h414 h424 h394) (bestOK.put q417 (vc_X12_best_l_18 h419 h421) (vc_X12_best_l_30 h391 h392 h413 h422 h415 h414 h424 h394)) (vc_X12_best_l_31 h391 h392 h413 h422 h415 h414 h424 h394) (vc_X12_best_l_25 (nS h395) h391 h392 h413 h422 h415 h414 h424 h394)
  refine mr_lvS (lv' := [(0, .ref 106), (1, iv p1), (2, iv p2), (3, iv (-99999999)), (4, iv 0)]) (List.forall_mem_cons.mpr ⟨rfl, List.forall_mem_cons.mpr ⟨rfl, List.forall_mem_cons.mpr ⟨rfl, List.forall_mem_cons.mpr ⟨rfl, List.forall_mem_cons.mpr ⟨rfl, fun _ h => absurd h List.not_mem_nil⟩⟩⟩⟩⟩) ?_
  exact L385 22 (-99999999) 0 trivial (rW (c := (-99999999)) (d := 19) (rR (x := (-99999999))) rfl) (rW (c := 0) (d := 20) (rR (x := 0)) rfl) vc_X12_best_l_32 (vc_X12_best_l_33 ht_f_ties) bestOK.zero vc_X12_best_l_35 vc_X12_best_l_34
