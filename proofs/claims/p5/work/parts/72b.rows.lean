theorem vc_X12_partnerOf_pt_1 {f_e0 f_e1 p1 p2 z29 z30 : Int} (h0 : (z29 = 0 → f_e0 = p2)) (h1 : (z29 = 1 → ¬ f_e0 = p2)) (h2 : ((((2 * p1) + 1) - z29) = (2 * p1) → z30 = f_e0)) (h3 : ((((2 * p1) + 1) - z29) = ((2 * p1) + 1) → z30 = f_e1)) (h4 : 0 ≤ f_e0 ∧ f_e0 ≤ 9) (h5 : 0 ≤ f_e1 ∧ f_e1 ≤ 9) (h6 : 0 ≤ p1 ∧ p1 ≤ 19) (h7 : (-2147483648) ≤ p2 ∧ p2 ≤ 2147483647) (h8 : 0 ≤ z29 ∧ z29 ≤ 1) (h9 : 0 ≤ z30 ∧ z30 ≤ 9) : (f_e0 = p2 → z30 = f_e1) ∧ (¬ f_e0 = p2 → z30 = f_e0) := by omega
set_option maxRecDepth 4000 in
set_option maxHeartbeats 4000000 in
theorem c_X12_partnerOf_pt {l : Launch} {D : va_G} {c : Nat → ClassId} {H0 : Heap} {sa : Nat × Nat × (Nat → Int32)} {w : mW} {μ : mM} (hw : mWF w) (hT : mT w μ) {p1 : Int} (hp1 : 0 ≤ p1 ∧ p1 ≤ 19) {p2 : Int} (hp2 : (-2147483648) ≤ p2 ∧ p2 ≤ 2147483647) {f_e0 : Int} (q_f_e0 : μ 110 ((2 * p1).toNat) = f_e0) {f_e1 : Int} (q_f_e1 : μ 110 (((2 * p1) + 1).toNat) = f_e1) : sC (gG l D c H0 sa) mX12_partnerOf 2 0 0 [.ref 106, iv p1, iv p2] (mk w μ) (qP w μ (fun z => (0 ≤ z ∧ z ≤ 9) ∧ ((f_e0 = p2 → z = f_e1) ∧ (¬ f_e0 = p2 → z = f_e0)) ∧ True)) := by
  refine sC.of rfl (by decide) (le_t rfl) ?_
  have ht_f_e0 : (0 ≤ f_e0 ∧ f_e0 ≤ 9) := by rw [← q_f_e0]; exact hT 110 110 (A_110 hw) ((2 * p1).toNat)
  have ht_f_e1 : (0 ≤ f_e1 ∧ f_e1 ≤ 9) := by rw [← q_f_e1]; exact hT 110 110 (A_110 hw) (((2 * p1) + 1).toNat)
  refine mr_lvE (lv' := [(0, .ref 106), (1, iv p1), (2, iv p2)]) rfl ?_
  refine sv_aload_n (pc := 0) dX12_partnerOf_0 rfl rfl ?_
  refine gf_X12_7 (pc := 1) dX12_partnerOf_1 wF_X12_40 (A_106 hw) hT ?_
  refine mr_iconst (pc := 4) (z := 2) dX12_partnerOf_4 ?_
  refine mr_iload_n (pc := 5) (z := p1) dX12_partnerOf_5 rfl rfl ?_
  refine mr_imul (pc := 6) (x := 2) (y := p1) dX12_partnerOf_6 ?_
  refine mr_iconst (pc := 7) (z := 1) dX12_partnerOf_7 ?_
  refine mr_iadd (pc := 8) (x := (2 * p1)) (y := 1) dX12_partnerOf_8 ?_
  refine sv_aload_n (pc := 9) dX12_partnerOf_9 rfl rfl ?_
  refine mr_iload_n (pc := 10) (z := p1) dX12_partnerOf_10 rfl rfl ?_
  refine mr_iload_n (pc := 11) (z := p2) dX12_partnerOf_11 rfl rfl ?_
  refine mr_cVP (pc := 12) (c_X12_sideOf hw hT hp1 hp2 q_f_e0) (gOk _ _ _ _ _) dX12_partnerOf_12 (tX12_sideOf _ _ _ _ _) ⟨wV_X12_sideOf, wL_X12_sideOf⟩ wM_X12_542 (gCX12 _ _ _ _ _) rfl (A_106 hw) rfl ⟨le_t rfl, le_t rfl⟩ ⟨le_t rfl, le_t rfl⟩ rfl (le_t rfl) fun z29 h28 => ?_
  refine mr_isub (pc := 15) (x := ((2 * p1) + 1)) (y := z29) dX12_partnerOf_15 ?_
  refine la_110 (pc := 16) dX12_partnerOf_16 (A_110 hw) hT (rIx (n := 40) (rSub (e := 0) (f := 39) (rAdd (e := 1) (f := 39) (rMulL (n := 2) (e := 0) (f := 38) hp1 rfl) (rR (x := 1)) rfl) h28.1 rfl) rfl) fun z30 q31 h32 => ?_
  exact mr_iretP dX12_partnerOf_17 rfl (le_t rfl) (le_t rfl) ⟨h32, (vc_X12_partnerOf_pt_1 h28.2.1 h28.2.2.1 (cgr q31 q_f_e0) (cgr q31 q_f_e1) ht_f_e0 ht_f_e1 hp1 hp2 h28.1 h32), trivial⟩
theorem vc_X12_candidate_1 {f_ties p2 : Int} (h0 : p2 < f_ties) (h1 : 0 ≤ f_ties ∧ f_ties ≤ 20) (h2 : 0 ≤ p2 ∧ p2 ≤ 19) : 1 ≤ f_ties ∧ f_ties ≤ 20 := by omega
theorem vc_X12_candidate_2 {f_ties p2 : Int} (h0 : p2 < f_ties) (h1 : 1 ≤ f_ties ∧ f_ties ≤ 20) (h2 : 0 ≤ p2 ∧ p2 ≤ 19) : 0 ≤ (40 * (4 + p2)) := by omega
theorem vc_X12_candidate_3 {f_ties p2 : Int} (h0 : p2 < f_ties) (h1 : 1 ≤ f_ties ∧ f_ties ≤ 20) (h2 : 0 ≤ p2 ∧ p2 ≤ 19) : (40 * (4 + p2)) % 40 = 0 := by omega
theorem vc_X12_candidate_4 {z302 : Int} (h0 : z302 = -1) (h1 : (-1) ≤ z302 ∧ z302 ≤ 9) : (-1) ≤ z302 ∧ z302 ≤ (-1) := by omega
theorem vc_X12_candidate_5 {f_e0 f_ties p1 p2 p3 z297 z313 : Int} (h0 : z313 = (((20 * p2) + (10 * z297)) + p3)) (h1 : p2 < f_ties) (h2 : (z297 = 0 → f_e0 = p1)) (h3 : (z297 = 1 → ¬ f_e0 = p1)) (h4 : 0 ≤ f_e0 ∧ f_e0 ≤ 9) (h5 : 1 ≤ f_ties ∧ f_ties ≤ 20) (h6 : 0 ≤ p1 ∧ p1 ≤ 9) (h7 : 0 ≤ p2 ∧ p2 ≤ 19) (h8 : 0 ≤ p3 ∧ p3 ≤ 9) (h9 : 0 ≤ z297 ∧ z297 ≤ 1) (h10 : 0 ≤ z313 ∧ z313 ≤ 449) : 0 ≤ z313 ∧ z313 ≤ 399 := by omega
theorem vc_X12_candidate_6 {z315 : Int} (h0 : z315 = 0) (h1 : 0 ≤ z315 ∧ z315 ≤ 1) : 0 ≤ z315 ∧ z315 ≤ 0 := by omega
theorem vc_X12_candidate_7 {f_e0 f_ties p1 p2 p3 z297 z313 : Int} (h0 : p2 < f_ties) (h1 : z313 = (((20 * p2) + (10 * z297)) + p3)) (h2 : (z297 = 0 → f_e0 = p1)) (h3 : (z297 = 1 → ¬ f_e0 = p1)) (h4 : 0 ≤ f_e0 ∧ f_e0 ≤ 9) (h5 : 1 ≤ f_ties ∧ f_ties ≤ 20) (h6 : 0 ≤ p1 ∧ p1 ≤ 9) (h7 : 0 ≤ p2 ∧ p2 ≤ 19) (h8 : 0 ≤ p3 ∧ p3 ≤ 9) (h9 : 0 ≤ z297 ∧ z297 ≤ 1) (h10 : 0 ≤ z313 ∧ z313 ≤ 399) : ((40 * p2) + 160) ≤ (40 * (4 + p2)) ∧ ((40 * (4 + p2)) + 1) ≤ ((40 * p2) + 200) := by omega
theorem vc_X12_candidate_8 {z315 : Int} (h0 : ¬ z315 = 0) (h1 : 0 ≤ z315 ∧ z315 ≤ 1) : 1 ≤ z315 ∧ z315 ≤ 1 := by omega
theorem vc_X12_candidate_9 {f_e0 f_ties p1 p2 p3 z297 z313 : Int} (h0 : z313 = (((20 * p2) + (10 * z297)) + p3)) (h1 : p2 < f_ties) (h2 : (z297 = 0 → f_e0 = p1)) (h3 : (z297 = 1 → ¬ f_e0 = p1)) (h4 : 0 ≤ f_e0 ∧ f_e0 ≤ 9) (h5 : 1 ≤ f_ties ∧ f_ties ≤ 20) (h6 : 0 ≤ p1 ∧ p1 ≤ 9) (h7 : 0 ≤ p2 ∧ p2 ≤ 19) (h8 : 0 ≤ p3 ∧ p3 ≤ 9) (h9 : 0 ≤ z297 ∧ z297 ≤ 1) (h10 : 0 ≤ z313 ∧ z313 ≤ 399) : 0 ≤ (40 * (130 + z313)) := by omega
theorem vc_X12_candidate_10 {f_e0 f_ties p1 p2 p3 z297 z313 : Int} (h0 : z313 = (((20 * p2) + (10 * z297)) + p3)) (h1 : p2 < f_ties) (h2 : (z297 = 0 → f_e0 = p1)) (h3 : (z297 = 1 → ¬ f_e0 = p1)) (h4 : 0 ≤ f_e0 ∧ f_e0 ≤ 9) (h5 : 1 ≤ f_ties ∧ f_ties ≤ 20) (h6 : 0 ≤ p1 ∧ p1 ≤ 9) (h7 : 0 ≤ p2 ∧ p2 ≤ 19) (h8 : 0 ≤ p3 ∧ p3 ≤ 9) (h9 : 0 ≤ z297 ∧ z297 ≤ 1) (h10 : 0 ≤ z313 ∧ z313 ≤ 399) : (40 * (130 + z313)) % 40 = 0 := by omega
theorem vc_X12_candidate_11 {z321 z329 : Int} (h0 : ¬ z329 = 0) (h1 : (z329 = 1 → 0 ≤ z321)) (h2 : (z329 = 0 → z321 < 0)) (h3 : (-1) ≤ z321 ∧ z321 ≤ 9) (h4 : 0 ≤ z329 ∧ z329 ≤ 1) : 1 ≤ z329 ∧ z329 ≤ 1 := by omega
theorem vc_X12_candidate_12 {z321 z329 : Int} (h0 : (z329 = 1 → 0 ≤ z321)) (h1 : (z329 = 0 → z321 < 0)) (h2 : ¬ z329 = 0) (h3 : (-1) ≤ z321 ∧ z321 ≤ 9) (h4 : 1 ≤ z329 ∧ z329 ≤ 1) : z329 = 1 := by omega
theorem vc_X12_candidate_13 {z321 z329 : Int} (h0 : 0 ≤ z321) (h1 : (z329 = 1 → 0 ≤ z321)) (h2 : (z329 = 0 → z321 < 0)) (h3 : (-1) ≤ z321 ∧ z321 ≤ 9) (h4 : 1 ≤ z329 ∧ z329 ≤ 1) : 0 ≤ z321 ∧ z321 ≤ 9 := by omega
theorem vc_X12_candidate_14 {z338 : Int} (h0 : z338 = 0) (h1 : 0 ≤ z338 ∧ z338 ≤ 1) : 0 ≤ z338 ∧ z338 ≤ 0 := by omega
theorem vc_X12_candidate_15 {f_e0 f_ties p1 p2 p3 z297 z313 : Int} (h0 : p2 < f_ties) (h1 : z313 = (((20 * p2) + (10 * z297)) + p3)) (h2 : (z297 = 0 → f_e0 = p1)) (h3 : (z297 = 1 → ¬ f_e0 = p1)) (h4 : 0 ≤ f_e0 ∧ f_e0 ≤ 9) (h5 : 1 ≤ f_ties ∧ f_ties ≤ 20) (h6 : 0 ≤ p1 ∧ p1 ≤ 9) (h7 : 0 ≤ p2 ∧ p2 ≤ 19) (h8 : 0 ≤ p3 ∧ p3 ≤ 9) (h9 : 0 ≤ z297 ∧ z297 ≤ 1) (h10 : 0 ≤ z313 ∧ z313 ≤ 399) : (130 + z313) < (4 + p2) ∨ (4 + p2) < (130 + z313) := by omega
theorem vc_X12_candidate_16 {f_e0 f_ties p1 p2 p3 z297 z313 : Int} (h0 : p2 < f_ties) (h1 : z313 = (((20 * p2) + (10 * z297)) + p3)) (h2 : (z297 = 0 → f_e0 = p1)) (h3 : (z297 = 1 → ¬ f_e0 = p1)) (h4 : 0 ≤ f_e0 ∧ f_e0 ≤ 9) (h5 : 1 ≤ f_ties ∧ f_ties ≤ 20) (h6 : 0 ≤ p1 ∧ p1 ≤ 9) (h7 : 0 ≤ p2 ∧ p2 ≤ 19) (h8 : 0 ≤ p3 ∧ p3 ≤ 9) (h9 : 0 ≤ z297 ∧ z297 ≤ 1) (h10 : 0 ≤ z313 ∧ z313 ≤ 399) : 0 ≤ (40 * (4 + p2)) := by omega
theorem vc_X12_candidate_17 {f_e0 f_ties p1 p2 p3 z297 z313 : Int} (h0 : p2 < f_ties) (h1 : z313 = (((20 * p2) + (10 * z297)) + p3)) (h2 : (z297 = 0 → f_e0 = p1)) (h3 : (z297 = 1 → ¬ f_e0 = p1)) (h4 : 0 ≤ f_e0 ∧ f_e0 ≤ 9) (h5 : 1 ≤ f_ties ∧ f_ties ≤ 20) (h6 : 0 ≤ p1 ∧ p1 ≤ 9) (h7 : 0 ≤ p2 ∧ p2 ≤ 19) (h8 : 0 ≤ p3 ∧ p3 ≤ 9) (h9 : 0 ≤ z297 ∧ z297 ≤ 1) (h10 : 0 ≤ z313 ∧ z313 ≤ 399) : (40 * (4 + p2)) % 40 = 0 := by omega
theorem vc_X12_candidate_18 {z321 z329 z345 : Int} (h0 : z345 = z321) (h1 : (z329 = 1 → 0 ≤ z321)) (h2 : (z329 = 0 → z321 < 0)) (h3 : 0 ≤ z321) (h4 : 0 ≤ z321 ∧ z321 ≤ 9) (h5 : 1 ≤ z329 ∧ z329 ≤ 1) (h6 : (-1) ≤ z345 ∧ z345 ≤ 9) : 0 ≤ z345 ∧ z345 ≤ 9 := by omega
theorem vc_X12_candidate_19 {z352 : Int} (h0 : z352 = -99999999 ∨ (0 ≤ z352 ∧ z352 ≤ 11)) : -99999999 ≤ z352 ∧ z352 ≤ 11 := by omega
theorem vc_X12_candidate_20 {f_e0 f_e1 f_ties p1 p2 p3 z297 z313 : Int} (h0 : p2 < f_ties) (h1 : (z297 = 0 → f_e0 = p1)) (h2 : (z297 = 1 → ¬ f_e0 = p1)) (h3 : z313 = (((20 * p2) + (10 * z297)) + p3)) (h4 : f_e0 = p1 ∨ f_e1 = p1) (h5 : 0 ≤ f_e0 ∧ f_e0 ≤ 9) (h6 : 0 ≤ f_e1 ∧ f_e1 ≤ 9) (h7 : 1 ≤ f_ties ∧ f_ties ≤ 20) (h8 : 0 ≤ p1 ∧ p1 ≤ 9) (h9 : 0 ≤ p2 ∧ p2 ≤ 19) (h10 : 0 ≤ p3 ∧ p3 ≤ 9) (h11 : 0 ≤ z297 ∧ z297 ≤ 1) (h12 : 0 ≤ z313 ∧ z313 ≤ 399) : ((4 * p2) + (2 * z297)) < 4 * f_ties := by omega
theorem vc_X12_candidate_21 {f_e0 f_ties p1 p2 p3 z297 z313 : Int} (h0 : p2 < f_ties) (h1 : z313 = (((20 * p2) + (10 * z297)) + p3)) (h2 : (z297 = 0 → f_e0 = p1)) (h3 : (z297 = 1 → ¬ f_e0 = p1)) (h4 : 0 ≤ f_e0 ∧ f_e0 ≤ 9) (h5 : 1 ≤ f_ties ∧ f_ties ≤ 20) (h6 : 0 ≤ p1 ∧ p1 ≤ 9) (h7 : 0 ≤ p2 ∧ p2 ≤ 19) (h8 : 0 ≤ p3 ∧ p3 ≤ 9) (h9 : 0 ≤ z297 ∧ z297 ≤ 1) (h10 : 0 ≤ z313 ∧ z313 ≤ 399) : p2 < f_ties := by omega
theorem vc_X12_candidate_22 {f_e0 f_e1 p1 p2 p3 z297 z313 z364 : Int} (h0 : f_e0 = p1 ∨ f_e1 = p1) (h1 : (z297 = 0 → f_e0 = p1)) (h2 : (z297 = 1 → ¬ f_e0 = p1)) (h3 : (f_e0 = p1 → z364 = f_e1) ∧ (¬ f_e0 = p1 → z364 = f_e0)) (h4 : z313 = (((20 * p2) + (10 * z297)) + p3)) (h5 : 0 ≤ f_e0 ∧ f_e0 ≤ 9) (h6 : 0 ≤ f_e1 ∧ f_e1 ≤ 9) (h7 : 0 ≤ p1 ∧ p1 ≤ 9) (h8 : 0 ≤ p2 ∧ p2 ≤ 19) (h9 : 0 ≤ p3 ∧ p3 ≤ 9) (h10 : 0 ≤ z297 ∧ z297 ≤ 1) (h11 : 0 ≤ z313 ∧ z313 ≤ 399) (h12 : 0 ≤ z364 ∧ z364 ≤ 9) : (f_e0 = p1 ∧ f_e1 = z364) ∨ (f_e0 = z364 ∧ f_e1 = p1) := by omega
theorem vc_X12_candidate_23 {z321 z329 z345 : Int} (h0 : (z329 = 1 → 0 ≤ z321)) (h1 : (z329 = 0 → z321 < 0)) (h2 : 0 ≤ z321) (h3 : z345 = z321) (h4 : ¬ z329 = 0) (h5 : 0 ≤ z321 ∧ z321 ≤ 9) (h6 : 1 ≤ z329 ∧ z329 ≤ 1) (h7 : 0 ≤ z345 ∧ z345 ≤ 9) : 0 ≤ z321 := by omega
theorem vc_X12_candidate_24 {z352 z356 : Int} (h0 : z352 = -99999999 ∨ (0 ≤ z352 ∧ z352 < z356)) (h1 : (-99999999) ≤ z352 ∧ z352 ≤ 11) (h2 : z352 = -99999999 ∨ (0 ≤ z352 ∧ z352 ≤ 11)) (h3 : 0 ≤ z356 ∧ z356 ≤ 12) : z352 = -99999999 ∨ (0 ≤ z352 ∧ z352 < z356) := by omega
theorem vc_X12_candidate_25 {z321 z329 z345 z370 : Int} (h0 : z370 = z321) (h1 : (z329 = 1 → 0 ≤ z321)) (h2 : (z329 = 0 → z321 < 0)) (h3 : 0 ≤ z321) (h4 : z345 = z321) (h5 : 0 ≤ z321 ∧ z321 ≤ 9) (h6 : 1 ≤ z329 ∧ z329 ≤ 1) (h7 : 0 ≤ z345 ∧ z345 ≤ 9) (h8 : (-1) ≤ z370 ∧ z370 ≤ 9) : 0 ≤ z370 ∧ z370 ≤ 9 := by omega
theorem vc_X12_candidate_26 {z369 : Int} (h0 : z369 = 0) (h1 : 0 ≤ z369 ∧ z369 ≤ 1) : 0 ≤ z369 ∧ z369 ≤ 0 := by omega
theorem vc_X12_candidate_27 {z383 : Int} (h0 : z383 = -1) (h1 : (-1) ≤ z383 ∧ z383 ≤ 9) : (-1) ≤ z383 ∧ z383 ≤ (-1) := by omega
theorem vc_X12_candidate_28 {f_e0 f_ties p1 p2 p3 z297 z313 : Int} (h0 : p2 < f_ties) (h1 : z313 = (((20 * p2) + (10 * z297)) + p3)) (h2 : (z297 = 0 → f_e0 = p1)) (h3 : (z297 = 1 → ¬ f_e0 = p1)) (h4 : 0 ≤ f_e0 ∧ f_e0 ≤ 9) (h5 : 1 ≤ f_ties ∧ f_ties ≤ 20) (h6 : 0 ≤ p1 ∧ p1 ≤ 9) (h7 : 0 ≤ p2 ∧ p2 ≤ 19) (h8 : 0 ≤ p3 ∧ p3 ≤ 9) (h9 : 0 ≤ z297 ∧ z297 ≤ 1) (h10 : 0 ≤ z313 ∧ z313 ≤ 399) : ((40 * p2) + 160) ≤ (40 * (4 + p2)) ∧ ((40 * (4 + p2)) + 40) ≤ ((40 * p2) + 200) := by omega
theorem vc_X12_candidate_29 {f_e0 f_ties p1 p2 p3 z297 z313 : Int} (h0 : p2 < f_ties) (h1 : z313 = (((20 * p2) + (10 * z297)) + p3)) (h2 : (z297 = 0 → f_e0 = p1)) (h3 : (z297 = 1 → ¬ f_e0 = p1)) (h4 : 0 ≤ f_e0 ∧ f_e0 ≤ 9) (h5 : 1 ≤ f_ties ∧ f_ties ≤ 20) (h6 : 0 ≤ p1 ∧ p1 ≤ 9) (h7 : 0 ≤ p2 ∧ p2 ≤ 19) (h8 : 0 ≤ p3 ∧ p3 ≤ 9) (h9 : 0 ≤ z297 ∧ z297 ≤ 1) (h10 : 0 ≤ z313 ∧ z313 ≤ 399) : ((40 * p2) + 160) ≤ ((40 * (4 + p2)) + 1) ∧ ((40 * (4 + p2)) + 40) ≤ ((40 * p2) + 200) := by omega
theorem vc_X12_candidate_30 {z369 : Int} (h0 : ¬ z369 = 0) (h1 : 0 ≤ z369 ∧ z369 ≤ 1) : 1 ≤ z369 ∧ z369 ≤ 1 := by omega
theorem vc_X12_candidate_31 {z338 : Int} (h0 : ¬ z338 = 0) (h1 : 0 ≤ z338 ∧ z338 ≤ 1) : 1 ≤ z338 ∧ z338 ≤ 1 := by omega
theorem vc_X12_candidate_32 {z321 z329 : Int} (h0 : z329 = 0) (h1 : (z329 = 1 → 0 ≤ z321)) (h2 : (z329 = 0 → z321 < 0)) (h3 : (-1) ≤ z321 ∧ z321 ≤ 9) (h4 : 0 ≤ z329 ∧ z329 ≤ 1) : 0 ≤ z329 ∧ z329 ≤ 0 := by omega
theorem vc_X12_candidate_33 {z321 z329 : Int} (h0 : (z329 = 1 → 0 ≤ z321)) (h1 : (z329 = 0 → z321 < 0)) (h2 : z329 = 0) (h3 : (-1) ≤ z321 ∧ z321 ≤ 9) (h4 : 0 ≤ z329 ∧ z329 ≤ 0) : z329 = 0 := by omega
theorem vc_X12_candidate_34 {z321 z329 : Int} (h0 : z321 < 0) (h1 : (z329 = 1 → 0 ≤ z321)) (h2 : (z329 = 0 → z321 < 0)) (h3 : (-1) ≤ z321 ∧ z321 ≤ 9) (h4 : 0 ≤ z329 ∧ z329 ≤ 0) : (-1) ≤ z321 ∧ z321 ≤ (-1) := by omega
set_option maxRecDepth 4000 in
set_option maxHeartbeats 4000000 in
theorem c_X12_candidate {l : Launch} {D : va_G} {c : Nat → ClassId} {H0 : Heap} {sa : Nat × Nat × (Nat → Int32)} {w : mW} {μ : mM} (hw : mWF w) (hT : mT w μ) {p1 : Int} (hp1 : 0 ≤ p1 ∧ p1 ≤ 9) {p2 : Int} (hp2 : 0 ≤ p2 ∧ p2 ≤ 19) {p3 : Int} (hp3 : 0 ≤ p3 ∧ p3 ≤ 9) {f_e0 : Int} (q_f_e0 : μ 110 ((2 * p2).toNat) = f_e0) {f_e1 : Int} (q_f_e1 : μ 110 (((2 * p2) + 1).toNat) = f_e1) {f_ties : Int} (q_f_ties : μ 106 6 = f_ties) (hq0 : p2 < f_ties) (hq1 : f_e0 = p1 ∨ f_e1 = p1) (hIPK : PK μ) : sC (gG l D c H0 sa) mX12_candidate 7 0 0 [.ref 106, iv p1, iv p2, iv p3] (mk w μ) (qI w [106026, 106027, 106028, 106029, 106030, 106031, 126999, 151999, 152999, 153999] μ (fun z μ1 => ((-99999999) ≤ z ∧ z ≤ 10) ∧ mG [(((40 * p2) + 160), ((40 * p2) + 200))] μ μ1 ∧ True)) := by
  refine sC.of rfl (by decide) (le_t rfl) ?_
  have ht_f_e0 : (0 ≤ f_e0 ∧ f_e0 ≤ 9) := by rw [← q_f_e0]; exact hT 110 110 (A_110 hw) ((2 * p2).toNat)
  have ht_f_e1 : (0 ≤ f_e1 ∧ f_e1 ≤ 9) := by rw [← q_f_e1]; exact hT 110 110 (A_110 hw) (((2 * p2) + 1).toNat)
  have ht_f_ties : (0 ≤ f_ties ∧ f_ties ≤ 20) := by rw [← q_f_ties]; exact hT 106 106 (A_106 hw) 6
  have h1 : 1 ≤ f_ties ∧ f_ties ≤ 20 := (vc_X12_candidate_1 hq0 ht_f_ties hp2)
  refine mr_lvE (lv' := [(0, .ref 106), (1, iv p1), (2, iv p2), (3, iv p3)]) rfl ?_
  refine sv_aload_n (pc := 0) dX12_candidate_0 rfl rfl ?_
  refine mr_iload_n (pc := 1) (z := p2) dX12_candidate_1 rfl rfl ?_
  refine mr_iload_n (pc := 2) (z := p1) dX12_candidate_2 rfl rfl ?_
  refine mr_cVP (pc := 3) (c_X12_sideOf hw hT hp2 (rW (c := (-2147483648)) (d := 2147483647) hp1 rfl) q_f_e0) (gOk _ _ _ _ _) dX12_candidate_3 (tX12_sideOf _ _ _ _ _) ⟨wV_X12_sideOf, wL_X12_sideOf⟩ wM_X12_542 (gCX12 _ _ _ _ _) rfl (A_106 hw) rfl ⟨le_t rfl, le_t rfl⟩ ⟨le_t rfl, le_t rfl⟩ rfl (le_t rfl) fun z297 h296 => ?_
  refine mr_istore (pc := 6) (lv' := [(4, iv z297), (0, .ref 106), (1, iv p1), (2, iv p2), (3, iv p3)]) dX12_candidate_6 (by decide) rfl ?_
  refine sv_aload_n (pc := 8) dX12_candidate_8 rfl rfl ?_
  refine mr_iconst (pc := 9) (z := 4) dX12_candidate_9 ?_
  refine mr_iload_n (pc := 10) (z := p2) dX12_candidate_10 rfl rfl ?_
  refine mr_iadd (pc := 11) (x := 4) (y := p2) dX12_candidate_11 ?_
  refine mr_cVV (pc := 12) (c_X12_nothing hw hT (rW (c := 0) (d := 2099) (rAdd (e := 4) (f := 23) (rR (x := 4)) hp2 rfl) rfl)) (gOk _ _ _ _ _) dX12_candidate_12 (tX12_nothing _ _ _ _ _) ⟨wV_X12_nothing, wL_X12_nothing⟩ wM_X12_539 (gCX12 _ _ _ _ _) rfl (A_106 hw) rfl ⟨le_t rfl, le_t rfl⟩ ⟨le_t rfl, le_t rfl⟩ rfl (le_t rfl) fun μ298 T299 F300 h301 => ?_
  obtain ⟨z302, q303, h304⟩ := h301
  have h305 := rt7 T299 (A_126 hw) (vc_X12_candidate_2 hq0 h1 hp2) q303
  have h306 : (-1) ≤ z302 ∧ z302 ≤ 9 := h305.2.1 (vc_X12_candidate_3 hq0 h1 hp2)
  have q307 : μ298 126 ((40 * (4 + p2)).toNat) = (-1) := q303.trans h304.2.1
  have h308 : (-1) ≤ z302 ∧ z302 ≤ (-1) := (vc_X12_candidate_4 h304.2.1 h306)
  refine mr_sipush (pc := 15) (z := 130) dX12_candidate_15 (by decide) ?_
  refine mr_iload_n (pc := 18) (z := p2) dX12_candidate_18 rfl rfl ?_
  refine mr_iload (pc := 19) (z := z297) dX12_candidate_19 rfl ?_
  refine mr_iload_n (pc := 21) (z := p3) dX12_candidate_21 rfl rfl ?_
  refine mr_cSP (pc := 22) (c_X12_slot hw T299 (rW (c := 0) (d := 20) hp2 rfl) (rW (c := 0) (d := 2) h296.1 rfl) hp3) (gOk _ _ _ _ _) dX12_candidate_22 (tX12_slot _ _ _ _ _) wS_X12_slot wM_X12_545 ⟨le_t rfl, le_t rfl⟩ ⟨le_t rfl, le_t rfl⟩ rfl (le_t rfl) fun z313 h312 => ?_
  have h314 : 0 ≤ z313 ∧ z313 ≤ 399 := (vc_X12_candidate_5 h312.2.1 hq0 h296.2.1 h296.2.2.1 ht_f_e0 h1 hp1 hp2 hp3 h296.1 h312.1)
  refine mr_iadd (pc := 25) (x := 130) (y := z313) dX12_candidate_25 ?_
  refine mr_istore (pc := 26) (lv' := [(5, iv (130 + z313)), (4, iv z297), (0, .ref 106), (1, iv p1), (2, iv p2), (3, iv p3)]) dX12_candidate_26 (by decide) rfl ?_
  refine sv_aload_n (pc := 28) dX12_candidate_28 rfl rfl ?_
  refine gf_X12_9 (pc := 29) dX12_candidate_29 wF_X12_53 (A_106 hw) T299 ?_
  refine mr_iload_n (pc := 32) (z := p2) dX12_candidate_32 rfl rfl ?_
  refine la_112 (pc := 33) dX12_candidate_33 (A_112 hw) T299 (rIx (n := 20) hp2 rfl) fun z315 q316 h317 => ?_
  refine mr_if_eq (pc := 34) (tgt := 46) dX12_candidate_34 (by decide) (r32 h317 rfl) (fun h318 => ?_) (fun h318 => ?_)
  · have h319 : 0 ≤ z315 ∧ z315 ≤ 0 := (vc_X12_candidate_6 h318 h317)
    refine mr_ldc (pc := 46) (z := (-99999999)) dX12_candidate_46 wG_X12_29 (by decide) ?_
    exact mr_iret dX12_candidate_48 rfl (le_t rfl) (le_t rfl) T299 (mF.call mF.refl F300 rfl) ⟨(rW (c := (-99999999)) (d := 10) (rR (x := (-99999999))) rfl), (mG.call mG.refl h304.1 (List.forall_mem_cons.mpr ⟨⟨_, List.mem_cons_self, (vc_X12_candidate_7 hq0 h312.2.1 h296.2.1 h296.2.2.1 ht_f_e0 h1 hp1 hp2 hp3 h296.1 h314)⟩, (fun _ h => absurd h List.not_mem_nil)⟩)), trivial⟩
  have h320 : 1 ≤ z315 ∧ z315 ≤ 1 := (vc_X12_candidate_8 h318 h317)
  refine sv_aload_n (pc := 37) dX12_candidate_37 rfl rfl ?_
  refine mr_iload (pc := 38) (z := (130 + z313)) dX12_candidate_38 rfl ?_
  obtain ⟨z321, q322⟩ : ∃ z, μ298 126 ((40 * (130 + z313)).toNat) = z := ⟨_, rfl⟩
  have h323 := rt7 T299 (A_126 hw) (vc_X12_candidate_9 h312.2.1 hq0 h296.2.1 h296.2.2.1 ht_f_e0 h1 hp1 hp2 hp3 h296.1 h314) q322
  have h324 : (-1) ≤ z321 ∧ z321 ≤ 9 := h323.2.1 (vc_X12_candidate_10 h312.2.1 hq0 h296.2.1 h296.2.2.1 ht_f_e0 h1 hp1 hp2 hp3 h296.1 h314)
  refine mr_cVP (pc := 40) (c_X12_isThere hw T299 (rW (c := 0) (d := 2099) (rAdd (e := 130) (f := 529) (rR (x := 130)) h314 rfl) rfl) q322) (gOk _ _ _ _ _) dX12_candidate_40 (tX12_isThere _ _ _ _ _) ⟨wV_X12_isThere, wL_X12_isThere⟩ wM_X12_151 (gCX12 _ _ _ _ _) rfl (A_106 hw) rfl ⟨le_t rfl, le_t rfl⟩ ⟨le_t rfl, le_t rfl⟩ rfl (le_t rfl) fun z329 h328 => ?_
  refine mr_if_ne (pc := 43) (tgt := 49) dX12_candidate_43 (by decide) (r32 h328.1 rfl) (fun h330 => ?_) (fun h330 => ?_)
  · have h331 : 1 ≤ z329 ∧ z329 ≤ 1 := (vc_X12_candidate_11 h330 h328.2.1 h328.2.2.1 h324 h328.1)
    have h332 : 0 ≤ z321 := (h328.2.1 (vc_X12_candidate_12 h328.2.1 h328.2.2.1 h330 h324 h331))
    have h333 : 0 ≤ z321 ∧ z321 ≤ 9 := (vc_X12_candidate_13 h332 h328.2.1 h328.2.2.1 h324 h331)
    refine sv_aload_n (pc := 49) dX12_candidate_49 rfl rfl ?_
    refine mr_iload (pc := 50) (z := (130 + z313)) dX12_candidate_50 rfl ?_
    refine mr_iload_n (pc := 52) (z := p1) dX12_candidate_52 rfl rfl ?_
    refine mr_cVP (pc := 53) (c_X12_isIn hw T299 (rW (c := 0) (d := 2099) (rAdd (e := 130) (f := 529) (rR (x := 130)) h314 rfl) rfl) (rW (c := (-2147483648)) (d := 2147483647) hp1 rfl)) (gOk _ _ _ _ _) dX12_candidate_53 (tX12_isIn _ _ _ _ _) ⟨wV_X12_isIn, wL_X12_isIn⟩ wM_X12_556 (gCX12 _ _ _ _ _) rfl (A_106 hw) rfl ⟨le_t rfl, le_t rfl⟩ ⟨le_t rfl, le_t rfl⟩ rfl (le_t rfl) fun z338 h337 => ?_
    refine mr_if_eq (pc := 56) (tgt := 62) dX12_candidate_56 (by decide) (r32 h337.1 rfl) (fun h339 => ?_) (fun h339 => ?_)
    · have h340 : 0 ≤ z338 ∧ z338 ≤ 0 := (vc_X12_candidate_14 h339 h337.1)
      refine sv_aload_n (pc := 62) dX12_candidate_62 rfl rfl ?_
      refine mr_iload (pc := 63) (z := (130 + z313)) dX12_candidate_63 rfl ?_
      refine mr_iconst (pc := 65) (z := 4) dX12_candidate_65 ?_
      refine mr_iload_n (pc := 66) (z := p2) dX12_candidate_66 rfl rfl ?_
      refine mr_iadd (pc := 67) (x := 4) (y := p2) dX12_candidate_67 ?_
      refine mr_cVV (pc := 68) (c_X12_copy hw T299 (rW (c := 0) (d := 2099) (rAdd (e := 130) (f := 529) (rR (x := 130)) h314 rfl) rfl) (rW (c := 0) (d := 2099) (rAdd (e := 4) (f := 23) (rR (x := 4)) hp2 rfl) rfl) q322 (vc_X12_candidate_15 hq0 h312.2.1 h296.2.1 h296.2.2.1 ht_f_e0 h1 hp1 hp2 hp3 h296.1 h314)) (gOk _ _ _ _ _) dX12_candidate_68 (tX12_copy _ _ _ _ _) ⟨wV_X12_copy, wL_X12_copy⟩ wM_X12_559 (gCX12 _ _ _ _ _) rfl (A_106 hw) rfl ⟨le_t rfl, le_t rfl⟩ ⟨le_t rfl, le_t rfl⟩ rfl (le_t rfl) fun μ341 T342 F343 h344 => ?_
      obtain ⟨z345, q346, h347⟩ := h344
      have h348 := rt7 T342 (A_126 hw) (vc_X12_candidate_16 hq0 h312.2.1 h296.2.1 h296.2.2.1 ht_f_e0 h1 hp1 hp2 hp3 h296.1 h314) q346
      have h349 : (-1) ≤ z345 ∧ z345 ≤ 9 := h348.2.1 (vc_X12_candidate_17 hq0 h312.2.1 h296.2.1 h296.2.2.1 ht_f_e0 h1 hp1 hp2 hp3 h296.1 h314)
      have q350 : μ341 126 ((40 * (4 + p2)).toNat) = z321 := q346.trans h347.2.1
      have h351 : 0 ≤ z345 ∧ z345 ≤ 9 := (vc_X12_candidate_18 h347.2.1 h328.2.1 h328.2.2.1 h332 h333 h331 h349)
      refine sv_aload_n (pc := 71) dX12_candidate_71 rfl rfl ?_
      refine sv_aload_n (pc := 72) dX12_candidate_72 rfl rfl ?_
      refine gf_X12_12 (pc := 73) dX12_candidate_73 wF_X12_63 (A_106 hw) T342 ?_
      refine mr_iconst (pc := 76) (z := 4) dX12_candidate_76 ?_
      refine mr_iload_n (pc := 77) (z := p2) dX12_candidate_77 rfl rfl ?_
      refine mr_imul (pc := 78) (x := 4) (y := p2) dX12_candidate_78 ?_
      refine mr_iconst (pc := 79) (z := 2) dX12_candidate_79 ?_
      refine mr_iload (pc := 80) (z := z297) dX12_candidate_80 rfl ?_
      refine mr_imul (pc := 82) (x := 2) (y := z297) dX12_candidate_82 ?_
      refine mr_iadd (pc := 83) (x := (4 * p2)) (y := (2 * z297)) dX12_candidate_83 ?_
      refine la_115 (pc := 84) dX12_candidate_84 (A_115 hw) T342 (rIx (n := 80) (rAdd (e := 0) (f := 78) (rMulL (n := 4) (e := 0) (f := 76) hp2 rfl) (rMulL (n := 2) (e := 0) (f := 2) h296.1 rfl) rfl) rfl) fun z352 q353 h354 => ?_
      have h355 : (-99999999) ≤ z352 ∧ z352 ≤ 11 := (vc_X12_candidate_19 h354)
      obtain ⟨z356, q357⟩ : ∃ z, μ341 106 39 = z := ⟨_, rfl⟩
      have h358 : (0 ≤ z356 ∧ z356 ≤ 12) := by rw [← q357]; exact T342 106 106 (A_106 hw) 39
      have h359 : z352 = -99999999 ∨ (0 ≤ z352 ∧ z352 < z356) := PK.pol (PK.keep hIPK hw ((mF.call (mF.call mF.refl F300 rfl) F343 rfl) : mF [126999] w μ μ341) rfl) (rIx (n := 80) (rAdd (e := 0) (f := 78) (rMulL (n := 4) (e := 0) (f := 76) hp2 rfl) (rMulL (n := 2) (e := 0) (f := 2) h296.1 rfl) rfl) rfl) q353 q357 (F343.f (A_106 hw) rfl (F300.f (A_106 hw) rfl q_f_ties)) (vc_X12_candidate_20 hq0 h296.2.1 h296.2.2.1 h312.2.1 hq1 ht_f_e0 ht_f_e1 h1 hp1 hp2 hp3 h296.1 h314)
      refine mr_iconst (pc := 85) (z := 4) dX12_candidate_85 ?_
      refine mr_iload_n (pc := 86) (z := p2) dX12_candidate_86 rfl rfl ?_
      refine mr_iadd (pc := 87) (x := 4) (y := p2) dX12_candidate_87 ?_
      refine mr_iload_n (pc := 88) (z := p1) dX12_candidate_88 rfl rfl ?_
      refine sv_aload_n (pc := 89) dX12_candidate_89 rfl rfl ?_
      refine mr_iload_n (pc := 90) (z := p2) dX12_candidate_90 rfl rfl ?_
      refine mr_iload_n (pc := 91) (z := p1) dX12_candidate_91 rfl rfl ?_
      refine mr_cVP (pc := 92) (c_X12_partnerOf_pt hw T342 hp2 (rW (c := (-2147483648)) (d := 2147483647) hp1 rfl) (F343.f (A_110 hw) rfl (F300.f (A_110 hw) rfl q_f_e0)) (F343.f (A_110 hw) rfl (F300.f (A_110 hw) rfl q_f_e1))) (gOk _ _ _ _ _) dX12_candidate_92 (tX12_partnerOf _ _ _ _ _) ⟨wV_X12_partnerOf, wL_X12_partnerOf⟩ wM_X12_553 (gCX12 _ _ _ _ _) rfl (A_106 hw) rfl ⟨le_t rfl, le_t rfl⟩ ⟨le_t rfl, le_t rfl⟩ rfl (le_t rfl) fun z364 h363 => ?_
      refine mr_cVI (pc := 95) (c_X12_through hw T342 (rW (c := (-2147483648)) (d := 2147483647) h355 rfl) (rW (c := 0) (d := 2099) (rAdd (e := 4) (f := 23) (rR (x := 4)) hp2 rfl) rfl) (rW (c := (-2147483648)) (d := 2147483647) hp1 rfl) (rW (c := (-2147483648)) (d := 2147483647) h363.1 rfl) hp2 (F343.f (A_110 hw) rfl (F300.f (A_110 hw) rfl q_f_e0)) (F343.f (A_110 hw) rfl (F300.f (A_110 hw) rfl q_f_e1)) (F343.f (A_106 hw) rfl (F300.f (A_106 hw) rfl q_f_ties)) q350 q357 (vc_X12_candidate_21 hq0 h312.2.1 h296.2.1 h296.2.2.1 ht_f_e0 h1 hp1 hp2 hp3 h296.1 h314) (vc_X12_candidate_22 hq1 h296.2.1 h296.2.2.1 h363.2.1 h312.2.1 ht_f_e0 ht_f_e1 hp1 hp2 hp3 h296.1 h314 h363.1) (vc_X12_candidate_23 h328.2.1 h328.2.2.1 h332 h347.2.1 h330 h333 h331 h351) (vc_X12_candidate_24 h359 h355 h354 h358) (PK.keep hIPK hw ((mF.call (mF.call mF.refl F300 rfl) F343 rfl) : mF [126999] w μ μ341) rfl)) (gOk _ _ _ _ _) dX12_candidate_95 (tX12_through _ _ _ _ _) ⟨wV_X12_through, wL_X12_through⟩ wM_X12_414 (gCX12 _ _ _ _ _) rfl (A_106 hw) rfl ⟨le_t rfl, le_t rfl⟩ ⟨le_t rfl, le_t rfl⟩ rfl (le_t rfl) fun z369 μ365 T366 F367 h368 => ?_
      obtain ⟨z370, q371, h372⟩ := h368
      have h373 := rt7 T366 (A_126 hw) (vc_X12_candidate_16 hq0 h312.2.1 h296.2.1 h296.2.2.1 ht_f_e0 h1 hp1 hp2 hp3 h296.1 h314) q371
      have h374 : (-1) ≤ z370 ∧ z370 ≤ 9 := h373.2.1 (vc_X12_candidate_17 hq0 h312.2.1 h296.2.1 h296.2.2.1 ht_f_e0 h1 hp1 hp2 hp3 h296.1 h314)
      have q375 : μ365 126 ((40 * (4 + p2)).toNat) = z321 := q371.trans h372.2.2.1
      have h376 : 0 ≤ z370 ∧ z370 ≤ 9 := (vc_X12_candidate_25 h372.2.2.1 h328.2.1 h328.2.2.1 h332 h347.2.1 h333 h331 h351 h374)
      refine mr_if_eq (pc := 98) (tgt := 103) dX12_candidate_98 (by decide) (r32 h372.1 rfl) (fun h377 => ?_) (fun h377 => ?_)
      · have h378 : 0 ≤ z369 ∧ z369 ≤ 0 := (vc_X12_candidate_26 h377 h372.1)
        refine sv_aload_n (pc := 103) dX12_candidate_103 rfl rfl ?_
        refine mr_iconst (pc := 104) (z := 4) dX12_candidate_104 ?_
        refine mr_iload_n (pc := 105) (z := p2) dX12_candidate_105 rfl rfl ?_
        refine mr_iadd (pc := 106) (x := 4) (y := p2) dX12_candidate_106 ?_
        refine mr_cVV (pc := 107) (c_X12_nothing hw T366 (rW (c := 0) (d := 2099) (rAdd (e := 4) (f := 23) (rR (x := 4)) hp2 rfl) rfl)) (gOk _ _ _ _ _) dX12_candidate_107 (tX12_nothing _ _ _ _ _) ⟨wV_X12_nothing, wL_X12_nothing⟩ wM_X12_539 (gCX12 _ _ _ _ _) rfl (A_106 hw) rfl ⟨le_t rfl, le_t rfl⟩ ⟨le_t rfl, le_t rfl⟩ rfl (le_t rfl) fun μ379 T380 F381 h382 => ?_
        obtain ⟨z383, q384, h385⟩ := h382
        have h386 := rt7 T380 (A_126 hw) (vc_X12_candidate_16 hq0 h312.2.1 h296.2.1 h296.2.2.1 ht_f_e0 h1 hp1 hp2 hp3 h296.1 h314) q384
        have h387 : (-1) ≤ z383 ∧ z383 ≤ 9 := h386.2.1 (vc_X12_candidate_17 hq0 h312.2.1 h296.2.1 h296.2.2.1 ht_f_e0 h1 hp1 hp2 hp3 h296.1 h314)
        have q388 : μ379 126 ((40 * (4 + p2)).toNat) = (-1) := q384.trans h385.2.1
        have h389 : (-1) ≤ z383 ∧ z383 ≤ (-1) := (vc_X12_candidate_27 h385.2.1 h387)
        refine mr_bipush (pc := 110) (z := 10) dX12_candidate_110 (by decide) ?_
        exact mr_iret dX12_candidate_112 rfl (le_t rfl) (le_t rfl) T380 (mF.call (mF.call (mF.call (mF.call mF.refl F300 rfl) F343 rfl) F367 rfl) F381 rfl) ⟨(rW (c := (-99999999)) (d := 10) (rR (x := 10)) rfl), (mG.call (mG.call (mG.call (mG.call mG.refl h304.1 (List.forall_mem_cons.mpr ⟨⟨_, List.mem_cons_self, (vc_X12_candidate_7 hq0 h312.2.1 h296.2.1 h296.2.2.1 ht_f_e0 h1 hp1 hp2 hp3 h296.1 h314)⟩, (fun _ h => absurd h List.not_mem_nil)⟩)) h347.1 (List.forall_mem_cons.mpr ⟨⟨_, List.mem_cons_self, (vc_X12_candidate_28 hq0 h312.2.1 h296.2.1 h296.2.2.1 ht_f_e0 h1 hp1 hp2 hp3 h296.1 h314)⟩, (fun _ h => absurd h List.not_mem_nil)⟩)) h372.2.1 (List.forall_mem_cons.mpr ⟨⟨_, List.mem_cons_self, (vc_X12_candidate_29 hq0 h312.2.1 h296.2.1 h296.2.2.1 ht_f_e0 h1 hp1 hp2 hp3 h296.1 h314)⟩, (fun _ h => absurd h List.not_mem_nil)⟩)) h385.1 (List.forall_mem_cons.mpr ⟨⟨_, List.mem_cons_self, (vc_X12_candidate_7 hq0 h312.2.1 h296.2.1 h296.2.2.1 ht_f_e0 h1 hp1 hp2 hp3 h296.1 h314)⟩, (fun _ h => absurd h List.not_mem_nil)⟩)), trivial⟩
      have h390 : 1 ≤ z369 ∧ z369 ≤ 1 := (vc_X12_candidate_30 h377 h372.1)
      refine mr_iconst (pc := 101) (z := 0) dX12_candidate_101 ?_
      exact mr_iret dX12_candidate_102 rfl (le_t rfl) (le_t rfl) T366 (mF.call (mF.call (mF.call mF.refl F300 rfl) F343 rfl) F367 rfl) ⟨(rW (c := (-99999999)) (d := 10) (rR (x := 0)) rfl), (mG.call (mG.call (mG.call mG.refl h304.1 (List.forall_mem_cons.mpr ⟨⟨_, List.mem_cons_self, (vc_X12_candidate_7 hq0 h312.2.1 h296.2.1 h296.2.2.1 ht_f_e0 h1 hp1 hp2 hp3 h296.1 h314)⟩, (fun _ h => absurd h List.not_mem_nil)⟩)) h347.1 (List.forall_mem_cons.mpr ⟨⟨_, List.mem_cons_self, (vc_X12_candidate_28 hq0 h312.2.1 h296.2.1 h296.2.2.1 ht_f_e0 h1 hp1 hp2 hp3 h296.1 h314)⟩, (fun _ h => absurd h List.not_mem_nil)⟩)) h372.2.1 (List.forall_mem_cons.mpr ⟨⟨_, List.mem_cons_self, (vc_X12_candidate_29 hq0 h312.2.1 h296.2.1 h296.2.2.1 ht_f_e0 h1 hp1 hp2 hp3 h296.1 h314)⟩, (fun _ h => absurd h List.not_mem_nil)⟩)), trivial⟩
    have h391 : 1 ≤ z338 ∧ z338 ≤ 1 := (vc_X12_candidate_31 h339 h337.1)
    refine mr_bipush (pc := 59) (z := 9) dX12_candidate_59 (by decide) ?_
    exact mr_iret dX12_candidate_61 rfl (le_t rfl) (le_t rfl) T299 (mF.call mF.refl F300 rfl) ⟨(rW (c := (-99999999)) (d := 10) (rR (x := 9)) rfl), (mG.call mG.refl h304.1 (List.forall_mem_cons.mpr ⟨⟨_, List.mem_cons_self, (vc_X12_candidate_7 hq0 h312.2.1 h296.2.1 h296.2.2.1 ht_f_e0 h1 hp1 hp2 hp3 h296.1 h314)⟩, (fun _ h => absurd h List.not_mem_nil)⟩)), trivial⟩
  have h392 : 0 ≤ z329 ∧ z329 ≤ 0 := (vc_X12_candidate_32 h330 h328.2.1 h328.2.2.1 h324 h328.1)
  have h393 : z321 < 0 := (h328.2.2.1 (vc_X12_candidate_33 h328.2.1 h328.2.2.1 h330 h324 h392))
  have h394 : (-1) ≤ z321 ∧ z321 ≤ (-1) := (vc_X12_candidate_34 h393 h328.2.1 h328.2.2.1 h324 h392)
  refine mr_ldc (pc := 46) (z := (-99999999)) dX12_candidate_46 wG_X12_29 (by decide) ?_
  exact mr_iret dX12_candidate_48 rfl (le_t rfl) (le_t rfl) T299 (mF.call mF.refl F300 rfl) ⟨(rW (c := (-99999999)) (d := 10) (rR (x := (-99999999))) rfl), (mG.call mG.refl h304.1 (List.forall_mem_cons.mpr ⟨⟨_, List.mem_cons_self, (vc_X12_candidate_7 hq0 h312.2.1 h296.2.1 h296.2.2.1 ht_f_e0 h1 hp1 hp2 hp3 h296.1 h314)⟩, (fun _ h => absurd h List.not_mem_nil)⟩)), trivial⟩
theorem vc_X12_candidates_1 {z419 : Int} (h0 : (21 - z419) < ((0 : Nat) : Int)) (h1 : 0 ≤ z419 ∧ z419 ≤ 20) : False := by omega
theorem vc_X12_candidates_2  : (160 : Int) ≤ (160 : Int) ∧ (960 : Int) ≤ (960 : Int) := by omega
theorem vc_X12_candidates_3 {z419 z429 : Int} (h0 : z419 < z429) (h1 : 0 ≤ z419 ∧ z419 ≤ 20) (h2 : 0 ≤ z429 ∧ z429 ≤ 20) : 0 ≤ z419 ∧ z419 ≤ 19 := by omega
theorem vc_X12_candidates_4 {z419 z429 : Int} (h0 : z419 < z429) (h1 : 0 ≤ z419 ∧ z419 ≤ 19) (h2 : 0 ≤ z429 ∧ z429 ≤ 20) : 1 ≤ z429 ∧ z429 ≤ 20 := by omega
theorem vc_X12_candidates_5 {p1 z468 z471 z478 : Int} (h0 : z478 = 0) (h1 : (z478 = 1 → z468 = p1 ∨ z471 = p1)) (h2 : (z478 = 0 → ¬ z468 = p1 ∧ ¬ z471 = p1)) (h3 : 0 ≤ p1 ∧ p1 ≤ 9) (h4 : 0 ≤ z468 ∧ z468 ≤ 9) (h5 : 0 ≤ z471 ∧ z471 ≤ 9) (h6 : 0 ≤ z478 ∧ z478 ≤ 1) : 0 ≤ z478 ∧ z478 ≤ 0 := by omega
theorem vc_X12_candidates_6 {p1 z468 z471 z478 : Int} (h0 : (z478 = 1 → z468 = p1 ∨ z471 = p1)) (h1 : (z478 = 0 → ¬ z468 = p1 ∧ ¬ z471 = p1)) (h2 : z478 = 0) (h3 : 0 ≤ p1 ∧ p1 ≤ 9) (h4 : 0 ≤ z468 ∧ z468 ≤ 9) (h5 : 0 ≤ z471 ∧ z471 ≤ 9) (h6 : 0 ≤ z478 ∧ z478 ≤ 0) : z478 = 0 := by omega
theorem vc_X12_candidates_7 {z419 z429 : Int} (h0 : z419 < z429) (h1 : 0 ≤ z419 ∧ z419 ≤ 19) (h2 : 1 ≤ z429 ∧ z429 ≤ 20) : 0 ≤ (40 * (4 + z419)) := by omega
theorem vc_X12_candidates_8 {z419 z429 : Int} (h0 : z419 < z429) (h1 : 0 ≤ z419 ∧ z419 ≤ 19) (h2 : 1 ≤ z429 ∧ z429 ≤ 20) : (40 * (4 + z419)) % 40 = 0 := by omega
theorem vc_X12_candidates_9 {z506 : Int} (h0 : z506 = -1) (h1 : (-1) ≤ z506 ∧ z506 ≤ 9) : (-1) ≤ z506 ∧ z506 ≤ (-1) := by omega
theorem vc_X12_candidates_10 {N z419 z429 : Int} (h0 : (21 - z419) < N + 1) (h1 : z419 < z429) (h2 : 0 ≤ z419 ∧ z419 ≤ 19) (h3 : 1 ≤ z429 ∧ z429 ≤ 20) : (21 - (z419 + 1)) < N := by omega
theorem vc_X12_candidates_11 {z419 z429 : Int} (h0 : z419 < z429) (h1 : 0 ≤ z419 ∧ z419 ≤ 19) (h2 : 1 ≤ z429 ∧ z429 ≤ 20) : 160 ≤ (40 * (4 + z419)) ∧ ((40 * (4 + z419)) + 1) ≤ 960 := by omega
theorem vc_X12_candidates_12 {p1 z468 z471 z478 : Int} (h0 : ¬ z478 = 0) (h1 : (z478 = 1 → z468 = p1 ∨ z471 = p1)) (h2 : (z478 = 0 → ¬ z468 = p1 ∧ ¬ z471 = p1)) (h3 : 0 ≤ p1 ∧ p1 ≤ 9) (h4 : 0 ≤ z468 ∧ z468 ≤ 9) (h5 : 0 ≤ z471 ∧ z471 ≤ 9) (h6 : 0 ≤ z478 ∧ z478 ≤ 1) : 1 ≤ z478 ∧ z478 ≤ 1 := by omega
theorem vc_X12_candidates_13 {p1 z468 z471 z478 : Int} (h0 : (z478 = 1 → z468 = p1 ∨ z471 = p1)) (h1 : (z478 = 0 → ¬ z468 = p1 ∧ ¬ z471 = p1)) (h2 : ¬ z478 = 0) (h3 : 0 ≤ p1 ∧ p1 ≤ 9) (h4 : 0 ≤ z468 ∧ z468 ≤ 9) (h5 : 0 ≤ z471 ∧ z471 ≤ 9) (h6 : 1 ≤ z478 ∧ z478 ≤ 1) : z478 = 1 := by omega
theorem vc_X12_candidates_14 {z419 z429 : Int} (h0 : z419 < z429) (h1 : 0 ≤ z419 ∧ z419 ≤ 19) (h2 : 1 ≤ z429 ∧ z429 ≤ 20) : z419 < z429 := by omega
theorem vc_X12_candidates_15 {p1 z468 z471 z478 : Int} (h0 : (z478 = 1 → z468 = p1 ∨ z471 = p1)) (h1 : (z478 = 0 → ¬ z468 = p1 ∧ ¬ z471 = p1)) (h2 : z468 = p1 ∨ z471 = p1) (h3 : ¬ z478 = 0) (h4 : 0 ≤ p1 ∧ p1 ≤ 9) (h5 : 0 ≤ z468 ∧ z468 ≤ 9) (h6 : 0 ≤ z471 ∧ z471 ≤ 9) (h7 : 1 ≤ z478 ∧ z478 ≤ 1) : z468 = p1 ∨ z471 = p1 := by omega
theorem vc_X12_candidates_16 {z419 z429 : Int} (h0 : z419 < z429) (h1 : 0 ≤ z419 ∧ z419 ≤ 19) (h2 : 1 ≤ z429 ∧ z429 ≤ 20) : 160 ≤ ((40 * z419) + 160) ∧ ((40 * z419) + 200) ≤ 960 := by omega
theorem vc_X12_candidates_17  : (21 - 0) < ((22 : Nat) : Int) := by omega
set_option maxRecDepth 4000 in
set_option maxHeartbeats 4000000 in
theorem c_X12_candidates {l : Launch} {D : va_G} {c : Nat → ClassId} {H0 : Heap} {sa : Nat × Nat × (Nat → Int32)} {w : mW} {μ : mM} (hw : mWF w) (hT : mT w μ) {p1 : Int} (hp1 : 0 ≤ p1 ∧ p1 ≤ 9) {p2 : Int} (hp2 : 0 ≤ p2 ∧ p2 ≤ 9) (hIPK : PK μ) : sC (gG l D c H0 sa) mX12_candidates 8 0 0 [.ref 106, iv p1, iv p2] (mk w μ) (qV w [106026, 106027, 106028, 106029, 106030, 106031, 126999, 151999, 152999, 153999] μ (fun μ1 => mG [(160, 960)] μ μ1 ∧ True)) := by
  refine sC.of rfl (by decide) (le_t rfl) ?_
  refine mr_lvE (lv' := [(0, .ref 106), (1, iv p1), (2, iv p2)]) rfl ?_
  refine mr_iconst (pc := 0) (z := 0) dX12_candidates_0 ?_
  refine mr_istore_n (pc := 1) (lv' := [(3, iv 0), (0, .ref 106), (1, iv p1), (2, iv p2)]) dX12_candidates_1 rfl (by decide) rfl ?_
  have L421 : ∀ (nL421 : Nat) (z419 : Int) (μ420 : mM), mT w μ420 → mF [106026, 106027, 106028, 106029, 106030, 106031, 126999, 151999, 152999, 153999] w μ μ420 → mG [(160, 960)] μ μ420 → (0 ≤ z419 ∧ z419 ≤ 20) → PK μ420 → (21 - z419) < (nL421 : Int) → sV (gG l D c H0 sa) mX12_candidates (sRm 8 0 0) (sZ (gG l D c H0 sa) 0 0 (qV w [106026, 106027, 106028, 106029, 106030, 106031, 126999, 151999, 152999, 153999] μ (fun μ1 => mG [(160, 960)] μ μ1 ∧ True))) 2 [(0, .ref 106), (1, iv p1), (2, iv p2), (3, iv z419)] [] (mk w μ420) 0 0 := by
    intro nL421
    induction nL421 with
    | zero => intro z419 μ420 T423 F424 G425 h422 I426 h427; exact ((vc_X12_candidates_1 h427 h422)).elim
    | succ nL421 ih428 =>
      intro z419 μ420 T423 F424 G425 h422 I426 h427
      refine mr_iload_n (pc := 2) (z := z419) dX12_candidates_2 rfl rfl ?_
      refine sv_aload_n (pc := 3) dX12_candidates_3 rfl rfl ?_
      refine gf_X12_6 (pc := 4) dX12_candidates_4 wF_X12_37 (A_106 hw) T423 fun z429 q430 h431 => ?_
      refine mr_icmp_ge (pc := 7) (tgt := 43) dX12_candidates_7 (by decide) (r32 h422 rfl) (r32 h431 rfl) (fun h465 => ?_) (fun h465 => ?_)
      · exact mr_vret dX12_candidates_43 rfl (le_t rfl) (le_t rfl) T423 (mF.call mF.refl F424 rfl) ⟨(mG.call mG.refl G425 (List.forall_mem_cons.mpr ⟨⟨_, List.mem_cons_self, vc_X12_candidates_2⟩, (fun _ h => absurd h List.not_mem_nil)⟩)), trivial⟩
      have h466 : 0 ≤ z419 ∧ z419 ≤ 19 := (vc_X12_candidates_3 h465 h422 h431)
      have h467 : 1 ≤ z429 ∧ z429 ≤ 20 := (vc_X12_candidates_4 h465 h466 h431)
      refine sv_aload_n (pc := 10) dX12_candidates_10 rfl rfl ?_
      refine mr_iload_n (pc := 11) (z := z419) dX12_candidates_11 rfl rfl ?_
      refine mr_iload_n (pc := 12) (z := p1) dX12_candidates_12 rfl rfl ?_
      obtain ⟨z468, q469⟩ : ∃ z, μ420 110 ((2 * z419).toNat) = z := ⟨_, rfl⟩
      have h470 : (0 ≤ z468 ∧ z468 ≤ 9) := by rw [← q469]; exact T423 110 110 (A_110 hw) ((2 * z419).toNat)
      obtain ⟨z471, q472⟩ : ∃ z, μ420 110 (((2 * z419) + 1).toNat) = z := ⟨_, rfl⟩
      have h473 : (0 ≤ z471 ∧ z471 ≤ 9) := by rw [← q472]; exact T423 110 110 (A_110 hw) (((2 * z419) + 1).toNat)
      refine mr_cVP (pc := 13) (c_X12_isAt hw T423 h466 (rW (c := (-2147483648)) (d := 2147483647) hp1 rfl) q469 q472) (gOk _ _ _ _ _) dX12_candidates_13 (tX12_isAt _ _ _ _ _) ⟨wV_X12_isAt, wL_X12_isAt⟩ wM_X12_562 (gCX12 _ _ _ _ _) rfl (A_106 hw) rfl ⟨le_t rfl, le_t rfl⟩ ⟨le_t rfl, le_t rfl⟩ rfl (le_t rfl) fun z478 h477 => ?_
      refine mr_if_eq (pc := 16) (tgt := 30) dX12_candidates_16 (by decide) (r32 h477.1 rfl) (fun h499 => ?_) (fun h499 => ?_)
      · have h500 : 0 ≤ z478 ∧ z478 ≤ 0 := (vc_X12_candidates_5 h499 h477.2.1 h477.2.2.1 hp1 h470 h473 h477.1)
        have h501 : ¬ z468 = p1 ∧ ¬ z471 = p1 := (h477.2.2.1 (vc_X12_candidates_6 h477.2.1 h477.2.2.1 h499 hp1 h470 h473 h500))
        refine sv_aload_n (pc := 30) dX12_candidates_30 rfl rfl ?_
        refine mr_iconst (pc := 31) (z := 4) dX12_candidates_31 ?_
        refine mr_iload_n (pc := 32) (z := z419) dX12_candidates_32 rfl rfl ?_
        refine mr_iadd (pc := 33) (x := 4) (y := z419) dX12_candidates_33 ?_
        refine mr_cVV (pc := 34) (c_X12_nothing hw T423 (rW (c := 0) (d := 2099) (rAdd (e := 4) (f := 23) (rR (x := 4)) h466 rfl) rfl)) (gOk _ _ _ _ _) dX12_candidates_34 (tX12_nothing _ _ _ _ _) ⟨wV_X12_nothing, wL_X12_nothing⟩ wM_X12_539 (gCX12 _ _ _ _ _) rfl (A_106 hw) rfl ⟨le_t rfl, le_t rfl⟩ ⟨le_t rfl, le_t rfl⟩ rfl (le_t rfl) fun μ502 T503 F504 h505 => ?_
        obtain ⟨z506, q507, h508⟩ := h505
        have h509 := rt7 T503 (A_126 hw) (vc_X12_candidates_7 h465 h466 h467) q507
        have h510 : (-1) ≤ z506 ∧ z506 ≤ 9 := h509.2.1 (vc_X12_candidates_8 h465 h466 h467)
        have q511 : μ502 126 ((40 * (4 + z419)).toNat) = (-1) := q507.trans h508.2.1
        have h512 : (-1) ≤ z506 ∧ z506 ≤ (-1) := (vc_X12_candidates_9 h508.2.1 h510)
        refine mr_iinc (pc := 37) (lv' := [(3, iv (z419 + 1)), (0, .ref 106), (1, iv p1), (2, iv p2)]) dX12_candidates_37 rfl (by decide) rfl ?_
        refine sv_goto (pc := 40) (tgt := 2) dX12_candidates_40 (by decide) ?_
        refine mr_lvS (lv' := [(0, .ref 106), (1, iv p1), (2, iv p2), (3, iv (z419 + 1))]) (List.forall_mem_cons.mpr ⟨rfl, List.forall_mem_cons.mpr ⟨rfl, List.forall_mem_cons.mpr ⟨rfl, List.forall_mem_cons.mpr ⟨rfl, fun _ h => absurd h List.not_mem_nil⟩⟩⟩⟩) ?_
        exact ih428 (z419 + 1) μ502 T503 (mF.call (mF.call mF.refl F424 rfl) F504 rfl) (mG.call (mG.call mG.refl G425 (List.forall_mem_cons.mpr ⟨⟨_, List.mem_cons_self, vc_X12_candidates_2⟩, (fun _ h => absurd h List.not_mem_nil)⟩)) h508.1 (List.forall_mem_cons.mpr ⟨⟨_, List.mem_cons_self, (vc_X12_candidates_11 h465 h466 h467)⟩, (fun _ h => absurd h List.not_mem_nil)⟩)) (rW (c := 0) (d := 20) (rAdd (e := 1) (f := 20) h466 (rR (x := 1)) rfl) rfl) (PK.keep I426 hw ((mF.call mF.refl F504 rfl) : mF [126999] w μ420 μ502) rfl) (vc_X12_candidates_10 (nS h427) h465 h466 h467)
      have h513 : 1 ≤ z478 ∧ z478 ≤ 1 := (vc_X12_candidates_12 h499 h477.2.1 h477.2.2.1 hp1 h470 h473 h477.1)
      have h514 : z468 = p1 ∨ z471 = p1 := (h477.2.1 (vc_X12_candidates_13 h477.2.1 h477.2.2.1 h499 hp1 h470 h473 h513))
      refine sv_aload_n (pc := 19) dX12_candidates_19 rfl rfl ?_
      refine mr_iload_n (pc := 20) (z := p1) dX12_candidates_20 rfl rfl ?_
      refine mr_iload_n (pc := 21) (z := z419) dX12_candidates_21 rfl rfl ?_
      refine mr_iload_n (pc := 22) (z := p2) dX12_candidates_22 rfl rfl ?_
      refine mr_cVI (pc := 23) (c_X12_candidate hw T423 hp1 h466 hp2 q469 q472 q430 (vc_X12_candidates_14 h465 h466 h467) (vc_X12_candidates_15 h477.2.1 h477.2.2.1 h514 h499 hp1 h470 h473 h513) I426) (gOk _ _ _ _ _) dX12_candidates_23 (tX12_candidate _ _ _ _ _) ⟨wV_X12_candidate, wL_X12_candidate⟩ wM_X12_565 (gCX12 _ _ _ _ _) rfl (A_106 hw) rfl ⟨le_t rfl, le_t rfl⟩ ⟨le_t rfl, le_t rfl⟩ rfl (le_t rfl) fun z519 μ515 T516 F517 h518 => ?_
      refine sv_pop (pc := 26) dX12_candidates_26 rfl ?_
      refine sv_goto (pc := 27) (tgt := 37) dX12_candidates_27 (by decide) ?_
      refine mr_iinc (pc := 37) (lv' := [(3, iv (z419 + 1)), (0, .ref 106), (1, iv p1), (2, iv p2)]) dX12_candidates_37 rfl (by decide) rfl ?_
      refine sv_goto (pc := 40) (tgt := 2) dX12_candidates_40 (by decide) ?_
      refine mr_lvS (lv' := [(0, .ref 106), (1, iv p1), (2, iv p2), (3, iv (z419 + 1))]) (List.forall_mem_cons.mpr ⟨rfl, List.forall_mem_cons.mpr ⟨rfl, List.forall_mem_cons.mpr ⟨rfl, List.forall_mem_cons.mpr ⟨rfl, fun _ h => absurd h List.not_mem_nil⟩⟩⟩⟩) ?_
      exact ih428 (z419 + 1) μ515 T516 (mF.call (mF.call mF.refl F424 rfl) F517 rfl) (mG.call (mG.call mG.refl G425 (List.forall_mem_cons.mpr ⟨⟨_, List.mem_cons_self, vc_X12_candidates_2⟩, (fun _ h => absurd h List.not_mem_nil)⟩)) h518.2.1 (List.forall_mem_cons.mpr ⟨⟨_, List.mem_cons_self, (vc_X12_candidates_16 h465 h466 h467)⟩, (fun _ h => absurd h List.not_mem_nil)⟩)) (rW (c := 0) (d := 20) (rAdd (e := 1) (f := 20) h466 (rR (x := 1)) rfl) rfl) (PK.keep I426 hw ((mF.call mF.refl F517 rfl) : mF [106026, 106027, 106028, 106029, 106030, 106031, 126999, 151999, 152999, 153999] w μ420 μ515) rfl) (vc_X12_candidates_10 (nS h427) h465 h466 h467)
  refine mr_lvS (lv' := [(0, .ref 106), (1, iv p1), (2, iv p2), (3, iv 0)]) (List.forall_mem_cons.mpr ⟨rfl, List.forall_mem_cons.mpr ⟨rfl, List.forall_mem_cons.mpr ⟨rfl, List.forall_mem_cons.mpr ⟨rfl, fun _ h => absurd h List.not_mem_nil⟩⟩⟩⟩) ?_
  exact L421 22 0 μ hT mF.refl mG.refl (rW (c := 0) (d := 20) (rR (x := 0)) rfl) hIPK vc_X12_candidates_17
theorem vc_X12_say_1 {f_ties p2 : Int} (h0 : p2 < f_ties) (h1 : 0 ≤ f_ties ∧ f_ties ≤ 20) (h2 : 0 ≤ p2 ∧ p2 ≤ 19) : 1 ≤ f_ties ∧ f_ties ≤ 20 := by omega
theorem vc_X12_say_2 {f_e0 f_ties p1 p2 p3 z747 z752 : Int} (h0 : z752 = (((20 * p2) + (10 * z747)) + p3)) (h1 : p2 < f_ties) (h2 : (z747 = 0 → f_e0 = p1)) (h3 : (z747 = 1 → ¬ f_e0 = p1)) (h4 : 0 ≤ f_e0 ∧ f_e0 ≤ 9) (h5 : 1 ≤ f_ties ∧ f_ties ≤ 20) (h6 : 0 ≤ p1 ∧ p1 ≤ 9) (h7 : 0 ≤ p2 ∧ p2 ≤ 19) (h8 : 0 ≤ p3 ∧ p3 ≤ 9) (h9 : 0 ≤ z747 ∧ z747 ≤ 1) (h10 : 0 ≤ z752 ∧ z752 ≤ 449) : 0 ≤ z752 ∧ z752 ≤ 399 := by omega
theorem vc_X12_say_3  : (0 : Int) ≤ ((40 : Int) * (2 : Int)) := by omega
theorem vc_X12_say_4  : (((40 : Int) * (2 : Int)) : Int) % (40 : Int) = (0 : Int) := by omega
theorem vc_X12_say_5 {z758 : Int} (h0 : z758 = -1) (h1 : (-1) ≤ z758 ∧ z758 ≤ 9) : (-1) ≤ z758 ∧ z758 ≤ (-1) := by omega
theorem vc_X12_say_6 {z765 : Int} (h0 : z765 = -99999999 ∨ z765 = -4 ∨ (0 ≤ z765 ∧ z765 ≤ 19)) : -99999999 ≤ z765 ∧ z765 ≤ 19 := by omega
theorem vc_X12_say_7 {f_e0 f_e1 f_ties p1 p2 p3 z747 z752 : Int} (h0 : f_e0 = p1 ∨ f_e1 = p1) (h1 : (z747 = 0 → f_e0 = p1)) (h2 : (z747 = 1 → ¬ f_e0 = p1)) (h3 : z752 = (((20 * p2) + (10 * z747)) + p3)) (h4 : p2 < f_ties) (h5 : 0 ≤ f_e0 ∧ f_e0 ≤ 9) (h6 : 0 ≤ f_e1 ∧ f_e1 ≤ 9) (h7 : 1 ≤ f_ties ∧ f_ties ≤ 20) (h8 : 0 ≤ p1 ∧ p1 ≤ 9) (h9 : 0 ≤ p2 ∧ p2 ≤ 19) (h10 : 0 ≤ p3 ∧ p3 ≤ 9) (h11 : 0 ≤ z747 ∧ z747 ≤ 1) (h12 : 0 ≤ z752 ∧ z752 ≤ 399) : 0 ≤ (40 * (30 + ((10 * p1) + p3))) := by omega
theorem vc_X12_say_8 {f_e0 f_e1 f_ties p1 p2 p3 z747 z752 : Int} (h0 : f_e0 = p1 ∨ f_e1 = p1) (h1 : (z747 = 0 → f_e0 = p1)) (h2 : (z747 = 1 → ¬ f_e0 = p1)) (h3 : z752 = (((20 * p2) + (10 * z747)) + p3)) (h4 : p2 < f_ties) (h5 : 0 ≤ f_e0 ∧ f_e0 ≤ 9) (h6 : 0 ≤ f_e1 ∧ f_e1 ≤ 9) (h7 : 1 ≤ f_ties ∧ f_ties ≤ 20) (h8 : 0 ≤ p1 ∧ p1 ≤ 9) (h9 : 0 ≤ p2 ∧ p2 ≤ 19) (h10 : 0 ≤ p3 ∧ p3 ≤ 9) (h11 : 0 ≤ z747 ∧ z747 ≤ 1) (h12 : 0 ≤ z752 ∧ z752 ≤ 399) : (40 * (30 + ((10 * p1) + p3))) % 40 = 0 := by omega
theorem vc_X12_say_9  : ((40 : Int) * (2 : Int)) ≤ ((40 : Int) * (2 : Int)) ∧ (((40 : Int) * (2 : Int)) + (1 : Int)) ≤ (((40 : Int) * (2 : Int)) + (1 : Int)) := by omega
theorem vc_X12_say_10  : ((1 : Int) ≤ (((40 : Int) * (2 : Int)) : Int) ∧ ((((40 : Int) * (2 : Int)) + (1 : Int)) : Int) ≤ (1200 : Int)) ∨ (5200 : Int) ≤ (((40 : Int) * (2 : Int)) : Int) := by omega
theorem vc_X12_say_11 {f_e0 f_e1 f_ties p1 p2 p3 z747 z752 : Int} (h0 : f_e0 = p1 ∨ f_e1 = p1) (h1 : (z747 = 0 → f_e0 = p1)) (h2 : (z747 = 1 → ¬ f_e0 = p1)) (h3 : z752 = (((20 * p2) + (10 * z747)) + p3)) (h4 : p2 < f_ties) (h5 : 0 ≤ f_e0 ∧ f_e0 ≤ 9) (h6 : 0 ≤ f_e1 ∧ f_e1 ≤ 9) (h7 : 1 ≤ f_ties ∧ f_ties ≤ 20) (h8 : 0 ≤ p1 ∧ p1 ≤ 9) (h9 : 0 ≤ p2 ∧ p2 ≤ 19) (h10 : 0 ≤ p3 ∧ p3 ≤ 9) (h11 : 0 ≤ z747 ∧ z747 ≤ 1) (h12 : 0 ≤ z752 ∧ z752 ≤ 399) : (40 * (30 + ((10 * p1) + p3))) = 1200 + 40 * ((10 * p1) + p3) := by omega
theorem vc_X12_say_12 {z859 : Int} (h0 : z859 = 0) (h1 : 0 ≤ z859 ∧ z859 ≤ 1) : 0 ≤ z859 ∧ z859 ≤ 0 := by omega
theorem vc_X12_say_13 {z862 : Int} (h0 : z862 = 0) (h1 : 0 ≤ z862 ∧ z862 ≤ 1) : 0 ≤ z862 ∧ z862 ≤ 0 := by omega
theorem vc_X12_say_14 {f_e0 f_ties p1 p2 p3 z747 z752 : Int} (h0 : z752 = (((20 * p2) + (10 * z747)) + p3)) (h1 : p2 < f_ties) (h2 : (z747 = 0 → f_e0 = p1)) (h3 : (z747 = 1 → ¬ f_e0 = p1)) (h4 : 0 ≤ f_e0 ∧ f_e0 ≤ 9) (h5 : 1 ≤ f_ties ∧ f_ties ≤ 20) (h6 : 0 ≤ p1 ∧ p1 ≤ 9) (h7 : 0 ≤ p2 ∧ p2 ≤ 19) (h8 : 0 ≤ p3 ∧ p3 ≤ 9) (h9 : 0 ≤ z747 ∧ z747 ≤ 1) (h10 : 0 ≤ z752 ∧ z752 ≤ 399) : (2 : Int) < (530 + z752) ∨ (530 + z752) < (2 : Int) := by omega
theorem vc_X12_say_15 {f_e0 f_ties p1 p2 p3 z747 z752 : Int} (h0 : z752 = (((20 * p2) + (10 * z747)) + p3)) (h1 : p2 < f_ties) (h2 : (z747 = 0 → f_e0 = p1)) (h3 : (z747 = 1 → ¬ f_e0 = p1)) (h4 : 0 ≤ f_e0 ∧ f_e0 ≤ 9) (h5 : 1 ≤ f_ties ∧ f_ties ≤ 20) (h6 : 0 ≤ p1 ∧ p1 ≤ 9) (h7 : 0 ≤ p2 ∧ p2 ≤ 19) (h8 : 0 ≤ p3 ∧ p3 ≤ 9) (h9 : 0 ≤ z747 ∧ z747 ≤ 1) (h10 : 0 ≤ z752 ∧ z752 ≤ 399) : 0 ≤ (40 * (530 + z752)) := by omega
theorem vc_X12_say_16 {f_e0 f_ties p1 p2 p3 z747 z752 : Int} (h0 : z752 = (((20 * p2) + (10 * z747)) + p3)) (h1 : p2 < f_ties) (h2 : (z747 = 0 → f_e0 = p1)) (h3 : (z747 = 1 → ¬ f_e0 = p1)) (h4 : 0 ≤ f_e0 ∧ f_e0 ≤ 9) (h5 : 1 ≤ f_ties ∧ f_ties ≤ 20) (h6 : 0 ≤ p1 ∧ p1 ≤ 9) (h7 : 0 ≤ p2 ∧ p2 ≤ 19) (h8 : 0 ≤ p3 ∧ p3 ≤ 9) (h9 : 0 ≤ z747 ∧ z747 ≤ 1) (h10 : 0 ≤ z752 ∧ z752 ≤ 399) : (40 * (530 + z752)) % 40 = 0 := by omega
theorem vc_X12_say_17 {f_e0 f_ties p1 p2 p3 z747 z752 : Int} (h0 : z752 = (((20 * p2) + (10 * z747)) + p3)) (h1 : p2 < f_ties) (h2 : (z747 = 0 → f_e0 = p1)) (h3 : (z747 = 1 → ¬ f_e0 = p1)) (h4 : 0 ≤ f_e0 ∧ f_e0 ≤ 9) (h5 : 1 ≤ f_ties ∧ f_ties ≤ 20) (h6 : 0 ≤ p1 ∧ p1 ≤ 9) (h7 : 0 ≤ p2 ∧ p2 ≤ 19) (h8 : 0 ≤ p3 ∧ p3 ≤ 9) (h9 : 0 ≤ z747 ∧ z747 ≤ 1) (h10 : 0 ≤ z752 ∧ z752 ≤ 399) : (40 * 2) < (40 * (530 + z752)) ∨ ((40 * (530 + z752)) + 40) ≤ (40 * 2) := by omega
theorem vc_X12_say_18 {f_e0 f_ties p1 p2 p3 z747 z752 : Int} (h0 : z752 = (((20 * p2) + (10 * z747)) + p3)) (h1 : p2 < f_ties) (h2 : (z747 = 0 → f_e0 = p1)) (h3 : (z747 = 1 → ¬ f_e0 = p1)) (h4 : 0 ≤ f_e0 ∧ f_e0 ≤ 9) (h5 : 1 ≤ f_ties ∧ f_ties ≤ 20) (h6 : 0 ≤ p1 ∧ p1 ≤ 9) (h7 : 0 ≤ p2 ∧ p2 ≤ 19) (h8 : 0 ≤ p3 ∧ p3 ≤ 9) (h9 : 0 ≤ z747 ∧ z747 ≤ 1) (h10 : 0 ≤ z752 ∧ z752 ≤ 399) : (2 : Int) < (930 + z752) ∨ (930 + z752) < (2 : Int) := by omega
theorem vc_X12_say_19 {f_e0 f_ties p1 p2 p3 z747 z752 : Int} (h0 : z752 = (((20 * p2) + (10 * z747)) + p3)) (h1 : p2 < f_ties) (h2 : (z747 = 0 → f_e0 = p1)) (h3 : (z747 = 1 → ¬ f_e0 = p1)) (h4 : 0 ≤ f_e0 ∧ f_e0 ≤ 9) (h5 : 1 ≤ f_ties ∧ f_ties ≤ 20) (h6 : 0 ≤ p1 ∧ p1 ≤ 9) (h7 : 0 ≤ p2 ∧ p2 ≤ 19) (h8 : 0 ≤ p3 ∧ p3 ≤ 9) (h9 : 0 ≤ z747 ∧ z747 ≤ 1) (h10 : 0 ≤ z752 ∧ z752 ≤ 399) : 0 ≤ (40 * (930 + z752)) := by omega
theorem vc_X12_say_20 {f_e0 f_ties p1 p2 p3 z747 z752 : Int} (h0 : z752 = (((20 * p2) + (10 * z747)) + p3)) (h1 : p2 < f_ties) (h2 : (z747 = 0 → f_e0 = p1)) (h3 : (z747 = 1 → ¬ f_e0 = p1)) (h4 : 0 ≤ f_e0 ∧ f_e0 ≤ 9) (h5 : 1 ≤ f_ties ∧ f_ties ≤ 20) (h6 : 0 ≤ p1 ∧ p1 ≤ 9) (h7 : 0 ≤ p2 ∧ p2 ≤ 19) (h8 : 0 ≤ p3 ∧ p3 ≤ 9) (h9 : 0 ≤ z747 ∧ z747 ≤ 1) (h10 : 0 ≤ z752 ∧ z752 ≤ 399) : (40 * (930 + z752)) % 40 = 0 := by omega
theorem vc_X12_say_21 {f_e0 f_ties p1 p2 p3 z747 z752 : Int} (h0 : z752 = (((20 * p2) + (10 * z747)) + p3)) (h1 : p2 < f_ties) (h2 : (z747 = 0 → f_e0 = p1)) (h3 : (z747 = 1 → ¬ f_e0 = p1)) (h4 : 0 ≤ f_e0 ∧ f_e0 ≤ 9) (h5 : 1 ≤ f_ties ∧ f_ties ≤ 20) (h6 : 0 ≤ p1 ∧ p1 ≤ 9) (h7 : 0 ≤ p2 ∧ p2 ≤ 19) (h8 : 0 ≤ p3 ∧ p3 ≤ 9) (h9 : 0 ≤ z747 ∧ z747 ≤ 1) (h10 : 0 ≤ z752 ∧ z752 ≤ 399) : 0 ≤ z752 := by omega
theorem vc_X12_say_22 {f_e0 f_ties p1 p2 p3 z747 z752 z884 z900 : Int} (h0 : p2 < f_ties) (h1 : z752 = (((20 * p2) + (10 * z747)) + p3)) (h2 : (z747 = 0 → f_e0 = p1)) (h3 : (z747 = 1 → ¬ f_e0 = p1)) (h4 : 0 ≤ f_e0 ∧ f_e0 ≤ 9) (h5 : 1 ≤ f_ties ∧ f_ties ≤ 20) (h6 : 0 ≤ p1 ∧ p1 ≤ 9) (h7 : 0 ≤ p2 ∧ p2 ≤ 19) (h8 : 0 ≤ p3 ∧ p3 ≤ 9) (h9 : 0 ≤ z747 ∧ z747 ≤ 1) (h10 : 0 ≤ z752 ∧ z752 ≤ 399) (h11 : 0 ≤ z884 ∧ z884 ≤ 2000000000) (h12 : 0 ≤ z900 ∧ z900 ≤ 1000) : (z884 + z900) < 0 ∨ z752 < 20 * f_ties := by omega
theorem vc_X12_say_23  : (80 : Int) ≤ ((40 : Int) * (2 : Int)) ∧ (((40 : Int) * (2 : Int)) + (1 : Int)) ≤ (120 : Int) := by omega
theorem vc_X12_say_24  : (80 : Int) ≤ (80 : Int) ∧ (120 : Int) ≤ (120 : Int) := by omega
theorem vc_X12_say_25  : (21200 : Int) ≤ (21200 : Int) ∧ (53200 : Int) ≤ (53200 : Int) := by omega
theorem vc_X12_say_26 {f_e0 f_ties p1 p2 p3 z747 z752 : Int} (h0 : z752 = (((20 * p2) + (10 * z747)) + p3)) (h1 : p2 < f_ties) (h2 : (z747 = 0 → f_e0 = p1)) (h3 : (z747 = 1 → ¬ f_e0 = p1)) (h4 : 0 ≤ f_e0 ∧ f_e0 ≤ 9) (h5 : 1 ≤ f_ties ∧ f_ties ≤ 20) (h6 : 0 ≤ p1 ∧ p1 ≤ 9) (h7 : 0 ≤ p2 ∧ p2 ≤ 19) (h8 : 0 ≤ p3 ∧ p3 ≤ 9) (h9 : 0 ≤ z747 ∧ z747 ≤ 1) (h10 : 0 ≤ z752 ∧ z752 ≤ 399) : 21200 ≤ (40 * (530 + z752)) ∧ ((40 * (530 + z752)) + 40) ≤ 53200 := by omega
theorem vc_X12_say_27 {f_e0 f_ties p1 p2 p3 z747 z752 : Int} (h0 : z752 = (((20 * p2) + (10 * z747)) + p3)) (h1 : p2 < f_ties) (h2 : (z747 = 0 → f_e0 = p1)) (h3 : (z747 = 1 → ¬ f_e0 = p1)) (h4 : 0 ≤ f_e0 ∧ f_e0 ≤ 9) (h5 : 1 ≤ f_ties ∧ f_ties ≤ 20) (h6 : 0 ≤ p1 ∧ p1 ≤ 9) (h7 : 0 ≤ p2 ∧ p2 ≤ 19) (h8 : 0 ≤ p3 ∧ p3 ≤ 9) (h9 : 0 ≤ z747 ∧ z747 ≤ 1) (h10 : 0 ≤ z752 ∧ z752 ≤ 399) : 21200 ≤ (40 * (930 + z752)) ∧ ((40 * (930 + z752)) + 40) ≤ 53200 := by omega
theorem vc_X12_say_28 {f_e0 f_ties p1 p2 p3 z747 z752 : Int} (h0 : z752 = (((20 * p2) + (10 * z747)) + p3)) (h1 : p2 < f_ties) (h2 : (z747 = 0 → f_e0 = p1)) (h3 : (z747 = 1 → ¬ f_e0 = p1)) (h4 : 0 ≤ f_e0 ∧ f_e0 ≤ 9) (h5 : 1 ≤ f_ties ∧ f_ties ≤ 20) (h6 : 0 ≤ p1 ∧ p1 ≤ 9) (h7 : 0 ≤ p2 ∧ p2 ≤ 19) (h8 : 0 ≤ p3 ∧ p3 ≤ 9) (h9 : 0 ≤ z747 ∧ z747 ≤ 1) (h10 : 0 ≤ z752 ∧ z752 ≤ 399) : (40 * (530 + z752)) ≤ (40 * (530 + z752)) ∧ ((40 * (530 + z752)) + 40) ≤ ((40 * (530 + z752)) + 40) := by omega
theorem vc_X12_say_29 {f_e0 f_ties p1 p2 p3 z747 z752 : Int} (h0 : z752 = (((20 * p2) + (10 * z747)) + p3)) (h1 : p2 < f_ties) (h2 : (z747 = 0 → f_e0 = p1)) (h3 : (z747 = 1 → ¬ f_e0 = p1)) (h4 : 0 ≤ f_e0 ∧ f_e0 ≤ 9) (h5 : 1 ≤ f_ties ∧ f_ties ≤ 20) (h6 : 0 ≤ p1 ∧ p1 ≤ 9) (h7 : 0 ≤ p2 ∧ p2 ≤ 19) (h8 : 0 ≤ p3 ∧ p3 ≤ 9) (h9 : 0 ≤ z747 ∧ z747 ≤ 1) (h10 : 0 ≤ z752 ∧ z752 ≤ 399) : (40 * (930 + z752)) ≤ (40 * (930 + z752)) ∧ ((40 * (930 + z752)) + 40) ≤ ((40 * (930 + z752)) + 40) := by omega
theorem vc_X12_say_30 {f_e0 f_ties p1 p2 p3 z747 z752 : Int} (h0 : z752 = (((20 * p2) + (10 * z747)) + p3)) (h1 : p2 < f_ties) (h2 : (z747 = 0 → f_e0 = p1)) (h3 : (z747 = 1 → ¬ f_e0 = p1)) (h4 : 0 ≤ f_e0 ∧ f_e0 ≤ 9) (h5 : 1 ≤ f_ties ∧ f_ties ≤ 20) (h6 : 0 ≤ p1 ∧ p1 ≤ 9) (h7 : 0 ≤ p2 ∧ p2 ≤ 19) (h8 : 0 ≤ p3 ∧ p3 ≤ 9) (h9 : 0 ≤ z747 ∧ z747 ≤ 1) (h10 : 0 ≤ z752 ∧ z752 ≤ 399) : (1 ≤ (40 * (930 + z752)) ∧ ((40 * (930 + z752)) + 40) ≤ 1200) ∨ 5200 ≤ (40 * (930 + z752)) := by omega
theorem vc_X12_say_31 {f_e0 f_ties p1 p2 p3 z747 z752 : Int} (h0 : z752 = (((20 * p2) + (10 * z747)) + p3)) (h1 : p2 < f_ties) (h2 : (z747 = 0 → f_e0 = p1)) (h3 : (z747 = 1 → ¬ f_e0 = p1)) (h4 : 0 ≤ f_e0 ∧ f_e0 ≤ 9) (h5 : 1 ≤ f_ties ∧ f_ties ≤ 20) (h6 : 0 ≤ p1 ∧ p1 ≤ 9) (h7 : 0 ≤ p2 ∧ p2 ≤ 19) (h8 : 0 ≤ p3 ∧ p3 ≤ 9) (h9 : 0 ≤ z747 ∧ z747 ≤ 1) (h10 : 0 ≤ z752 ∧ z752 ≤ 399) : (1 ≤ (40 * (530 + z752)) ∧ ((40 * (530 + z752)) + 40) ≤ 1200) ∨ 5200 ≤ (40 * (530 + z752)) := by omega
theorem vc_X12_say_32 {z862 : Int} (h0 : ¬ z862 = 0) (h1 : 0 ≤ z862 ∧ z862 ≤ 1) : 1 ≤ z862 ∧ z862 ≤ 1 := by omega
theorem vc_X12_say_33 {f_e0 f_ties p1 p2 p3 z747 z752 z919 z922 z925 z959 : Int} (h0 : p2 < f_ties) (h1 : z752 = (((20 * p2) + (10 * z747)) + p3)) (h2 : (z922 + z925) ≤ z919) (h3 : (z747 = 0 → f_e0 = p1)) (h4 : (z747 = 1 → ¬ f_e0 = p1)) (h5 : 0 ≤ f_e0 ∧ f_e0 ≤ 9) (h6 : 1 ≤ f_ties ∧ f_ties ≤ 20) (h7 : 0 ≤ p1 ∧ p1 ≤ 9) (h8 : 0 ≤ p2 ∧ p2 ≤ 19) (h9 : 0 ≤ p3 ∧ p3 ≤ 9) (h10 : 0 ≤ z747 ∧ z747 ≤ 1) (h11 : 0 ≤ z752 ∧ z752 ≤ 399) (h12 : 0 ≤ z919 ∧ z919 ≤ 2000000000) (h13 : 0 ≤ z922 ∧ z922 ≤ 2000000000) (h14 : 0 ≤ z925 ∧ z925 ≤ 1000) (h15 : 0 ≤ z959 ∧ z959 ≤ 1000) : (z919 + z959) < 0 ∨ z752 < 20 * f_ties := by omega
theorem vc_X12_say_34 {z977 : Int} (h0 : 0 ≤ z977) (h1 : (-1) ≤ z977 ∧ z977 ≤ 2000001000) : 0 ≤ z977 ∧ z977 ≤ 2000001000 := by omega
theorem vc_X12_say_35 {z977 : Int} (h0 : z977 < 0) (h1 : (-1) ≤ z977 ∧ z977 ≤ 2000001000) : (-1) ≤ z977 ∧ z977 ≤ (-1) := by omega
theorem vc_X12_say_36 {f_e0 f_ties p1 p2 p3 z747 z752 z919 z922 z925 : Int} (h0 : p2 < f_ties) (h1 : z752 = (((20 * p2) + (10 * z747)) + p3)) (h2 : z919 < (z922 + z925)) (h3 : (z747 = 0 → f_e0 = p1)) (h4 : (z747 = 1 → ¬ f_e0 = p1)) (h5 : 0 ≤ f_e0 ∧ f_e0 ≤ 9) (h6 : 1 ≤ f_ties ∧ f_ties ≤ 20) (h7 : 0 ≤ p1 ∧ p1 ≤ 9) (h8 : 0 ≤ p2 ∧ p2 ≤ 19) (h9 : 0 ≤ p3 ∧ p3 ≤ 9) (h10 : 0 ≤ z747 ∧ z747 ≤ 1) (h11 : 0 ≤ z752 ∧ z752 ≤ 399) (h12 : 0 ≤ z919 ∧ z919 ≤ 2000000000) (h13 : 0 ≤ z922 ∧ z922 ≤ 2000000000) (h14 : 0 ≤ z925 ∧ z925 ≤ 1000) : (z922 + z925) < 0 ∨ z752 < 20 * f_ties := by omega
theorem vc_X12_say_37 {z859 : Int} (h0 : ¬ z859 = 0) (h1 : 0 ≤ z859 ∧ z859 ≤ 1) : 1 ≤ z859 ∧ z859 ≤ 1 := by omega
theorem vc_X12_say_38 {z765 z769 : Int} (h0 : z765 = (-99999999)) (h1 : z765 = -99999999 ∨ 0 ≤ z769) (h2 : (-99999999) ≤ z765 ∧ z765 ≤ 19) (h3 : z765 = -99999999 ∨ z765 = -4 ∨ (0 ≤ z765 ∧ z765 ≤ 19)) (h4 : (-1) ≤ z769 ∧ z769 ≤ 9) : (-99999999) ≤ z765 ∧ z765 ≤ (-99999999) := by omega
theorem vc_X12_say_39 {z765 z769 : Int} (h0 : ¬ z765 = (-99999999)) (h1 : z765 = -99999999 ∨ 0 ≤ z769) (h2 : (-99999999) ≤ z765 ∧ z765 ≤ 19) (h3 : z765 = -99999999 ∨ z765 = -4 ∨ (0 ≤ z765 ∧ z765 ≤ 19)) (h4 : (-1) ≤ z769 ∧ z769 ≤ 9) : (-4) ≤ z765 ∧ z765 ≤ 19 := by omega
theorem vc_X12_say_40 {f_ties p2 p3 z747 z752 z765 z769 : Int} (h0 : z765 = p2) (h1 : p2 < f_ties) (h2 : z752 = (((20 * p2) + (10 * z747)) + p3)) (h3 : z765 = -99999999 ∨ 0 ≤ z769) (h4 : ¬ z765 = (-99999999)) (h5 : 1 ≤ f_ties ∧ f_ties ≤ 20) (h6 : 0 ≤ p2 ∧ p2 ≤ 19) (h7 : 0 ≤ p3 ∧ p3 ≤ 9) (h8 : 0 ≤ z747 ∧ z747 ≤ 1) (h9 : 0 ≤ z752 ∧ z752 ≤ 399) (h10 : (-4) ≤ z765 ∧ z765 ≤ 19) (h11 : z765 = -99999999 ∨ z765 = -4 ∨ (0 ≤ z765 ∧ z765 ≤ 19)) (h12 : (-1) ≤ z769 ∧ z769 ≤ 9) : 0 ≤ z765 ∧ z765 ≤ 19 := by omega
theorem vc_X12_say_41 {f_e0 f_e1 f_ties p1 p2 p3 z747 z752 z765 : Int} (h0 : f_e0 = p1 ∨ f_e1 = p1) (h1 : (z747 = 0 → f_e0 = p1)) (h2 : (z747 = 1 → ¬ f_e0 = p1)) (h3 : z752 = (((20 * p2) + (10 * z747)) + p3)) (h4 : p2 < f_ties) (h5 : ¬ z765 = p2) (h6 : 0 ≤ f_e0 ∧ f_e0 ≤ 9) (h7 : 0 ≤ f_e1 ∧ f_e1 ≤ 9) (h8 : 1 ≤ f_ties ∧ f_ties ≤ 20) (h9 : 0 ≤ p1 ∧ p1 ≤ 9) (h10 : 0 ≤ p2 ∧ p2 ≤ 19) (h11 : 0 ≤ p3 ∧ p3 ≤ 9) (h12 : 0 ≤ z747 ∧ z747 ≤ 1) (h13 : 0 ≤ z752 ∧ z752 ≤ 399) (h14 : (-4) ≤ z765 ∧ z765 ≤ 19) (h15 : z765 = -99999999 ∨ z765 = -4 ∨ (0 ≤ z765 ∧ z765 ≤ 19)) : (30 + ((10 * p1) + p3)) < (2 : Int) ∨ (2 : Int) < (30 + ((10 * p1) + p3)) := by omega
theorem vc_X12_say_42  : (-(2147483648 : Int) ≤ ((100 : Int) : Int) ∧ ((100 : Int) : Int) ≤ (2147483647 : Int)) ∧ (((81 : Int) : Int) % (40 : Int) = (0 : Int) → -(1 : Int) ≤ ((100 : Int) : Int) ∧ ((100 : Int) : Int) ≤ (9 : Int)) ∧ (((81 : Int) : Int) % (40 : Int) = (4 : Int) → (0 : Int) ≤ ((100 : Int) : Int) ∧ ((100 : Int) : Int) ≤ (20 : Int)) ∧ (((81 : Int) : Int) % (40 : Int) = (5 : Int) → (0 : Int) ≤ ((100 : Int) : Int) ∧ ((100 : Int) : Int) ≤ (8 : Int)) := by omega
theorem vc_X12_say_43 {z1065 : Int} (h0 : ¬ z1065 = 0) (h1 : 0 ≤ z1065 ∧ z1065 ≤ 1) : 1 ≤ z1065 ∧ z1065 ≤ 1 := by omega
theorem vc_X12_say_44  : (80 : Int) ≤ ((40 : Int) * (2 : Int)) ∧ (((40 : Int) * (2 : Int)) + (40 : Int)) ≤ (120 : Int) := by omega
theorem vc_X12_say_45  : (0 : Int) ≤ (81 : Int) ∧ (80 : Int) ≤ (81 : Int) ∧ (81 : Int) < (120 : Int) := by omega
theorem vc_X12_say_46  : (80 : Int) ≤ (((40 : Int) * (2 : Int)) + (1 : Int)) ∧ (((40 : Int) * (2 : Int)) + (40 : Int)) ≤ (120 : Int) := by omega
theorem vc_X12_say_47  : (0 : Int) ≤ (81 : Int) ∧ (81 : Int) ≤ (81 : Int) ∧ (81 : Int) < ((81 : Int) + (1 : Int)) := by omega
theorem vc_X12_say_48  : ((1 : Int) ≤ ((81 : Int) : Int) ∧ (((81 : Int) + (1 : Int)) : Int) ≤ (1200 : Int)) ∨ (5200 : Int) ≤ ((81 : Int) : Int) := by omega
theorem vc_X12_say_49 {z1065 : Int} (h0 : z1065 = 0) (h1 : 0 ≤ z1065 ∧ z1065 ≤ 1) : 0 ≤ z1065 ∧ z1065 ≤ 0 := by omega
theorem vc_X12_say_50 {z1085 : Int} (h0 : z1085 = -1) (h1 : (-1) ≤ z1085 ∧ z1085 ≤ 9) : (-1) ≤ z1085 ∧ z1085 ≤ (-1) := by omega
theorem vc_X12_say_51 {z1037 : Int} (h0 : z1037 = 0) (h1 : 0 ≤ z1037 ∧ z1037 ≤ 1) : 0 ≤ z1037 ∧ z1037 ≤ 0 := by omega
theorem vc_X12_say_52  : ((40 : Int) * (2 : Int)) ≤ ((40 : Int) * (2 : Int)) ∧ (((40 : Int) * (2 : Int)) + (40 : Int)) ≤ (((40 : Int) * (2 : Int)) + (40 : Int)) := by omega
theorem vc_X12_say_53  : (0 : Int) ≤ (81 : Int) ∧ ((40 : Int) * (2 : Int)) ≤ (81 : Int) ∧ (81 : Int) < (((40 : Int) * (2 : Int)) + (40 : Int)) := by omega
theorem vc_X12_say_54  : ((40 : Int) * (2 : Int)) ≤ (((40 : Int) * (2 : Int)) + (1 : Int)) ∧ (((40 : Int) * (2 : Int)) + (40 : Int)) ≤ (((40 : Int) * (2 : Int)) + (40 : Int)) := by omega
theorem vc_X12_say_55  : ((1 : Int) ≤ ((((40 : Int) * (2 : Int)) + (1 : Int)) : Int) ∧ ((((40 : Int) * (2 : Int)) + (40 : Int)) : Int) ≤ (1200 : Int)) ∨ (5200 : Int) ≤ ((((40 : Int) * (2 : Int)) + (1 : Int)) : Int) := by omega
theorem vc_X12_say_56  : ((1 : Int) ≤ (((40 : Int) * (2 : Int)) : Int) ∧ ((((40 : Int) * (2 : Int)) + (40 : Int)) : Int) ≤ (1200 : Int)) ∨ (5200 : Int) ≤ (((40 : Int) * (2 : Int)) : Int) := by omega
theorem vc_X12_say_57 {z1037 : Int} (h0 : ¬ z1037 = 0) (h1 : 0 ≤ z1037 ∧ z1037 ≤ 1) : 1 ≤ z1037 ∧ z1037 ≤ 1 := by omega
theorem vc_X12_say_58 {z1095 : Int} (h0 : z1095 = -99999999 ∨ (0 ≤ z1095 ∧ z1095 ≤ 11)) : -99999999 ≤ z1095 ∧ z1095 ≤ 11 := by omega
theorem vc_X12_say_59 {f_e0 f_e1 f_ties p1 p2 p3 z747 z752 z765 z769 : Int} (h0 : p2 < f_ties) (h1 : (z747 = 0 → f_e0 = p1)) (h2 : (z747 = 1 → ¬ f_e0 = p1)) (h3 : z752 = (((20 * p2) + (10 * z747)) + p3)) (h4 : ¬ z765 = p2) (h5 : f_e0 = p1 ∨ f_e1 = p1) (h6 : z765 = -99999999 ∨ 0 ≤ z769) (h7 : ¬ z765 = (-99999999)) (h8 : 0 ≤ f_e0 ∧ f_e0 ≤ 9) (h9 : 0 ≤ f_e1 ∧ f_e1 ≤ 9) (h10 : 1 ≤ f_ties ∧ f_ties ≤ 20) (h11 : 0 ≤ p1 ∧ p1 ≤ 9) (h12 : 0 ≤ p2 ∧ p2 ≤ 19) (h13 : 0 ≤ p3 ∧ p3 ≤ 9) (h14 : 0 ≤ z747 ∧ z747 ≤ 1) (h15 : 0 ≤ z752 ∧ z752 ≤ 399) (h16 : (-4) ≤ z765 ∧ z765 ≤ 19) (h17 : z765 = -99999999 ∨ z765 = -4 ∨ (0 ≤ z765 ∧ z765 ≤ 19)) (h18 : (-1) ≤ z769 ∧ z769 ≤ 9) : (((4 * p2) + (2 * z747)) + 1) < 4 * f_ties := by omega
theorem vc_X12_say_60  : ((40 * 2) : Int).toNat ≠ (81 : Int).toNat := by omega
theorem vc_X12_say_61  : ((40 : Int) * (2 : Int)) < (((40 : Int) * (2 : Int)) + (1 : Int)) ∨ (((40 : Int) * (2 : Int)) + (40 : Int)) ≤ ((40 : Int) * (2 : Int)) := by omega
theorem vc_X12_say_62 {f_e0 f_ties p1 p2 p3 z747 z752 z765 z769 : Int} (h0 : p2 < f_ties) (h1 : z752 = (((20 * p2) + (10 * z747)) + p3)) (h2 : ¬ z765 = p2) (h3 : (z747 = 0 → f_e0 = p1)) (h4 : (z747 = 1 → ¬ f_e0 = p1)) (h5 : z765 = -99999999 ∨ 0 ≤ z769) (h6 : ¬ z765 = (-99999999)) (h7 : 0 ≤ f_e0 ∧ f_e0 ≤ 9) (h8 : 1 ≤ f_ties ∧ f_ties ≤ 20) (h9 : 0 ≤ p1 ∧ p1 ≤ 9) (h10 : 0 ≤ p2 ∧ p2 ≤ 19) (h11 : 0 ≤ p3 ∧ p3 ≤ 9) (h12 : 0 ≤ z747 ∧ z747 ≤ 1) (h13 : 0 ≤ z752 ∧ z752 ≤ 399) (h14 : (-4) ≤ z765 ∧ z765 ≤ 19) (h15 : z765 = -99999999 ∨ z765 = -4 ∨ (0 ≤ z765 ∧ z765 ≤ 19)) (h16 : (-1) ≤ z769 ∧ z769 ≤ 9) : p2 < f_ties := by omega
theorem vc_X12_say_63 {f_e0 f_e1 p1 p2 p3 z1107 z747 z752 : Int} (h0 : f_e0 = p1 ∨ f_e1 = p1) (h1 : (z747 = 0 → f_e0 = p1)) (h2 : (z747 = 1 → ¬ f_e0 = p1)) (h3 : (f_e0 = p1 → z1107 = f_e1) ∧ (¬ f_e0 = p1 → z1107 = f_e0)) (h4 : z752 = (((20 * p2) + (10 * z747)) + p3)) (h5 : 0 ≤ f_e0 ∧ f_e0 ≤ 9) (h6 : 0 ≤ f_e1 ∧ f_e1 ≤ 9) (h7 : 0 ≤ p1 ∧ p1 ≤ 9) (h8 : 0 ≤ p2 ∧ p2 ≤ 19) (h9 : 0 ≤ p3 ∧ p3 ≤ 9) (h10 : 0 ≤ z1107 ∧ z1107 ≤ 9) (h11 : 0 ≤ z747 ∧ z747 ≤ 1) (h12 : 0 ≤ z752 ∧ z752 ≤ 399) : (f_e0 = p1 ∧ f_e1 = z1107) ∨ (f_e0 = z1107 ∧ f_e1 = p1) := by omega
theorem vc_X12_say_64 {p2 z1024 z765 z769 : Int} (h0 : z765 = -99999999 ∨ 0 ≤ z769) (h1 : z1024 = z769) (h2 : ¬ z765 = (-99999999)) (h3 : ¬ z765 = p2) (h4 : 0 ≤ p2 ∧ p2 ≤ 19) (h5 : (-1) ≤ z1024 ∧ z1024 ≤ 9) (h6 : (-4) ≤ z765 ∧ z765 ≤ 19) (h7 : z765 = -99999999 ∨ z765 = -4 ∨ (0 ≤ z765 ∧ z765 ≤ 19)) (h8 : (-1) ≤ z769 ∧ z769 ≤ 9) : 0 ≤ z769 := by omega
theorem vc_X12_say_65 {z1095 z1099 : Int} (h0 : z1095 = -99999999 ∨ (0 ≤ z1095 ∧ z1095 < z1099)) (h1 : (-99999999) ≤ z1095 ∧ z1095 ≤ 11) (h2 : z1095 = -99999999 ∨ (0 ≤ z1095 ∧ z1095 ≤ 11)) (h3 : 0 ≤ z1099 ∧ z1099 ≤ 12) : z1095 = -99999999 ∨ (0 ≤ z1095 ∧ z1095 < z1099) := by omega
theorem vc_X12_say_66 {z1112 : Int} (h0 : z1112 = 0) (h1 : 0 ≤ z1112 ∧ z1112 ≤ 1) : 0 ≤ z1112 ∧ z1112 ≤ 0 := by omega
theorem vc_X12_say_67 {z1112 : Int} (h0 : ¬ z1112 = 0) (h1 : 0 ≤ z1112 ∧ z1112 ≤ 1) : 1 ≤ z1112 ∧ z1112 ≤ 1 := by omega
set_option maxRecDepth 4000 in
set_option maxHeartbeats 4000000 in
theorem c_X12_say {l : Launch} {D : va_G} {c : Nat → ClassId} {H0 : Heap} {sa : Nat × Nat × (Nat → Int32)} {w : mW} {μ : mM} (hw : mWF w) (hT : mT w μ) {p1 : Int} (hp1 : 0 ≤ p1 ∧ p1 ≤ 9) {p2 : Int} (hp2 : 0 ≤ p2 ∧ p2 ≤ 19) {p3 : Int} (hp3 : 0 ≤ p3 ∧ p3 ≤ 9) {f_e0 : Int} (q_f_e0 : μ 110 ((2 * p2).toNat) = f_e0) {f_e1 : Int} (q_f_e1 : μ 110 (((2 * p2) + 1).toNat) = f_e1) {f_ties : Int} (q_f_ties : μ 106 6 = f_ties) (hq0 : p2 < f_ties) (hq1 : f_e0 = p1 ∨ f_e1 = p1) (hIG1 : G1 μ) (hIEV : EV μ) (hIPK : PK μ) : sC (gG l D c H0 sa) mX12_say 7 0 0 [.ref 106, iv p1, iv p2, iv p3] (mk w μ) (qV w [106026, 106027, 106028, 106029, 106030, 106031, 106072, 126999, 151999, 152999, 153999, 155999, 156999, 157999, 158999, 159999, 160999] μ (fun μ1 => mG [(80, 120), (21200, 53200)] μ μ1 ∧ G1 μ1 ∧ EV μ1 ∧ True)) := by
  refine sC.of rfl (by decide) (le_t rfl) ?_
  have ht_f_e0 : (0 ≤ f_e0 ∧ f_e0 ≤ 9) := by rw [← q_f_e0]; exact hT 110 110 (A_110 hw) ((2 * p2).toNat)
  have ht_f_e1 : (0 ≤ f_e1 ∧ f_e1 ≤ 9) := by rw [← q_f_e1]; exact hT 110 110 (A_110 hw) (((2 * p2) + 1).toNat)
  have ht_f_ties : (0 ≤ f_ties ∧ f_ties ≤ 20) := by rw [← q_f_ties]; exact hT 106 106 (A_106 hw) 6
  have h1 : 1 ≤ f_ties ∧ f_ties ≤ 20 := (vc_X12_say_1 hq0 ht_f_ties hp2)
  refine mr_lvE (lv' := [(0, .ref 106), (1, iv p1), (2, iv p2), (3, iv p3)]) rfl ?_
  refine sv_aload_n (pc := 0) dX12_say_0 rfl rfl ?_
  refine mr_iload_n (pc := 1) (z := p2) dX12_say_1 rfl rfl ?_
  refine mr_iload_n (pc := 2) (z := p1) dX12_say_2 rfl rfl ?_
  refine mr_cVP (pc := 3) (c_X12_sideOf hw hT hp2 (rW (c := (-2147483648)) (d := 2147483647) hp1 rfl) q_f_e0) (gOk _ _ _ _ _) dX12_say_3 (tX12_sideOf _ _ _ _ _) ⟨wV_X12_sideOf, wL_X12_sideOf⟩ wM_X12_542 (gCX12 _ _ _ _ _) rfl (A_106 hw) rfl ⟨le_t rfl, le_t rfl⟩ ⟨le_t rfl, le_t rfl⟩ rfl (le_t rfl) fun z747 h746 => ?_
  refine mr_istore (pc := 6) (lv' := [(4, iv z747), (0, .ref 106), (1, iv p1), (2, iv p2), (3, iv p3)]) dX12_say_6 (by decide) rfl ?_
  refine mr_iload_n (pc := 8) (z := p2) dX12_say_8 rfl rfl ?_
  refine mr_iload (pc := 9) (z := z747) dX12_say_9 rfl ?_
  refine mr_iload_n (pc := 11) (z := p3) dX12_say_11 rfl rfl ?_
  refine mr_cSP (pc := 12) (c_X12_slot hw hT (rW (c := 0) (d := 20) hp2 rfl) (rW (c := 0) (d := 2) h746.1 rfl) hp3) (gOk _ _ _ _ _) dX12_say_12 (tX12_slot _ _ _ _ _) wS_X12_slot wM_X12_545 ⟨le_t rfl, le_t rfl⟩ ⟨le_t rfl, le_t rfl⟩ rfl (le_t rfl) fun z752 h751 => ?_
  have h753 : 0 ≤ z752 ∧ z752 ≤ 399 := (vc_X12_say_2 h751.2.1 hq0 h746.2.1 h746.2.2.1 ht_f_e0 h1 hp1 hp2 hp3 h746.1 h751.1)
  refine mr_istore (pc := 15) (lv' := [(5, iv z752), (4, iv z747), (0, .ref 106), (1, iv p1), (2, iv p2), (3, iv p3)]) dX12_say_15 (by decide) rfl ?_
  refine mr_bipush (pc := 17) (z := 10) dX12_say_17 (by decide) ?_
  refine mr_iload_n (pc := 19) (z := p1) dX12_say_19 rfl rfl ?_
  refine mr_imul (pc := 20) (x := 10) (y := p1) dX12_say_20 ?_
  refine mr_iload_n (pc := 21) (z := p3) dX12_say_21 rfl rfl ?_
  refine mr_iadd (pc := 22) (x := (10 * p1)) (y := p3) dX12_say_22 ?_
  refine mr_istore (pc := 23) (lv' := [(6, iv ((10 * p1) + p3)), (5, iv z752), (4, iv z747), (0, .ref 106), (1, iv p1), (2, iv p2), (3, iv p3)]) dX12_say_23 (by decide) rfl ?_
  refine sv_aload_n (pc := 25) dX12_say_25 rfl rfl ?_
  refine mr_iconst (pc := 26) (z := 2) dX12_say_26 ?_
  refine mr_cVV (pc := 27) (c_X12_nothing hw hT (rW (c := 0) (d := 2099) (rR (x := 2)) rfl)) (gOk _ _ _ _ _) dX12_say_27 (tX12_nothing _ _ _ _ _) ⟨wV_X12_nothing, wL_X12_nothing⟩ wM_X12_539 (gCX12 _ _ _ _ _) rfl (A_106 hw) rfl ⟨le_t rfl, le_t rfl⟩ ⟨le_t rfl, le_t rfl⟩ rfl (le_t rfl) fun μ754 T755 F756 h757 => ?_
  obtain ⟨z758, q759, h760⟩ := h757
  have h761 := rt7 T755 (A_126 hw) vc_X12_say_3 q759
  have h762 : (-1) ≤ z758 ∧ z758 ≤ 9 := h761.2.1 vc_X12_say_4
  have q763 : μ754 126 (((40 * 2) : Int).toNat) = (-1) := q759.trans h760.2.1
  have h764 : (-1) ≤ z758 ∧ z758 ≤ (-1) := (vc_X12_say_5 h760.2.1 h762)
  refine sv_aload_n (pc := 30) dX12_say_30 rfl rfl ?_
  refine gf_X12_81 (pc := 31) dX12_say_31 wF_X12_445 (A_106 hw) T755 ?_
  refine mr_iload (pc := 34) (z := ((10 * p1) + p3)) dX12_say_34 rfl ?_
  refine la_161 (pc := 36) dX12_say_36 (A_161 hw) T755 (rIx (n := 100) (rAdd (e := 0) (f := 99) (rMulL (n := 10) (e := 0) (f := 90) hp1 rfl) hp3 rfl) rfl) fun z765 q766 h767 => ?_
  have h768 : (-99999999) ≤ z765 ∧ z765 ≤ 19 := (vc_X12_say_6 h767)
  obtain ⟨z769, q770⟩ : ∃ z, μ754 126 ((40 * (30 + ((10 * p1) + p3))).toNat) = z := ⟨_, rfl⟩
  have h771 := rt7 T755 (A_126 hw) (vc_X12_say_7 hq1 h746.2.1 h746.2.2.1 h751.2.1 hq0 ht_f_e0 ht_f_e1 h1 hp1 hp2 hp3 h746.1 h753) q770
  have h772 : (-1) ≤ z769 ∧ z769 ≤ 9 := h771.2.1 (vc_X12_say_8 hq1 h746.2.1 h746.2.2.1 h751.2.1 hq0 ht_f_e0 ht_f_e1 h1 hp1 hp2 hp3 h746.1 h753)
  have h773 : z765 = -99999999 ∨ 0 ≤ z769 := G1.at (G1.keep hIG1 hw ((mF.call mF.refl F756 rfl) : mF [126999] w μ μ754) rfl rfl ((mG.call mG.refl h760.1 (List.forall_mem_cons.mpr ⟨⟨_, List.mem_cons_self, vc_X12_say_9⟩, (fun _ h => absurd h List.not_mem_nil)⟩)) : mG [((40 * 2), ((40 * 2) + 1))] μ μ754) (List.forall_mem_cons.mpr ⟨vc_X12_say_10, (fun _ h => absurd h List.not_mem_nil)⟩)) (rAdd (e := 0) (f := 99) (rMulL (n := 10) (e := 0) (f := 90) hp1 rfl) hp3 rfl) q766 (vc_X12_say_11 hq1 h746.2.1 h746.2.2.1 h751.2.1 hq0 ht_f_e0 ht_f_e1 h1 hp1 hp2 hp3 h746.1 h753) q770
  refine mr_ldc (pc := 37) (z := (-99999999)) dX12_say_37 wG_X12_29 (by decide) ?_
  have J854 : ∀ (μ847 : mM), (mT w μ847) → (mF [106026, 106027, 106028, 106029, 106030, 106031, 126999, 151999, 152999, 153999] w μ754 μ847) → (mG [(80, 120), (21200, 53200)] μ754 μ847) → (G1 μ847) → (EV μ847) → (PK μ847) → sV (gG l D c H0 sa) mX12_say (sRm 7 0 0) (sZ (gG l D c H0 sa) 0 0 (qV w [106026, 106027, 106028, 106029, 106030, 106031, 106072, 126999, 151999, 152999, 153999, 155999, 156999, 157999, 158999, 159999, 160999] μ (fun μ1 => mG [(80, 120), (21200, 53200)] μ μ1 ∧ G1 μ1 ∧ EV μ1 ∧ True))) 137 [(0, .ref 106), (2, iv p2), (5, iv z752)] [] (mk w μ847) 0 0 := by
    intro μ847 T848 F849 G850 I851 I852 I853
    refine sv_aload_n (pc := 137) dX12_say_137 rfl rfl ?_
    refine mr_iconst (pc := 138) (z := 2) dX12_say_138 ?_
    refine mr_sipush (pc := 139) (z := 530) dX12_say_139 (by decide) ?_
    refine mr_iload (pc := 142) (z := z752) dX12_say_142 rfl ?_
    refine mr_iadd (pc := 144) (x := 530) (y := z752) dX12_say_144 ?_
    refine mr_cVP (pc := 145) (c_X12_same hw T848 (rW (c := 0) (d := 2099) (rR (x := 2)) rfl) (rW (c := 0) (d := 2099) (rAdd (e := 530) (f := 929) (rR (x := 530)) h753 rfl) rfl)) (gOk _ _ _ _ _) dX12_say_145 (tX12_same _ _ _ _ _) ⟨wV_X12_same, wL_X12_same⟩ wM_X12_584 (gCX12 _ _ _ _ _) rfl (A_106 hw) rfl ⟨le_t rfl, le_t rfl⟩ ⟨le_t rfl, le_t rfl⟩ rfl (le_t rfl) fun z859 h858 => ?_
    refine mr_if_eq (pc := 148) (tgt := 152) dX12_say_148 (by decide) (r32 h858.1 rfl) (fun h860 => ?_) (fun h860 => ?_)
    · have h861 : 0 ≤ z859 ∧ z859 ≤ 0 := (vc_X12_say_12 h860 h858.1)
      refine sv_aload_n (pc := 152) dX12_say_152 rfl rfl ?_
      refine gf_X12_75 (pc := 153) dX12_say_153 wF_X12_427 (A_106 hw) T848 ?_
      refine mr_iload (pc := 156) (z := z752) dX12_say_156 rfl ?_
      refine la_155 (pc := 158) dX12_say_158 (A_155 hw) T848 (rIx (n := 400) h753 rfl) fun z862 q863 h864 => ?_
      refine mr_if_eq (pc := 159) (tgt := 236) dX12_say_159 (by decide) (r32 h864 rfl) (fun h865 => ?_) (fun h865 => ?_)
      · have h866 : 0 ≤ z862 ∧ z862 ≤ 0 := (vc_X12_say_13 h865 h864)
        refine sv_aload_n (pc := 236) dX12_say_236 rfl rfl ?_
        refine mr_iconst (pc := 237) (z := 2) dX12_say_237 ?_
        refine mr_sipush (pc := 238) (z := 530) dX12_say_238 (by decide) ?_
        refine mr_iload (pc := 241) (z := z752) dX12_say_241 rfl ?_
        refine mr_iadd (pc := 243) (x := 530) (y := z752) dX12_say_243 ?_
        obtain ⟨z867, q868⟩ : ∃ z, μ847 126 (((40 * 2) : Int).toNat) = z := ⟨_, rfl⟩
        have h869 := rt7 T848 (A_126 hw) vc_X12_say_3 q868
        have h870 : (-1) ≤ z867 ∧ z867 ≤ 9 := h869.2.1 vc_X12_say_4
        refine mr_cVV (pc := 244) (c_X12_copy hw T848 (rW (c := 0) (d := 2099) (rR (x := 2)) rfl) (rW (c := 0) (d := 2099) (rAdd (e := 530) (f := 929) (rR (x := 530)) h753 rfl) rfl) q868 (vc_X12_say_14 h751.2.1 hq0 h746.2.1 h746.2.2.1 ht_f_e0 h1 hp1 hp2 hp3 h746.1 h753)) (gOk _ _ _ _ _) dX12_say_244 (tX12_copy _ _ _ _ _) ⟨wV_X12_copy, wL_X12_copy⟩ wM_X12_559 (gCX12 _ _ _ _ _) rfl (A_106 hw) rfl ⟨le_t rfl, le_t rfl⟩ ⟨le_t rfl, le_t rfl⟩ rfl (le_t rfl) fun μ871 T872 F873 h874 => ?_
        obtain ⟨z875, q876, h877⟩ := h874
        have h878 := rt7 T872 (A_126 hw) (vc_X12_say_15 h751.2.1 hq0 h746.2.1 h746.2.2.1 ht_f_e0 h1 hp1 hp2 hp3 h746.1 h753) q876
        have h879 : (-1) ≤ z875 ∧ z875 ≤ 9 := h878.2.1 (vc_X12_say_16 h751.2.1 hq0 h746.2.1 h746.2.2.1 ht_f_e0 h1 hp1 hp2 hp3 h746.1 h753)
        have q880 : μ871 126 ((40 * (530 + z752)).toNat) = z867 := q876.trans h877.2.1
        refine sv_aload_n (pc := 247) dX12_say_247 rfl rfl ?_
        refine gf_X12_75 (pc := 248) dX12_say_248 wF_X12_427 (A_106 hw) T872 ?_
        refine mr_iload (pc := 251) (z := z752) dX12_say_251 rfl ?_
        refine mr_iconst (pc := 253) (z := 1) dX12_say_253 ?_
        refine ss_155 (pc := 254) dX12_say_254 (A_155 hw) T872 (rIx (n := 400) h753 rfl) (rW (c := 0) (d := 1) (rR (x := 1)) rfl) fun μ881 u882 T883 => ?_
        refine sv_aload_n (pc := 255) dX12_say_255 rfl rfl ?_
        refine gf_X12_76 (pc := 256) dX12_say_256 wF_X12_430 (A_106 hw) T883 ?_
        refine mr_iload (pc := 259) (z := z752) dX12_say_259 rfl ?_
        refine sv_aload_n (pc := 261) dX12_say_261 rfl rfl ?_
        refine gf_X12_71 (pc := 262) dX12_say_262 wF_X12_591 (A_106 hw) T883 fun z884 q885 h886 => ?_
        refine ss_156 (pc := 265) dX12_say_265 (A_156 hw) T883 (rIx (n := 400) h753 rfl) h886 fun μ887 u888 T889 => ?_
        refine sv_aload_n (pc := 266) dX12_say_266 rfl rfl ?_
        refine mr_iconst (pc := 267) (z := 2) dX12_say_267 ?_
        refine mr_sipush (pc := 268) (z := 930) dX12_say_268 (by decide) ?_
        refine mr_iload (pc := 271) (z := z752) dX12_say_271 rfl ?_
        refine mr_iadd (pc := 273) (x := 930) (y := z752) dX12_say_273 ?_
        refine mr_cVV (pc := 274) (c_X12_copy hw T889 (rW (c := 0) (d := 2099) (rR (x := 2)) rfl) (rW (c := 0) (d := 2099) (rAdd (e := 930) (f := 1329) (rR (x := 930)) h753 rfl) rfl) (u888.f (Or.inl (mAt.ne (A_156 hw) (A_126 hw) rfl)) (u882.f (Or.inl (mAt.ne (A_155 hw) (A_126 hw) rfl)) (h877.1.f vc_X12_say_3 (List.forall_mem_cons.mpr ⟨(vc_X12_say_17 h751.2.1 hq0 h746.2.1 h746.2.2.1 ht_f_e0 h1 hp1 hp2 hp3 h746.1 h753), (fun _ h => absurd h List.not_mem_nil)⟩) q868))) (vc_X12_say_18 h751.2.1 hq0 h746.2.1 h746.2.2.1 ht_f_e0 h1 hp1 hp2 hp3 h746.1 h753)) (gOk _ _ _ _ _) dX12_say_274 (tX12_copy _ _ _ _ _) ⟨wV_X12_copy, wL_X12_copy⟩ wM_X12_559 (gCX12 _ _ _ _ _) rfl (A_106 hw) rfl ⟨le_t rfl, le_t rfl⟩ ⟨le_t rfl, le_t rfl⟩ rfl (le_t rfl) fun μ890 T891 F892 h893 => ?_
        obtain ⟨z894, q895, h896⟩ := h893
        have h897 := rt7 T891 (A_126 hw) (vc_X12_say_19 h751.2.1 hq0 h746.2.1 h746.2.2.1 ht_f_e0 h1 hp1 hp2 hp3 h746.1 h753) q895
        have h898 : (-1) ≤ z894 ∧ z894 ≤ 9 := h897.2.1 (vc_X12_say_20 h751.2.1 hq0 h746.2.1 h746.2.2.1 ht_f_e0 h1 hp1 hp2 hp3 h746.1 h753)
        have q899 : μ890 126 ((40 * (930 + z752)).toNat) = z867 := q895.trans h896.2.1
        refine sv_aload_n (pc := 277) dX12_say_277 rfl rfl ?_
        refine gf_X12_77 (pc := 278) dX12_say_278 wF_X12_433 (A_106 hw) T891 ?_
        refine mr_iload (pc := 281) (z := z752) dX12_say_281 rfl ?_
        refine sv_aload_n (pc := 283) dX12_say_283 rfl rfl ?_
        refine gk_X12_71 (pc := 284) dX12_say_284 wF_X12_591 (A_106 hw) (F892.f (A_106 hw) rfl (u888.f (Or.inl (mAt.ne (A_156 hw) (A_106 hw) rfl)) q885)) ?_
        refine sv_aload_n (pc := 287) dX12_say_287 rfl rfl ?_
        refine gf_X12_10 (pc := 288) dX12_say_288 wF_X12_57 (A_106 hw) T891 ?_
        refine mr_iload_n (pc := 291) (z := p2) dX12_say_291 rfl rfl ?_
        refine la_113 (pc := 292) dX12_say_292 (A_113 hw) T891 (rIx (n := 20) hp2 rfl) fun z900 q901 h902 => ?_
        refine mr_iadd (pc := 293) (x := z884) (y := z900) dX12_say_293 ?_
        refine ss_157 (pc := 294) dX12_say_294 (A_157 hw) T891 (rIx (n := 400) h753 rfl) (rW (c := (-1)) (d := 2000001000) (rAdd (e := 0) (f := 2000001000) h886 h902 rfl) rfl) fun μ903 u904 T905 => ?_
        have I906 : EV μ903 := EV.up1 (EV.keep I852 hw ((mF.call (mF.up (mF.up (mF.call mF.refl F873 rfl) (A_155 hw) u882 rfl) (A_156 hw) u888 rfl) F892 rfl) : mF [126999, 155999, 156999] w μ847 μ890) rfl) u904 (u904.f (Or.inl (mAt.ne (A_157 hw) (A_106 hw) rfl)) (F892.f (A_106 hw) rfl (u888.f (Or.inl (mAt.ne (A_156 hw) (A_106 hw) rfl)) (u882.f (Or.inl (mAt.ne (A_155 hw) (A_106 hw) rfl)) (F873.f (A_106 hw) rfl (F849.f (A_106 hw) rfl (F756.f (A_106 hw) rfl q_f_ties))))))) (vc_X12_say_21 h751.2.1 hq0 h746.2.1 h746.2.2.1 ht_f_e0 h1 hp1 hp2 hp3 h746.1 h753) (vc_X12_say_22 hq0 h751.2.1 h746.2.1 h746.2.2.1 ht_f_e0 h1 hp1 hp2 hp3 h746.1 h753 h886 h902)
        refine sv_aload_n (pc := 295) dX12_say_295 rfl rfl ?_
        refine gf_X12_78 (pc := 296) dX12_say_296 wF_X12_436 (A_106 hw) T905 ?_
        refine mr_iload (pc := 299) (z := z752) dX12_say_299 rfl ?_
        refine sv_aload_n (pc := 301) dX12_say_301 rfl rfl ?_
        refine gf_X12_72 (pc := 302) dX12_say_302 wF_X12_594 (A_106 hw) T905 fun z907 q908 h909 => ?_
        refine ss_158 (pc := 305) dX12_say_305 (A_158 hw) T905 (rIx (n := 400) h753 rfl) h909 fun μ910 u911 T912 => ?_
        refine sv_aload_n (pc := 306) dX12_say_306 rfl rfl ?_
        refine sv_dup (pc := 307) dX12_say_307 rfl ?_
        refine gk_X12_72 (pc := 308) dX12_say_308 wF_X12_594 (A_106 hw) (u911.f (Or.inl (mAt.ne (A_158 hw) (A_106 hw) rfl)) q908) ?_
        refine mr_iconst (pc := 311) (z := 1) dX12_say_311 ?_
        refine mr_iadd (pc := 312) (x := z907) (y := 1) dX12_say_312 ?_
        refine mr_wrap fun z913 h914 => ?_
        refine pf_X12_72 (pc := 313) dX12_say_313 wF_X12_594 (A_106 hw) T912 h914 fun μ915 u916 T917 => ?_
        exact mr_vret dX12_say_316 rfl (le_t rfl) (le_t rfl) T917 (mF.up (mF.up (mF.up (mF.call (mF.up (mF.up (mF.call (mF.call (mF.call mF.refl F756 rfl) F849 rfl) F873 rfl) (A_155 hw) u882 rfl) (A_156 hw) u888 rfl) F892 rfl) (A_157 hw) u904 rfl) (A_158 hw) u911 rfl) (A_106 hw) u916 rfl) ⟨(mG.upO (mG.upO (mG.upO (mG.call (mG.upO (mG.upO (mG.call (mG.call (mG.call mG.refl h760.1 (List.forall_mem_cons.mpr ⟨⟨_, List.mem_cons_self, vc_X12_say_23⟩, (fun _ h => absurd h List.not_mem_nil)⟩)) G850 (List.forall_mem_cons.mpr ⟨⟨_, List.mem_cons_self, vc_X12_say_24⟩, (List.forall_mem_cons.mpr ⟨⟨_, (List.mem_cons_of_mem _ List.mem_cons_self), vc_X12_say_25⟩, (fun _ h => absurd h List.not_mem_nil)⟩)⟩)) h877.1 (List.forall_mem_cons.mpr ⟨⟨_, (List.mem_cons_of_mem _ List.mem_cons_self), (vc_X12_say_26 h751.2.1 hq0 h746.2.1 h746.2.2.1 ht_f_e0 h1 hp1 hp2 hp3 h746.1 h753)⟩, (fun _ h => absurd h List.not_mem_nil)⟩)) u882 rfl) u888 rfl) h896.1 (List.forall_mem_cons.mpr ⟨⟨_, (List.mem_cons_of_mem _ List.mem_cons_self), (vc_X12_say_27 h751.2.1 hq0 h746.2.1 h746.2.2.1 ht_f_e0 h1 hp1 hp2 hp3 h746.1 h753)⟩, (fun _ h => absurd h List.not_mem_nil)⟩)) u904 rfl) u911 rfl) u916 rfl), (G1.keep I851 hw ((mF.up (mF.up (mF.up (mF.call (mF.up (mF.up (mF.call mF.refl F873 rfl) (A_155 hw) u882 rfl) (A_156 hw) u888 rfl) F892 rfl) (A_157 hw) u904 rfl) (A_158 hw) u911 rfl) (A_106 hw) u916 rfl) : mF [106072, 126999, 155999, 156999, 157999, 158999] w μ847 μ915) rfl rfl ((mG.upO (mG.upO (mG.upO (mG.call (mG.upO (mG.upO (mG.call mG.refl h877.1 (List.forall_mem_cons.mpr ⟨⟨_, List.mem_cons_self, (vc_X12_say_28 h751.2.1 hq0 h746.2.1 h746.2.2.1 ht_f_e0 h1 hp1 hp2 hp3 h746.1 h753)⟩, (fun _ h => absurd h List.not_mem_nil)⟩)) u882 rfl) u888 rfl) h896.1 (List.forall_mem_cons.mpr ⟨⟨_, (List.mem_cons_of_mem _ List.mem_cons_self), (vc_X12_say_29 h751.2.1 hq0 h746.2.1 h746.2.2.1 ht_f_e0 h1 hp1 hp2 hp3 h746.1 h753)⟩, (fun _ h => absurd h List.not_mem_nil)⟩)) u904 rfl) u911 rfl) u916 rfl) : mG [((40 * (530 + z752)), ((40 * (530 + z752)) + 40)), ((40 * (930 + z752)), ((40 * (930 + z752)) + 40))] μ847 μ915) (List.forall_mem_cons.mpr ⟨(vc_X12_say_31 h751.2.1 hq0 h746.2.1 h746.2.2.1 ht_f_e0 h1 hp1 hp2 hp3 h746.1 h753), (List.forall_mem_cons.mpr ⟨(vc_X12_say_30 h751.2.1 hq0 h746.2.1 h746.2.2.1 ht_f_e0 h1 hp1 hp2 hp3 h746.1 h753), (fun _ h => absurd h List.not_mem_nil)⟩)⟩)), (EV.keep I906 hw ((mF.up (mF.up mF.refl (A_158 hw) u911 rfl) (A_106 hw) u916 rfl) : mF [106072, 158999] w μ903 μ915) rfl), trivial⟩
      have h918 : 1 ≤ z862 ∧ z862 ≤ 1 := (vc_X12_say_32 h865 h864)
      refine sv_aload_n (pc := 162) dX12_say_162 rfl rfl ?_
      refine gf_X12_71 (pc := 163) dX12_say_163 wF_X12_591 (A_106 hw) T848 fun z919 q920 h921 => ?_
      refine sv_aload_n (pc := 166) dX12_say_166 rfl rfl ?_
      refine gf_X12_76 (pc := 167) dX12_say_167 wF_X12_430 (A_106 hw) T848 ?_
      refine mr_iload (pc := 170) (z := z752) dX12_say_170 rfl ?_
      refine la_156 (pc := 172) dX12_say_172 (A_156 hw) T848 (rIx (n := 400) h753 rfl) fun z922 q923 h924 => ?_
      refine sv_aload_n (pc := 173) dX12_say_173 rfl rfl ?_
      refine gf_X12_11 (pc := 174) dX12_say_174 wF_X12_60 (A_106 hw) T848 ?_
      refine mr_iload_n (pc := 177) (z := p2) dX12_say_177 rfl rfl ?_
      refine la_114 (pc := 178) dX12_say_178 (A_114 hw) T848 (rIx (n := 20) hp2 rfl) fun z925 q926 h927 => ?_
      refine mr_iadd (pc := 179) (x := z922) (y := z925) dX12_say_179 ?_
      refine mr_icmp_ge (pc := 180) (tgt := 236) dX12_say_180 (by decide) (r32 h921 rfl) (r32 (rAdd (e := 0) (f := 2000001000) h924 h927 rfl) rfl) (fun h928 => ?_) (fun h928 => ?_)
      · refine sv_aload_n (pc := 236) dX12_say_236 rfl rfl ?_
        refine mr_iconst (pc := 237) (z := 2) dX12_say_237 ?_
        refine mr_sipush (pc := 238) (z := 530) dX12_say_238 (by decide) ?_
        refine mr_iload (pc := 241) (z := z752) dX12_say_241 rfl ?_
        refine mr_iadd (pc := 243) (x := 530) (y := z752) dX12_say_243 ?_
        obtain ⟨z929, q930⟩ : ∃ z, μ847 126 (((40 * 2) : Int).toNat) = z := ⟨_, rfl⟩
        have h931 := rt7 T848 (A_126 hw) vc_X12_say_3 q930
        have h932 : (-1) ≤ z929 ∧ z929 ≤ 9 := h931.2.1 vc_X12_say_4
        refine mr_cVV (pc := 244) (c_X12_copy hw T848 (rW (c := 0) (d := 2099) (rR (x := 2)) rfl) (rW (c := 0) (d := 2099) (rAdd (e := 530) (f := 929) (rR (x := 530)) h753 rfl) rfl) q930 (vc_X12_say_14 h751.2.1 hq0 h746.2.1 h746.2.2.1 ht_f_e0 h1 hp1 hp2 hp3 h746.1 h753)) (gOk _ _ _ _ _) dX12_say_244 (tX12_copy _ _ _ _ _) ⟨wV_X12_copy, wL_X12_copy⟩ wM_X12_559 (gCX12 _ _ _ _ _) rfl (A_106 hw) rfl ⟨le_t rfl, le_t rfl⟩ ⟨le_t rfl, le_t rfl⟩ rfl (le_t rfl) fun μ933 T934 F935 h936 => ?_
        obtain ⟨z937, q938, h939⟩ := h936
        have h940 := rt7 T934 (A_126 hw) (vc_X12_say_15 h751.2.1 hq0 h746.2.1 h746.2.2.1 ht_f_e0 h1 hp1 hp2 hp3 h746.1 h753) q938
        have h941 : (-1) ≤ z937 ∧ z937 ≤ 9 := h940.2.1 (vc_X12_say_16 h751.2.1 hq0 h746.2.1 h746.2.2.1 ht_f_e0 h1 hp1 hp2 hp3 h746.1 h753)
        have q942 : μ933 126 ((40 * (530 + z752)).toNat) = z929 := q938.trans h939.2.1
        refine sv_aload_n (pc := 247) dX12_say_247 rfl rfl ?_
        refine gf_X12_75 (pc := 248) dX12_say_248 wF_X12_427 (A_106 hw) T934 ?_
        refine mr_iload (pc := 251) (z := z752) dX12_say_251 rfl ?_
        refine mr_iconst (pc := 253) (z := 1) dX12_say_253 ?_
        refine ss_155 (pc := 254) dX12_say_254 (A_155 hw) T934 (rIx (n := 400) h753 rfl) (rW (c := 0) (d := 1) (rR (x := 1)) rfl) fun μ943 u944 T945 => ?_
        refine sv_aload_n (pc := 255) dX12_say_255 rfl rfl ?_
        refine gf_X12_76 (pc := 256) dX12_say_256 wF_X12_430 (A_106 hw) T945 ?_
        refine mr_iload (pc := 259) (z := z752) dX12_say_259 rfl ?_
        refine sv_aload_n (pc := 261) dX12_say_261 rfl rfl ?_
        refine gk_X12_71 (pc := 262) dX12_say_262 wF_X12_591 (A_106 hw) (u944.f (Or.inl (mAt.ne (A_155 hw) (A_106 hw) rfl)) (F935.f (A_106 hw) rfl q920)) ?_
        refine ss_156 (pc := 265) dX12_say_265 (A_156 hw) T945 (rIx (n := 400) h753 rfl) h921 fun μ946 u947 T948 => ?_
        refine sv_aload_n (pc := 266) dX12_say_266 rfl rfl ?_
        refine mr_iconst (pc := 267) (z := 2) dX12_say_267 ?_
        refine mr_sipush (pc := 268) (z := 930) dX12_say_268 (by decide) ?_
        refine mr_iload (pc := 271) (z := z752) dX12_say_271 rfl ?_
        refine mr_iadd (pc := 273) (x := 930) (y := z752) dX12_say_273 ?_
        refine mr_cVV (pc := 274) (c_X12_copy hw T948 (rW (c := 0) (d := 2099) (rR (x := 2)) rfl) (rW (c := 0) (d := 2099) (rAdd (e := 930) (f := 1329) (rR (x := 930)) h753 rfl) rfl) (u947.f (Or.inl (mAt.ne (A_156 hw) (A_126 hw) rfl)) (u944.f (Or.inl (mAt.ne (A_155 hw) (A_126 hw) rfl)) (h939.1.f vc_X12_say_3 (List.forall_mem_cons.mpr ⟨(vc_X12_say_17 h751.2.1 hq0 h746.2.1 h746.2.2.1 ht_f_e0 h1 hp1 hp2 hp3 h746.1 h753), (fun _ h => absurd h List.not_mem_nil)⟩) q930))) (vc_X12_say_18 h751.2.1 hq0 h746.2.1 h746.2.2.1 ht_f_e0 h1 hp1 hp2 hp3 h746.1 h753)) (gOk _ _ _ _ _) dX12_say_274 (tX12_copy _ _ _ _ _) ⟨wV_X12_copy, wL_X12_copy⟩ wM_X12_559 (gCX12 _ _ _ _ _) rfl (A_106 hw) rfl ⟨le_t rfl, le_t rfl⟩ ⟨le_t rfl, le_t rfl⟩ rfl (le_t rfl) fun μ949 T950 F951 h952 => ?_
        obtain ⟨z953, q954, h955⟩ := h952
        have h956 := rt7 T950 (A_126 hw) (vc_X12_say_19 h751.2.1 hq0 h746.2.1 h746.2.2.1 ht_f_e0 h1 hp1 hp2 hp3 h746.1 h753) q954
        have h957 : (-1) ≤ z953 ∧ z953 ≤ 9 := h956.2.1 (vc_X12_say_20 h751.2.1 hq0 h746.2.1 h746.2.2.1 ht_f_e0 h1 hp1 hp2 hp3 h746.1 h753)
        have q958 : μ949 126 ((40 * (930 + z752)).toNat) = z929 := q954.trans h955.2.1
        refine sv_aload_n (pc := 277) dX12_say_277 rfl rfl ?_
        refine gf_X12_77 (pc := 278) dX12_say_278 wF_X12_433 (A_106 hw) T950 ?_
        refine mr_iload (pc := 281) (z := z752) dX12_say_281 rfl ?_
        refine sv_aload_n (pc := 283) dX12_say_283 rfl rfl ?_
        refine gk_X12_71 (pc := 284) dX12_say_284 wF_X12_591 (A_106 hw) (F951.f (A_106 hw) rfl (u947.f (Or.inl (mAt.ne (A_156 hw) (A_106 hw) rfl)) (u944.f (Or.inl (mAt.ne (A_155 hw) (A_106 hw) rfl)) (F935.f (A_106 hw) rfl q920)))) ?_
        refine sv_aload_n (pc := 287) dX12_say_287 rfl rfl ?_
        refine gf_X12_10 (pc := 288) dX12_say_288 wF_X12_57 (A_106 hw) T950 ?_
        refine mr_iload_n (pc := 291) (z := p2) dX12_say_291 rfl rfl ?_
        refine la_113 (pc := 292) dX12_say_292 (A_113 hw) T950 (rIx (n := 20) hp2 rfl) fun z959 q960 h961 => ?_
        refine mr_iadd (pc := 293) (x := z919) (y := z959) dX12_say_293 ?_
        refine ss_157 (pc := 294) dX12_say_294 (A_157 hw) T950 (rIx (n := 400) h753 rfl) (rW (c := (-1)) (d := 2000001000) (rAdd (e := 0) (f := 2000001000) h921 h961 rfl) rfl) fun μ962 u963 T964 => ?_
        have I965 : EV μ962 := EV.up1 (EV.keep I852 hw ((mF.call (mF.up (mF.up (mF.call mF.refl F935 rfl) (A_155 hw) u944 rfl) (A_156 hw) u947 rfl) F951 rfl) : mF [126999, 155999, 156999] w μ847 μ949) rfl) u963 (u963.f (Or.inl (mAt.ne (A_157 hw) (A_106 hw) rfl)) (F951.f (A_106 hw) rfl (u947.f (Or.inl (mAt.ne (A_156 hw) (A_106 hw) rfl)) (u944.f (Or.inl (mAt.ne (A_155 hw) (A_106 hw) rfl)) (F935.f (A_106 hw) rfl (F849.f (A_106 hw) rfl (F756.f (A_106 hw) rfl q_f_ties))))))) (vc_X12_say_21 h751.2.1 hq0 h746.2.1 h746.2.2.1 ht_f_e0 h1 hp1 hp2 hp3 h746.1 h753) (vc_X12_say_33 hq0 h751.2.1 h928 h746.2.1 h746.2.2.1 ht_f_e0 h1 hp1 hp2 hp3 h746.1 h753 h921 h924 h927 h961)
        refine sv_aload_n (pc := 295) dX12_say_295 rfl rfl ?_
        refine gf_X12_78 (pc := 296) dX12_say_296 wF_X12_436 (A_106 hw) T964 ?_
        refine mr_iload (pc := 299) (z := z752) dX12_say_299 rfl ?_
        refine sv_aload_n (pc := 301) dX12_say_301 rfl rfl ?_
        refine gf_X12_72 (pc := 302) dX12_say_302 wF_X12_594 (A_106 hw) T964 fun z966 q967 h968 => ?_
        refine ss_158 (pc := 305) dX12_say_305 (A_158 hw) T964 (rIx (n := 400) h753 rfl) h968 fun μ969 u970 T971 => ?_
        refine sv_aload_n (pc := 306) dX12_say_306 rfl rfl ?_
        refine sv_dup (pc := 307) dX12_say_307 rfl ?_
        refine gk_X12_72 (pc := 308) dX12_say_308 wF_X12_594 (A_106 hw) (u970.f (Or.inl (mAt.ne (A_158 hw) (A_106 hw) rfl)) q967) ?_
        refine mr_iconst (pc := 311) (z := 1) dX12_say_311 ?_
        refine mr_iadd (pc := 312) (x := z966) (y := 1) dX12_say_312 ?_
        refine mr_wrap fun z972 h973 => ?_
        refine pf_X12_72 (pc := 313) dX12_say_313 wF_X12_594 (A_106 hw) T971 h973 fun μ974 u975 T976 => ?_
        exact mr_vret dX12_say_316 rfl (le_t rfl) (le_t rfl) T976 (mF.up (mF.up (mF.up (mF.call (mF.up (mF.up (mF.call (mF.call (mF.call mF.refl F756 rfl) F849 rfl) F935 rfl) (A_155 hw) u944 rfl) (A_156 hw) u947 rfl) F951 rfl) (A_157 hw) u963 rfl) (A_158 hw) u970 rfl) (A_106 hw) u975 rfl) ⟨(mG.upO (mG.upO (mG.upO (mG.call (mG.upO (mG.upO (mG.call (mG.call (mG.call mG.refl h760.1 (List.forall_mem_cons.mpr ⟨⟨_, List.mem_cons_self, vc_X12_say_23⟩, (fun _ h => absurd h List.not_mem_nil)⟩)) G850 (List.forall_mem_cons.mpr ⟨⟨_, List.mem_cons_self, vc_X12_say_24⟩, (List.forall_mem_cons.mpr ⟨⟨_, (List.mem_cons_of_mem _ List.mem_cons_self), vc_X12_say_25⟩, (fun _ h => absurd h List.not_mem_nil)⟩)⟩)) h939.1 (List.forall_mem_cons.mpr ⟨⟨_, (List.mem_cons_of_mem _ List.mem_cons_self), (vc_X12_say_26 h751.2.1 hq0 h746.2.1 h746.2.2.1 ht_f_e0 h1 hp1 hp2 hp3 h746.1 h753)⟩, (fun _ h => absurd h List.not_mem_nil)⟩)) u944 rfl) u947 rfl) h955.1 (List.forall_mem_cons.mpr ⟨⟨_, (List.mem_cons_of_mem _ List.mem_cons_self), (vc_X12_say_27 h751.2.1 hq0 h746.2.1 h746.2.2.1 ht_f_e0 h1 hp1 hp2 hp3 h746.1 h753)⟩, (fun _ h => absurd h List.not_mem_nil)⟩)) u963 rfl) u970 rfl) u975 rfl), (G1.keep I851 hw ((mF.up (mF.up (mF.up (mF.call (mF.up (mF.up (mF.call mF.refl F935 rfl) (A_155 hw) u944 rfl) (A_156 hw) u947 rfl) F951 rfl) (A_157 hw) u963 rfl) (A_158 hw) u970 rfl) (A_106 hw) u975 rfl) : mF [106072, 126999, 155999, 156999, 157999, 158999] w μ847 μ974) rfl rfl ((mG.upO (mG.upO (mG.upO (mG.call (mG.upO (mG.upO (mG.call mG.refl h939.1 (List.forall_mem_cons.mpr ⟨⟨_, List.mem_cons_self, (vc_X12_say_28 h751.2.1 hq0 h746.2.1 h746.2.2.1 ht_f_e0 h1 hp1 hp2 hp3 h746.1 h753)⟩, (fun _ h => absurd h List.not_mem_nil)⟩)) u944 rfl) u947 rfl) h955.1 (List.forall_mem_cons.mpr ⟨⟨_, (List.mem_cons_of_mem _ List.mem_cons_self), (vc_X12_say_29 h751.2.1 hq0 h746.2.1 h746.2.2.1 ht_f_e0 h1 hp1 hp2 hp3 h746.1 h753)⟩, (fun _ h => absurd h List.not_mem_nil)⟩)) u963 rfl) u970 rfl) u975 rfl) : mG [((40 * (530 + z752)), ((40 * (530 + z752)) + 40)), ((40 * (930 + z752)), ((40 * (930 + z752)) + 40))] μ847 μ974) (List.forall_mem_cons.mpr ⟨(vc_X12_say_31 h751.2.1 hq0 h746.2.1 h746.2.2.1 ht_f_e0 h1 hp1 hp2 hp3 h746.1 h753), (List.forall_mem_cons.mpr ⟨(vc_X12_say_30 h751.2.1 hq0 h746.2.1 h746.2.2.1 ht_f_e0 h1 hp1 hp2 hp3 h746.1 h753), (fun _ h => absurd h List.not_mem_nil)⟩)⟩)), (EV.keep I965 hw ((mF.up (mF.up mF.refl (A_158 hw) u970 rfl) (A_106 hw) u975 rfl) : mF [106072, 158999] w μ962 μ974) rfl), trivial⟩
      refine sv_aload_n (pc := 183) dX12_say_183 rfl rfl ?_
      refine gf_X12_79 (pc := 184) dX12_say_184 wF_X12_439 (A_106 hw) T848 ?_
      refine mr_iload (pc := 187) (z := z752) dX12_say_187 rfl ?_
      refine la_159 (pc := 189) dX12_say_189 (A_159 hw) T848 (rIx (n := 400) h753 rfl) fun z977 q978 h979 => ?_
      refine mr_if_ge (pc := 190) (tgt := 235) dX12_say_190 (by decide) (r32 h979 rfl) (fun h996 => ?_) (fun h996 => ?_)
      · have h997 : 0 ≤ z977 ∧ z977 ≤ 2000001000 := (vc_X12_say_34 h996 h979)
        exact mr_vret dX12_say_235 rfl (le_t rfl) (le_t rfl) T848 (mF.call (mF.call mF.refl F756 rfl) F849 rfl) ⟨(mG.call (mG.call mG.refl h760.1 (List.forall_mem_cons.mpr ⟨⟨_, List.mem_cons_self, vc_X12_say_23⟩, (fun _ h => absurd h List.not_mem_nil)⟩)) G850 (List.forall_mem_cons.mpr ⟨⟨_, List.mem_cons_self, vc_X12_say_24⟩, (List.forall_mem_cons.mpr ⟨⟨_, (List.mem_cons_of_mem _ List.mem_cons_self), vc_X12_say_25⟩, (fun _ h => absurd h List.not_mem_nil)⟩)⟩)), I851, I852, trivial⟩
      have h998 : (-1) ≤ z977 ∧ z977 ≤ (-1) := (vc_X12_say_35 h996 h979)
      refine sv_aload_n (pc := 193) dX12_say_193 rfl rfl ?_
      refine gf_X12_79 (pc := 194) dX12_say_194 wF_X12_439 (A_106 hw) T848 ?_
      refine mr_iload (pc := 197) (z := z752) dX12_say_197 rfl ?_
      refine sv_aload_n (pc := 199) dX12_say_199 rfl rfl ?_
      refine gf_X12_76 (pc := 200) dX12_say_200 wF_X12_430 (A_106 hw) T848 ?_
      refine mr_iload (pc := 203) (z := z752) dX12_say_203 rfl ?_
      refine lk_156 (pc := 205) dX12_say_205 (A_156 hw) (rIx (n := 400) h753 rfl) q923 ?_
      refine sv_aload_n (pc := 206) dX12_say_206 rfl rfl ?_
      refine gf_X12_11 (pc := 207) dX12_say_207 wF_X12_60 (A_106 hw) T848 ?_
      refine mr_iload_n (pc := 210) (z := p2) dX12_say_210 rfl rfl ?_
      refine lk_114 (pc := 211) dX12_say_211 (A_114 hw) (rIx (n := 20) hp2 rfl) q926 ?_
      refine mr_iadd (pc := 212) (x := z922) (y := z925) dX12_say_212 ?_
      refine ss_159 (pc := 213) dX12_say_213 (A_159 hw) T848 (rIx (n := 400) h753 rfl) (rW (c := (-1)) (d := 2000001000) (rAdd (e := 0) (f := 2000001000) h924 h927 rfl) rfl) fun μ999 u1000 T1001 => ?_
      have I1002 : EV μ999 := EV.up2 I852 u1000 (u1000.f (Or.inl (mAt.ne (A_159 hw) (A_106 hw) rfl)) (F849.f (A_106 hw) rfl (F756.f (A_106 hw) rfl q_f_ties))) (vc_X12_say_21 h751.2.1 hq0 h746.2.1 h746.2.2.1 ht_f_e0 h1 hp1 hp2 hp3 h746.1 h753) (vc_X12_say_36 hq0 h751.2.1 h928 h746.2.1 h746.2.2.1 ht_f_e0 h1 hp1 hp2 hp3 h746.1 h753 h921 h924 h927)
      refine sv_aload_n (pc := 214) dX12_say_214 rfl rfl ?_
      refine gf_X12_80 (pc := 215) dX12_say_215 wF_X12_442 (A_106 hw) T1001 ?_
      refine mr_iload (pc := 218) (z := z752) dX12_say_218 rfl ?_
      refine sv_aload_n (pc := 220) dX12_say_220 rfl rfl ?_
      refine gf_X12_72 (pc := 221) dX12_say_221 wF_X12_594 (A_106 hw) T1001 fun z1003 q1004 h1005 => ?_
      refine ss_160 (pc := 224) dX12_say_224 (A_160 hw) T1001 (rIx (n := 400) h753 rfl) h1005 fun μ1006 u1007 T1008 => ?_
      refine sv_aload_n (pc := 225) dX12_say_225 rfl rfl ?_
      refine sv_dup (pc := 226) dX12_say_226 rfl ?_
      refine gk_X12_72 (pc := 227) dX12_say_227 wF_X12_594 (A_106 hw) (u1007.f (Or.inl (mAt.ne (A_160 hw) (A_106 hw) rfl)) q1004) ?_
      refine mr_iconst (pc := 230) (z := 1) dX12_say_230 ?_
      refine mr_iadd (pc := 231) (x := z1003) (y := 1) dX12_say_231 ?_
      refine mr_wrap fun z1009 h1010 => ?_
      refine pf_X12_72 (pc := 232) dX12_say_232 wF_X12_594 (A_106 hw) T1008 h1010 fun μ1011 u1012 T1013 => ?_
      exact mr_vret dX12_say_235 rfl (le_t rfl) (le_t rfl) T1013 (mF.up (mF.up (mF.up (mF.call (mF.call mF.refl F756 rfl) F849 rfl) (A_159 hw) u1000 rfl) (A_160 hw) u1007 rfl) (A_106 hw) u1012 rfl) ⟨(mG.upO (mG.upO (mG.upO (mG.call (mG.call mG.refl h760.1 (List.forall_mem_cons.mpr ⟨⟨_, List.mem_cons_self, vc_X12_say_23⟩, (fun _ h => absurd h List.not_mem_nil)⟩)) G850 (List.forall_mem_cons.mpr ⟨⟨_, List.mem_cons_self, vc_X12_say_24⟩, (List.forall_mem_cons.mpr ⟨⟨_, (List.mem_cons_of_mem _ List.mem_cons_self), vc_X12_say_25⟩, (fun _ h => absurd h List.not_mem_nil)⟩)⟩)) u1000 rfl) u1007 rfl) u1012 rfl), (G1.keep I851 hw ((mF.up (mF.up (mF.up mF.refl (A_159 hw) u1000 rfl) (A_160 hw) u1007 rfl) (A_106 hw) u1012 rfl) : mF [106072, 159999, 160999] w μ847 μ1011) rfl rfl ((mG.upO (mG.upO (mG.upO mG.refl u1000 rfl) u1007 rfl) u1012 rfl) : mG [] μ847 μ1011) (fun _ h => absurd h List.not_mem_nil)), (EV.keep I1002 hw ((mF.up (mF.up mF.refl (A_160 hw) u1007 rfl) (A_106 hw) u1012 rfl) : mF [106072, 160999] w μ999 μ1011) rfl), trivial⟩
    have h1014 : 1 ≤ z859 ∧ z859 ≤ 1 := (vc_X12_say_37 h860 h858.1)
    exact mr_vret dX12_say_151 rfl (le_t rfl) (le_t rfl) T848 (mF.call (mF.call mF.refl F756 rfl) F849 rfl) ⟨(mG.call (mG.call mG.refl h760.1 (List.forall_mem_cons.mpr ⟨⟨_, List.mem_cons_self, vc_X12_say_23⟩, (fun _ h => absurd h List.not_mem_nil)⟩)) G850 (List.forall_mem_cons.mpr ⟨⟨_, List.mem_cons_self, vc_X12_say_24⟩, (List.forall_mem_cons.mpr ⟨⟨_, (List.mem_cons_of_mem _ List.mem_cons_self), vc_X12_say_25⟩, (fun _ h => absurd h List.not_mem_nil)⟩)⟩)), I851, I852, trivial⟩
  refine mr_icmp_eq (pc := 39) (tgt := 137) dX12_say_39 (by decide) (r32 h768 rfl) (r32 (rR (x := (-99999999))) rfl) (fun h1015 => ?_) (fun h1015 => ?_)
  · have h1016 : (-99999999) ≤ z765 ∧ z765 ≤ (-99999999) := (vc_X12_say_38 h1015 h773 h768 h767 h772)
    refine mr_lvS (lv' := [(0, .ref 106), (2, iv p2), (5, iv z752)]) (List.forall_mem_cons.mpr ⟨rfl, List.forall_mem_cons.mpr ⟨rfl, List.forall_mem_cons.mpr ⟨rfl, fun _ h => absurd h List.not_mem_nil⟩⟩⟩) ?_
    exact J854 μ754 T755 mF.refl mG.refl (G1.keep hIG1 hw ((mF.call mF.refl F756 rfl) : mF [126999] w μ μ754) rfl rfl ((mG.call mG.refl h760.1 (List.forall_mem_cons.mpr ⟨⟨_, List.mem_cons_self, vc_X12_say_9⟩, (fun _ h => absurd h List.not_mem_nil)⟩)) : mG [((40 * 2), ((40 * 2) + 1))] μ μ754) (List.forall_mem_cons.mpr ⟨vc_X12_say_10, (fun _ h => absurd h List.not_mem_nil)⟩)) (EV.keep hIEV hw ((mF.call mF.refl F756 rfl) : mF [126999] w μ μ754) rfl) (PK.keep hIPK hw ((mF.call mF.refl F756 rfl) : mF [126999] w μ μ754) rfl)
  have h1017 : (-4) ≤ z765 ∧ z765 ≤ 19 := (vc_X12_say_39 h1015 h773 h768 h767 h772)
  refine sv_aload_n (pc := 42) dX12_say_42 rfl rfl ?_
  refine gf_X12_81 (pc := 43) dX12_say_43 wF_X12_445 (A_106 hw) T755 ?_
  refine mr_iload (pc := 46) (z := ((10 * p1) + p3)) dX12_say_46 rfl ?_
  refine lk_161 (pc := 48) dX12_say_48 (A_161 hw) (rIx (n := 100) (rAdd (e := 0) (f := 99) (rMulL (n := 10) (e := 0) (f := 90) hp1 rfl) hp3 rfl) rfl) q766 ?_
  refine mr_iload_n (pc := 49) (z := p2) dX12_say_49 rfl rfl ?_
  refine mr_icmp_eq (pc := 50) (tgt := 137) dX12_say_50 (by decide) (r32 h1017 rfl) (r32 hp2 rfl) (fun h1018 => ?_) (fun h1018 => ?_)
  · have h1019 : 0 ≤ z765 ∧ z765 ≤ 19 := (vc_X12_say_40 h1018 hq0 h751.2.1 h773 h1015 h1 hp2 hp3 h746.1 h753 h1017 h767 h772)
    refine mr_lvS (lv' := [(0, .ref 106), (2, iv p2), (5, iv z752)]) (List.forall_mem_cons.mpr ⟨rfl, List.forall_mem_cons.mpr ⟨rfl, List.forall_mem_cons.mpr ⟨rfl, fun _ h => absurd h List.not_mem_nil⟩⟩⟩) ?_
    exact J854 μ754 T755 mF.refl mG.refl (G1.keep hIG1 hw ((mF.call mF.refl F756 rfl) : mF [126999] w μ μ754) rfl rfl ((mG.call mG.refl h760.1 (List.forall_mem_cons.mpr ⟨⟨_, List.mem_cons_self, vc_X12_say_9⟩, (fun _ h => absurd h List.not_mem_nil)⟩)) : mG [((40 * 2), ((40 * 2) + 1))] μ μ754) (List.forall_mem_cons.mpr ⟨vc_X12_say_10, (fun _ h => absurd h List.not_mem_nil)⟩)) (EV.keep hIEV hw ((mF.call mF.refl F756 rfl) : mF [126999] w μ μ754) rfl) (PK.keep hIPK hw ((mF.call mF.refl F756 rfl) : mF [126999] w μ μ754) rfl)
  refine sv_aload_n (pc := 53) dX12_say_53 rfl rfl ?_
  refine mr_bipush (pc := 54) (z := 30) dX12_say_54 (by decide) ?_
  refine mr_iload (pc := 56) (z := ((10 * p1) + p3)) dX12_say_56 rfl ?_
  refine mr_iadd (pc := 58) (x := 30) (y := ((10 * p1) + p3)) dX12_say_58 ?_
  refine mr_iconst (pc := 59) (z := 2) dX12_say_59 ?_
  refine mr_cVV (pc := 60) (c_X12_copy hw T755 (rW (c := 0) (d := 2099) (rAdd (e := 30) (f := 129) (rR (x := 30)) (rAdd (e := 0) (f := 99) (rMulL (n := 10) (e := 0) (f := 90) hp1 rfl) hp3 rfl) rfl) rfl) (rW (c := 0) (d := 2099) (rR (x := 2)) rfl) q770 (vc_X12_say_41 hq1 h746.2.1 h746.2.2.1 h751.2.1 hq0 h1018 ht_f_e0 ht_f_e1 h1 hp1 hp2 hp3 h746.1 h753 h1017 h767)) (gOk _ _ _ _ _) dX12_say_60 (tX12_copy _ _ _ _ _) ⟨wV_X12_copy, wL_X12_copy⟩ wM_X12_559 (gCX12 _ _ _ _ _) rfl (A_106 hw) rfl ⟨le_t rfl, le_t rfl⟩ ⟨le_t rfl, le_t rfl⟩ rfl (le_t rfl) fun μ1020 T1021 F1022 h1023 => ?_
  obtain ⟨z1024, q1025, h1026⟩ := h1023
  have h1027 := rt7 T1021 (A_126 hw) vc_X12_say_3 q1025
  have h1028 : (-1) ≤ z1024 ∧ z1024 ≤ 9 := h1027.2.1 vc_X12_say_4
  have q1029 : μ1020 126 (((40 * 2) : Int).toNat) = z769 := q1025.trans h1026.2.1
  refine sv_aload_n (pc := 63) dX12_say_63 rfl rfl ?_
  refine gf_X12_32 (pc := 64) dX12_say_64 wF_X12_148 (A_106 hw) T1021 ?_
  refine mr_bipush (pc := 67) (z := 81) dX12_say_67 (by decide) ?_
  refine mr_bipush (pc := 69) (z := 100) dX12_say_69 (by decide) ?_
  refine ss_126 (pc := 71) dX12_say_71 (A_126 hw) T1021 (rIx (n := 84000) (rR (x := 81)) rfl) vc_X12_say_42 fun μ1030 u1031 T1032 => ?_
  refine sv_aload_n (pc := 72) dX12_say_72 rfl rfl ?_
  refine mr_iconst (pc := 73) (z := 2) dX12_say_73 ?_
  refine mr_iload_n (pc := 74) (z := p1) dX12_say_74 rfl rfl ?_
  refine mr_cVI (pc := 75) (c_X12_front hw T1032 (rW (c := 0) (d := 2099) (rR (x := 2)) rfl) (rW (c := (-2147483648)) (d := 2147483647) hp1 rfl)) (gOk _ _ _ _ _) dX12_say_75 (tX12_front _ _ _ _ _) ⟨wV_X12_front, wL_X12_front⟩ wM_X12_408 (gCX12 _ _ _ _ _) rfl (A_106 hw) rfl ⟨le_t rfl, le_t rfl⟩ ⟨le_t rfl, le_t rfl⟩ rfl (le_t rfl) fun z1037 μ1033 T1034 F1035 h1036 => ?_
  have J1074 : ∀ (z1065 : Int) (μ1067 : mM), (mT w μ1067) → (mF [106026, 106027, 106028, 106029, 106030, 106031, 126999, 151999, 152999, 153999] w μ1033 μ1067) → (mG [(80, 120), (21200, 53200)] μ1033 μ1067) → ((0 ≤ z1065 ∧ z1065 ≤ 1)) → (G1 μ1067) → (EV μ1067) → (PK μ1067) → sV (gG l D c H0 sa) mX12_say (sRm 7 0 0) (sZ (gG l D c H0 sa) 0 0 (qV w [106026, 106027, 106028, 106029, 106030, 106031, 106072, 126999, 151999, 152999, 153999, 155999, 156999, 157999, 158999, 159999, 160999] μ (fun μ1 => mG [(80, 120), (21200, 53200)] μ μ1 ∧ G1 μ1 ∧ EV μ1 ∧ True))) 116 [(0, .ref 106), (2, iv p2), (5, iv z752)] [iv z1065] (mk w μ1067) 0 0 := by
    intro z1065 μ1067 T1068 F1069 G1070 h1066 I1071 I1072 I1073
    refine mr_istore (pc := 116) (lv' := [(7, iv z1065), (0, .ref 106), (2, iv p2), (5, iv z752)]) dX12_say_116 (by decide) rfl ?_
    refine sv_aload_n (pc := 118) dX12_say_118 rfl rfl ?_
    refine gf_X12_32 (pc := 119) dX12_say_119 wF_X12_148 (A_106 hw) T1068 ?_
    refine mr_bipush (pc := 122) (z := 81) dX12_say_122 (by decide) ?_
    refine mr_bipush (pc := 124) (z := 100) dX12_say_124 (by decide) ?_
    refine ss_126 (pc := 126) dX12_say_126 (A_126 hw) T1068 (rIx (n := 84000) (rR (x := 81)) rfl) vc_X12_say_42 fun μ1075 u1076 T1077 => ?_
    refine mr_iload (pc := 127) (z := z1065) dX12_say_127 rfl ?_
    refine mr_if_ne (pc := 129) (tgt := 137) dX12_say_129 (by decide) (r32 h1066 rfl) (fun h1078 => ?_) (fun h1078 => ?_)
    · have h1079 : 1 ≤ z1065 ∧ z1065 ≤ 1 := (vc_X12_say_43 h1078 h1066)
      refine mr_lvS (lv' := [(0, .ref 106), (2, iv p2), (5, iv z752)]) (List.forall_mem_cons.mpr ⟨rfl, List.forall_mem_cons.mpr ⟨rfl, List.forall_mem_cons.mpr ⟨rfl, fun _ h => absurd h List.not_mem_nil⟩⟩⟩) ?_
      exact J854 μ1075 T1077 (mF.up (mF.call (mF.call (mF.up (mF.call mF.refl F1022 rfl) (A_126 hw) u1031 rfl) F1035 rfl) F1069 rfl) (A_126 hw) u1076 rfl) (mG.up (mG.call (mG.call (mG.up (mG.call mG.refl h1026.1 (List.forall_mem_cons.mpr ⟨⟨_, List.mem_cons_self, vc_X12_say_44⟩, (fun _ h => absurd h List.not_mem_nil)⟩)) u1031 List.mem_cons_self vc_X12_say_45) h1036.2.1 (List.forall_mem_cons.mpr ⟨⟨_, List.mem_cons_self, vc_X12_say_46⟩, (fun _ h => absurd h List.not_mem_nil)⟩)) G1070 (List.forall_mem_cons.mpr ⟨⟨_, List.mem_cons_self, vc_X12_say_24⟩, (List.forall_mem_cons.mpr ⟨⟨_, (List.mem_cons_of_mem _ List.mem_cons_self), vc_X12_say_25⟩, (fun _ h => absurd h List.not_mem_nil)⟩)⟩)) u1076 List.mem_cons_self vc_X12_say_45) (G1.keep I1071 hw ((mF.up mF.refl (A_126 hw) u1076 rfl) : mF [126999] w μ1067 μ1075) rfl rfl ((mG.up mG.refl u1076 List.mem_cons_self vc_X12_say_47) : mG [(81, (81 + 1))] μ1067 μ1075) (List.forall_mem_cons.mpr ⟨vc_X12_say_48, (fun _ h => absurd h List.not_mem_nil)⟩)) (EV.keep I1072 hw ((mF.up mF.refl (A_126 hw) u1076 rfl) : mF [126999] w μ1067 μ1075) rfl) (PK.keep I1073 hw ((mF.up mF.refl (A_126 hw) u1076 rfl) : mF [126999] w μ1067 μ1075) rfl)
    have h1080 : 0 ≤ z1065 ∧ z1065 ≤ 0 := (vc_X12_say_49 h1078 h1066)
    refine sv_aload_n (pc := 132) dX12_say_132 rfl rfl ?_
    refine mr_iconst (pc := 133) (z := 2) dX12_say_133 ?_
    refine mr_cVV (pc := 134) (c_X12_nothing hw T1077 (rW (c := 0) (d := 2099) (rR (x := 2)) rfl)) (gOk _ _ _ _ _) dX12_say_134 (tX12_nothing _ _ _ _ _) ⟨wV_X12_nothing, wL_X12_nothing⟩ wM_X12_539 (gCX12 _ _ _ _ _) rfl (A_106 hw) rfl ⟨le_t rfl, le_t rfl⟩ ⟨le_t rfl, le_t rfl⟩ rfl (le_t rfl) fun μ1081 T1082 F1083 h1084 => ?_
    obtain ⟨z1085, q1086, h1087⟩ := h1084
    have h1088 := rt7 T1082 (A_126 hw) vc_X12_say_3 q1086
    have h1089 : (-1) ≤ z1085 ∧ z1085 ≤ 9 := h1088.2.1 vc_X12_say_4
    have q1090 : μ1081 126 (((40 * 2) : Int).toNat) = (-1) := q1086.trans h1087.2.1
    have h1091 : (-1) ≤ z1085 ∧ z1085 ≤ (-1) := (vc_X12_say_50 h1087.2.1 h1089)
    refine mr_lvS (lv' := [(0, .ref 106), (2, iv p2), (5, iv z752)]) (List.forall_mem_cons.mpr ⟨rfl, List.forall_mem_cons.mpr ⟨rfl, List.forall_mem_cons.mpr ⟨rfl, fun _ h => absurd h List.not_mem_nil⟩⟩⟩) ?_
    exact J854 μ1081 T1082 (mF.call (mF.up (mF.call (mF.call (mF.up (mF.call mF.refl F1022 rfl) (A_126 hw) u1031 rfl) F1035 rfl) F1069 rfl) (A_126 hw) u1076 rfl) F1083 rfl) (mG.call (mG.up (mG.call (mG.call (mG.up (mG.call mG.refl h1026.1 (List.forall_mem_cons.mpr ⟨⟨_, List.mem_cons_self, vc_X12_say_44⟩, (fun _ h => absurd h List.not_mem_nil)⟩)) u1031 List.mem_cons_self vc_X12_say_45) h1036.2.1 (List.forall_mem_cons.mpr ⟨⟨_, List.mem_cons_self, vc_X12_say_46⟩, (fun _ h => absurd h List.not_mem_nil)⟩)) G1070 (List.forall_mem_cons.mpr ⟨⟨_, List.mem_cons_self, vc_X12_say_24⟩, (List.forall_mem_cons.mpr ⟨⟨_, (List.mem_cons_of_mem _ List.mem_cons_self), vc_X12_say_25⟩, (fun _ h => absurd h List.not_mem_nil)⟩)⟩)) u1076 List.mem_cons_self vc_X12_say_45) h1087.1 (List.forall_mem_cons.mpr ⟨⟨_, List.mem_cons_self, vc_X12_say_23⟩, (fun _ h => absurd h List.not_mem_nil)⟩)) (G1.keep I1071 hw ((mF.call (mF.up mF.refl (A_126 hw) u1076 rfl) F1083 rfl) : mF [126999] w μ1067 μ1081) rfl rfl ((mG.call (mG.up mG.refl u1076 List.mem_cons_self vc_X12_say_47) h1087.1 (List.forall_mem_cons.mpr ⟨⟨_, (List.mem_cons_of_mem _ List.mem_cons_self), vc_X12_say_9⟩, (fun _ h => absurd h List.not_mem_nil)⟩)) : mG [(81, (81 + 1)), ((40 * 2), ((40 * 2) + 1))] μ1067 μ1081) (List.forall_mem_cons.mpr ⟨vc_X12_say_48, (List.forall_mem_cons.mpr ⟨vc_X12_say_10, (fun _ h => absurd h List.not_mem_nil)⟩)⟩)) (EV.keep I1072 hw ((mF.call (mF.up mF.refl (A_126 hw) u1076 rfl) F1083 rfl) : mF [126999] w μ1067 μ1081) rfl) (PK.keep I1073 hw ((mF.call (mF.up mF.refl (A_126 hw) u1076 rfl) F1083 rfl) : mF [126999] w μ1067 μ1081) rfl)
  refine mr_if_eq (pc := 78) (tgt := 115) dX12_say_78 (by decide) (r32 h1036.1 rfl) (fun h1092 => ?_) (fun h1092 => ?_)
  · have h1093 : 0 ≤ z1037 ∧ z1037 ≤ 0 := (vc_X12_say_51 h1092 h1036.1)
    refine mr_iconst (pc := 115) (z := 0) dX12_say_115 ?_
    refine mr_lvS (lv' := [(0, .ref 106), (2, iv p2), (5, iv z752)]) (List.forall_mem_cons.mpr ⟨rfl, List.forall_mem_cons.mpr ⟨rfl, List.forall_mem_cons.mpr ⟨rfl, fun _ h => absurd h List.not_mem_nil⟩⟩⟩) ?_
    exact J1074 0 μ1033 T1034 mF.refl mG.refl (rW (c := 0) (d := 1) (rR (x := 0)) rfl) (G1.keep hIG1 hw ((mF.call (mF.up (mF.call (mF.call mF.refl F756 rfl) F1022 rfl) (A_126 hw) u1031 rfl) F1035 rfl) : mF [126999] w μ μ1033) rfl rfl ((mG.call (mG.up (mG.call (mG.call mG.refl h760.1 (List.forall_mem_cons.mpr ⟨⟨_, List.mem_cons_self, vc_X12_say_9⟩, (fun _ h => absurd h List.not_mem_nil)⟩)) h1026.1 (List.forall_mem_cons.mpr ⟨⟨_, (List.mem_cons_of_mem _ List.mem_cons_self), vc_X12_say_52⟩, (fun _ h => absurd h List.not_mem_nil)⟩)) u1031 (List.mem_cons_of_mem _ List.mem_cons_self) vc_X12_say_53) h1036.2.1 (List.forall_mem_cons.mpr ⟨⟨_, (List.mem_cons_of_mem _ List.mem_cons_self), vc_X12_say_54⟩, (fun _ h => absurd h List.not_mem_nil)⟩)) : mG [((40 * 2), ((40 * 2) + 1)), ((40 * 2), ((40 * 2) + 40)), (81, (81 + 1)), (((40 * 2) + 1), ((40 * 2) + 40))] μ μ1033) (List.forall_mem_cons.mpr ⟨vc_X12_say_10, (List.forall_mem_cons.mpr ⟨vc_X12_say_56, (List.forall_mem_cons.mpr ⟨vc_X12_say_48, (List.forall_mem_cons.mpr ⟨vc_X12_say_55, (fun _ h => absurd h List.not_mem_nil)⟩)⟩)⟩)⟩)) (EV.keep hIEV hw ((mF.call (mF.up (mF.call (mF.call mF.refl F756 rfl) F1022 rfl) (A_126 hw) u1031 rfl) F1035 rfl) : mF [126999] w μ μ1033) rfl) (PK.keep hIPK hw ((mF.call (mF.up (mF.call (mF.call mF.refl F756 rfl) F1022 rfl) (A_126 hw) u1031 rfl) F1035 rfl) : mF [126999] w μ μ1033) rfl)
  have h1094 : 1 ≤ z1037 ∧ z1037 ≤ 1 := (vc_X12_say_57 h1092 h1036.1)
  refine sv_aload_n (pc := 81) dX12_say_81 rfl rfl ?_
  refine sv_aload_n (pc := 82) dX12_say_82 rfl rfl ?_
  refine gf_X12_12 (pc := 83) dX12_say_83 wF_X12_63 (A_106 hw) T1034 ?_
  refine mr_iconst (pc := 86) (z := 4) dX12_say_86 ?_
  refine mr_iload_n (pc := 87) (z := p2) dX12_say_87 rfl rfl ?_
  refine mr_imul (pc := 88) (x := 4) (y := p2) dX12_say_88 ?_
  refine mr_iconst (pc := 89) (z := 2) dX12_say_89 ?_
  refine mr_iload (pc := 90) (z := z747) dX12_say_90 rfl ?_
  refine mr_imul (pc := 92) (x := 2) (y := z747) dX12_say_92 ?_
  refine mr_iadd (pc := 93) (x := (4 * p2)) (y := (2 * z747)) dX12_say_93 ?_
  refine mr_iconst (pc := 94) (z := 1) dX12_say_94 ?_
  refine mr_iadd (pc := 95) (x := ((4 * p2) + (2 * z747))) (y := 1) dX12_say_95 ?_
  refine la_115 (pc := 96) dX12_say_96 (A_115 hw) T1034 (rIx (n := 80) (rAdd (e := 1) (f := 79) (rAdd (e := 0) (f := 78) (rMulL (n := 4) (e := 0) (f := 76) hp2 rfl) (rMulL (n := 2) (e := 0) (f := 2) h746.1 rfl) rfl) (rR (x := 1)) rfl) rfl) fun z1095 q1096 h1097 => ?_
  have h1098 : (-99999999) ≤ z1095 ∧ z1095 ≤ 11 := (vc_X12_say_58 h1097)
  obtain ⟨z1099, q1100⟩ : ∃ z, μ1033 106 39 = z := ⟨_, rfl⟩
  have h1101 : (0 ≤ z1099 ∧ z1099 ≤ 12) := by rw [← q1100]; exact T1034 106 106 (A_106 hw) 39
  have h1102 : z1095 = -99999999 ∨ (0 ≤ z1095 ∧ z1095 < z1099) := PK.pol (PK.keep hIPK hw ((mF.call (mF.up (mF.call (mF.call mF.refl F756 rfl) F1022 rfl) (A_126 hw) u1031 rfl) F1035 rfl) : mF [126999] w μ μ1033) rfl) (rIx (n := 80) (rAdd (e := 1) (f := 79) (rAdd (e := 0) (f := 78) (rMulL (n := 4) (e := 0) (f := 76) hp2 rfl) (rMulL (n := 2) (e := 0) (f := 2) h746.1 rfl) rfl) (rR (x := 1)) rfl) rfl) q1096 q1100 (F1035.f (A_106 hw) rfl (u1031.f (Or.inl (mAt.ne (A_126 hw) (A_106 hw) rfl)) (F1022.f (A_106 hw) rfl (F756.f (A_106 hw) rfl q_f_ties)))) (vc_X12_say_59 hq0 h746.2.1 h746.2.2.1 h751.2.1 h1018 hq1 h773 h1015 ht_f_e0 ht_f_e1 h1 hp1 hp2 hp3 h746.1 h753 h1017 h767 h772)
  refine mr_iconst (pc := 97) (z := 2) dX12_say_97 ?_
  refine mr_iload_n (pc := 98) (z := p1) dX12_say_98 rfl rfl ?_
  refine sv_aload_n (pc := 99) dX12_say_99 rfl rfl ?_
  refine mr_iload_n (pc := 100) (z := p2) dX12_say_100 rfl rfl ?_
  refine mr_iload_n (pc := 101) (z := p1) dX12_say_101 rfl rfl ?_
  refine mr_cVP (pc := 102) (c_X12_partnerOf_pt hw T1034 hp2 (rW (c := (-2147483648)) (d := 2147483647) hp1 rfl) (F1035.f (A_110 hw) rfl (u1031.f (Or.inl (mAt.ne (A_126 hw) (A_110 hw) rfl)) (F1022.f (A_110 hw) rfl (F756.f (A_110 hw) rfl q_f_e0)))) (F1035.f (A_110 hw) rfl (u1031.f (Or.inl (mAt.ne (A_126 hw) (A_110 hw) rfl)) (F1022.f (A_110 hw) rfl (F756.f (A_110 hw) rfl q_f_e1))))) (gOk _ _ _ _ _) dX12_say_102 (tX12_partnerOf _ _ _ _ _) ⟨wV_X12_partnerOf, wL_X12_partnerOf⟩ wM_X12_553 (gCX12 _ _ _ _ _) rfl (A_106 hw) rfl ⟨le_t rfl, le_t rfl⟩ ⟨le_t rfl, le_t rfl⟩ rfl (le_t rfl) fun z1107 h1106 => ?_
  refine mr_cVI (pc := 105) (c_X12_through hw T1034 (rW (c := (-2147483648)) (d := 2147483647) h1098 rfl) (rW (c := 0) (d := 2099) (rR (x := 2)) rfl) (rW (c := (-2147483648)) (d := 2147483647) hp1 rfl) (rW (c := (-2147483648)) (d := 2147483647) h1106.1 rfl) hp2 (F1035.f (A_110 hw) rfl (u1031.f (Or.inl (mAt.ne (A_126 hw) (A_110 hw) rfl)) (F1022.f (A_110 hw) rfl (F756.f (A_110 hw) rfl q_f_e0)))) (F1035.f (A_110 hw) rfl (u1031.f (Or.inl (mAt.ne (A_126 hw) (A_110 hw) rfl)) (F1022.f (A_110 hw) rfl (F756.f (A_110 hw) rfl q_f_e1)))) (F1035.f (A_106 hw) rfl (u1031.f (Or.inl (mAt.ne (A_126 hw) (A_106 hw) rfl)) (F1022.f (A_106 hw) rfl (F756.f (A_106 hw) rfl q_f_ties)))) (h1036.2.1.f vc_X12_say_3 (List.forall_mem_cons.mpr ⟨vc_X12_say_61, (fun _ h => absurd h List.not_mem_nil)⟩) (u1031.f (Or.inr vc_X12_say_60) q1029)) q1100 (vc_X12_say_62 hq0 h751.2.1 h1018 h746.2.1 h746.2.2.1 h773 h1015 ht_f_e0 h1 hp1 hp2 hp3 h746.1 h753 h1017 h767 h772) (vc_X12_say_63 hq1 h746.2.1 h746.2.2.1 h1106.2.1 h751.2.1 ht_f_e0 ht_f_e1 hp1 hp2 hp3 h1106.1 h746.1 h753) (vc_X12_say_64 h773 h1026.2.1 h1015 h1018 hp2 h1028 h1017 h767 h772) (vc_X12_say_65 h1102 h1098 h1097 h1101) (PK.keep hIPK hw ((mF.call (mF.up (mF.call (mF.call mF.refl F756 rfl) F1022 rfl) (A_126 hw) u1031 rfl) F1035 rfl) : mF [126999] w μ μ1033) rfl)) (gOk _ _ _ _ _) dX12_say_105 (tX12_through _ _ _ _ _) ⟨wV_X12_through, wL_X12_through⟩ wM_X12_414 (gCX12 _ _ _ _ _) rfl (A_106 hw) rfl ⟨le_t rfl, le_t rfl⟩ ⟨le_t rfl, le_t rfl⟩ rfl (le_t rfl) fun z1112 μ1108 T1109 F1110 h1111 => ?_
  obtain ⟨z1113, q1114, h1115⟩ := h1111
  have h1116 := rt7 T1109 (A_126 hw) vc_X12_say_3 q1114
  have h1117 : (-1) ≤ z1113 ∧ z1113 ≤ 9 := h1116.2.1 vc_X12_say_4
  have q1118 : μ1108 126 (((40 * 2) : Int).toNat) = z769 := q1114.trans h1115.2.2.1
  refine mr_if_eq (pc := 108) (tgt := 115) dX12_say_108 (by decide) (r32 h1115.1 rfl) (fun h1119 => ?_) (fun h1119 => ?_)
  · have h1120 : 0 ≤ z1112 ∧ z1112 ≤ 0 := (vc_X12_say_66 h1119 h1115.1)
    refine mr_iconst (pc := 115) (z := 0) dX12_say_115 ?_
    refine mr_lvS (lv' := [(0, .ref 106), (2, iv p2), (5, iv z752)]) (List.forall_mem_cons.mpr ⟨rfl, List.forall_mem_cons.mpr ⟨rfl, List.forall_mem_cons.mpr ⟨rfl, fun _ h => absurd h List.not_mem_nil⟩⟩⟩) ?_
    exact J1074 0 μ1108 T1109 (mF.call mF.refl F1110 rfl) (mG.call mG.refl h1115.2.1 (List.forall_mem_cons.mpr ⟨⟨_, List.mem_cons_self, vc_X12_say_46⟩, (fun _ h => absurd h List.not_mem_nil)⟩)) (rW (c := 0) (d := 1) (rR (x := 0)) rfl) (G1.keep hIG1 hw ((mF.call (mF.call (mF.up (mF.call (mF.call mF.refl F756 rfl) F1022 rfl) (A_126 hw) u1031 rfl) F1035 rfl) F1110 rfl) : mF [106026, 106027, 106028, 106029, 106030, 106031, 126999, 151999, 152999, 153999] w μ μ1108) rfl rfl ((mG.call (mG.call (mG.up (mG.call (mG.call mG.refl h760.1 (List.forall_mem_cons.mpr ⟨⟨_, List.mem_cons_self, vc_X12_say_9⟩, (fun _ h => absurd h List.not_mem_nil)⟩)) h1026.1 (List.forall_mem_cons.mpr ⟨⟨_, (List.mem_cons_of_mem _ List.mem_cons_self), vc_X12_say_52⟩, (fun _ h => absurd h List.not_mem_nil)⟩)) u1031 (List.mem_cons_of_mem _ List.mem_cons_self) vc_X12_say_53) h1036.2.1 (List.forall_mem_cons.mpr ⟨⟨_, (List.mem_cons_of_mem _ List.mem_cons_self), vc_X12_say_54⟩, (fun _ h => absurd h List.not_mem_nil)⟩)) h1115.2.1 (List.forall_mem_cons.mpr ⟨⟨_, (List.mem_cons_of_mem _ List.mem_cons_self), vc_X12_say_54⟩, (fun _ h => absurd h List.not_mem_nil)⟩)) : mG [((40 * 2), ((40 * 2) + 1)), ((40 * 2), ((40 * 2) + 40)), (81, (81 + 1)), (((40 * 2) + 1), ((40 * 2) + 40))] μ μ1108) (List.forall_mem_cons.mpr ⟨vc_X12_say_10, (List.forall_mem_cons.mpr ⟨vc_X12_say_56, (List.forall_mem_cons.mpr ⟨vc_X12_say_48, (List.forall_mem_cons.mpr ⟨vc_X12_say_55, (fun _ h => absurd h List.not_mem_nil)⟩)⟩)⟩)⟩)) (EV.keep hIEV hw ((mF.call (mF.call (mF.up (mF.call (mF.call mF.refl F756 rfl) F1022 rfl) (A_126 hw) u1031 rfl) F1035 rfl) F1110 rfl) : mF [106026, 106027, 106028, 106029, 106030, 106031, 126999, 151999, 152999, 153999] w μ μ1108) rfl) (PK.keep hIPK hw ((mF.call (mF.call (mF.up (mF.call (mF.call mF.refl F756 rfl) F1022 rfl) (A_126 hw) u1031 rfl) F1035 rfl) F1110 rfl) : mF [106026, 106027, 106028, 106029, 106030, 106031, 126999, 151999, 152999, 153999] w μ μ1108) rfl)
  have h1121 : 1 ≤ z1112 ∧ z1112 ≤ 1 := (vc_X12_say_67 h1119 h1115.1)
  refine mr_iconst (pc := 111) (z := 1) dX12_say_111 ?_
  refine sv_goto (pc := 112) (tgt := 116) dX12_say_112 (by decide) ?_
  refine mr_lvS (lv' := [(0, .ref 106), (2, iv p2), (5, iv z752)]) (List.forall_mem_cons.mpr ⟨rfl, List.forall_mem_cons.mpr ⟨rfl, List.forall_mem_cons.mpr ⟨rfl, fun _ h => absurd h List.not_mem_nil⟩⟩⟩) ?_
  exact J1074 1 μ1108 T1109 (mF.call mF.refl F1110 rfl) (mG.call mG.refl h1115.2.1 (List.forall_mem_cons.mpr ⟨⟨_, List.mem_cons_self, vc_X12_say_46⟩, (fun _ h => absurd h List.not_mem_nil)⟩)) (rW (c := 0) (d := 1) (rR (x := 1)) rfl) (G1.keep hIG1 hw ((mF.call (mF.call (mF.up (mF.call (mF.call mF.refl F756 rfl) F1022 rfl) (A_126 hw) u1031 rfl) F1035 rfl) F1110 rfl) : mF [106026, 106027, 106028, 106029, 106030, 106031, 126999, 151999, 152999, 153999] w μ μ1108) rfl rfl ((mG.call (mG.call (mG.up (mG.call (mG.call mG.refl h760.1 (List.forall_mem_cons.mpr ⟨⟨_, List.mem_cons_self, vc_X12_say_9⟩, (fun _ h => absurd h List.not_mem_nil)⟩)) h1026.1 (List.forall_mem_cons.mpr ⟨⟨_, (List.mem_cons_of_mem _ List.mem_cons_self), vc_X12_say_52⟩, (fun _ h => absurd h List.not_mem_nil)⟩)) u1031 (List.mem_cons_of_mem _ List.mem_cons_self) vc_X12_say_53) h1036.2.1 (List.forall_mem_cons.mpr ⟨⟨_, (List.mem_cons_of_mem _ List.mem_cons_self), vc_X12_say_54⟩, (fun _ h => absurd h List.not_mem_nil)⟩)) h1115.2.1 (List.forall_mem_cons.mpr ⟨⟨_, (List.mem_cons_of_mem _ List.mem_cons_self), vc_X12_say_54⟩, (fun _ h => absurd h List.not_mem_nil)⟩)) : mG [((40 * 2), ((40 * 2) + 1)), ((40 * 2), ((40 * 2) + 40)), (81, (81 + 1)), (((40 * 2) + 1), ((40 * 2) + 40))] μ μ1108) (List.forall_mem_cons.mpr ⟨vc_X12_say_10, (List.forall_mem_cons.mpr ⟨vc_X12_say_56, (List.forall_mem_cons.mpr ⟨vc_X12_say_48, (List.forall_mem_cons.mpr ⟨vc_X12_say_55, (fun _ h => absurd h List.not_mem_nil)⟩)⟩)⟩)⟩)) (EV.keep hIEV hw ((mF.call (mF.call (mF.up (mF.call (mF.call mF.refl F756 rfl) F1022 rfl) (A_126 hw) u1031 rfl) F1035 rfl) F1110 rfl) : mF [106026, 106027, 106028, 106029, 106030, 106031, 126999, 151999, 152999, 153999] w μ μ1108) rfl) (PK.keep hIPK hw ((mF.call (mF.call (mF.up (mF.call (mF.call mF.refl F756 rfl) F1022 rfl) (A_126 hw) u1031 rfl) F1035 rfl) F1110 rfl) : mF [106026, 106027, 106028, 106029, 106030, 106031, 126999, 151999, 152999, 153999] w μ μ1108) rfl)
theorem vc_X12_isBelow_1 {p1 p2 z1 z4 : Int} (h0 : (z1 - (p1 + (-2147483648))) % 4294967296 = 0) (h1 : (z4 - (p2 + (-2147483648))) % 4294967296 = 0) (h2 : z4 ≤ z1) (h3 : (-2147483648) ≤ p1 ∧ p1 ≤ 2147483647) (h4 : (-2147483648) ≤ p2 ∧ p2 ≤ 2147483647) (h5 : (-2147483648) ≤ z1 ∧ z1 ≤ 2147483647) (h6 : (-2147483648) ≤ z4 ∧ z4 ≤ 2147483647) : (0 : Int) = 1 → p1 % 4294967296 < p2 % 4294967296 := by omega
theorem vc_X12_isBelow_2 {p1 p2 z1 z4 : Int} (h0 : (z1 - (p1 + (-2147483648))) % 4294967296 = 0) (h1 : (z4 - (p2 + (-2147483648))) % 4294967296 = 0) (h2 : z4 ≤ z1) (h3 : (-2147483648) ≤ p1 ∧ p1 ≤ 2147483647) (h4 : (-2147483648) ≤ p2 ∧ p2 ≤ 2147483647) (h5 : (-2147483648) ≤ z1 ∧ z1 ≤ 2147483647) (h6 : (-2147483648) ≤ z4 ∧ z4 ≤ 2147483647) : (0 : Int) = 0 → p2 % 4294967296 ≤ p1 % 4294967296 := by omega
theorem vc_X12_isBelow_3 {p1 p2 z1 z4 : Int} (h0 : z1 < z4) (h1 : (z1 - (p1 + (-2147483648))) % 4294967296 = 0) (h2 : (z4 - (p2 + (-2147483648))) % 4294967296 = 0) (h3 : (-2147483648) ≤ p1 ∧ p1 ≤ 2147483647) (h4 : (-2147483648) ≤ p2 ∧ p2 ≤ 2147483647) (h5 : (-2147483648) ≤ z1 ∧ z1 ≤ 2147483647) (h6 : (-2147483648) ≤ z4 ∧ z4 ≤ 2147483647) : (-2147483648) ≤ z1 ∧ z1 ≤ 2147483646 := by omega
theorem vc_X12_isBelow_4 {p1 p2 z1 z4 : Int} (h0 : z1 < z4) (h1 : (z1 - (p1 + (-2147483648))) % 4294967296 = 0) (h2 : (z4 - (p2 + (-2147483648))) % 4294967296 = 0) (h3 : (-2147483648) ≤ p1 ∧ p1 ≤ 2147483647) (h4 : (-2147483648) ≤ p2 ∧ p2 ≤ 2147483647) (h5 : (-2147483648) ≤ z1 ∧ z1 ≤ 2147483646) (h6 : (-2147483648) ≤ z4 ∧ z4 ≤ 2147483647) : (-2147483647) ≤ z4 ∧ z4 ≤ 2147483647 := by omega
theorem vc_X12_isBelow_5 {p1 p2 z1 z4 : Int} (h0 : (z1 - (p1 + (-2147483648))) % 4294967296 = 0) (h1 : (z4 - (p2 + (-2147483648))) % 4294967296 = 0) (h2 : z1 < z4) (h3 : (-2147483648) ≤ p1 ∧ p1 ≤ 2147483647) (h4 : (-2147483648) ≤ p2 ∧ p2 ≤ 2147483647) (h5 : (-2147483648) ≤ z1 ∧ z1 ≤ 2147483646) (h6 : (-2147483647) ≤ z4 ∧ z4 ≤ 2147483647) : (1 : Int) = 1 → p1 % 4294967296 < p2 % 4294967296 := by omega
theorem vc_X12_isBelow_6 {p1 p2 z1 z4 : Int} (h0 : (z1 - (p1 + (-2147483648))) % 4294967296 = 0) (h1 : (z4 - (p2 + (-2147483648))) % 4294967296 = 0) (h2 : z1 < z4) (h3 : (-2147483648) ≤ p1 ∧ p1 ≤ 2147483647) (h4 : (-2147483648) ≤ p2 ∧ p2 ≤ 2147483647) (h5 : (-2147483648) ≤ z1 ∧ z1 ≤ 2147483646) (h6 : (-2147483647) ≤ z4 ∧ z4 ≤ 2147483647) : (1 : Int) = 0 → p2 % 4294967296 ≤ p1 % 4294967296 := by omega
set_option maxRecDepth 4000 in
set_option maxHeartbeats 4000000 in
theorem c_X12_isBelow {l : Launch} {D : va_G} {c : Nat → ClassId} {H0 : Heap} {sa : Nat × Nat × (Nat → Int32)} {w : mW} {μ : mM} (hw : mWF w) (hT : mT w μ) {p1 : Int} (hp1 : (-2147483648) ≤ p1 ∧ p1 ≤ 2147483647) {p2 : Int} (hp2 : (-2147483648) ≤ p2 ∧ p2 ≤ 2147483647) : sC (gG l D c H0 sa) mX12_isBelow 1 0 0 [iv p1, iv p2] (mk w μ) (qP w μ (fun z => (0 ≤ z ∧ z ≤ 1) ∧ (z = 1 → p1 % 4294967296 < p2 % 4294967296) ∧ (z = 0 → p2 % 4294967296 ≤ p1 % 4294967296) ∧ True)) := by
  refine sC.of rfl (by decide) (le_t rfl) ?_
  refine mr_lvE (lv' := [(0, iv p1), (1, iv p2)]) rfl ?_
  refine mr_iload_n (pc := 0) (z := p1) dX12_isBelow_0 rfl rfl ?_
  refine mr_ldcw (pc := 1) (z := (-2147483648)) dX12_isBelow_1 wG_X12_571 (by decide) ?_
  refine mr_iadd (pc := 4) (x := p1) (y := (-2147483648)) dX12_isBelow_4 ?_
  refine mr_wrapF fun z1 h2 h3 => ?_
  refine mr_iload_n (pc := 5) (z := p2) dX12_isBelow_5 rfl rfl ?_
  refine mr_ldcw (pc := 6) (z := (-2147483648)) dX12_isBelow_6 wG_X12_571 (by decide) ?_
  refine mr_iadd (pc := 9) (x := p2) (y := (-2147483648)) dX12_isBelow_9 ?_
  refine mr_wrapF fun z4 h5 h6 => ?_
  refine mr_icmp_ge (pc := 10) (tgt := 17) dX12_isBelow_10 (by decide) h2 h5 (fun h9 => ?_) (fun h9 => ?_)
  · refine mr_iconst (pc := 17) (z := 0) dX12_isBelow_17 ?_
    exact mr_zretP dX12_isBelow_18 rfl (rW (c := 0) (d := 1) (rR (x := 0)) rfl) (le_t rfl) (le_t rfl) ⟨(rW (c := 0) (d := 1) (rR (x := 0)) rfl), (vc_X12_isBelow_1 h3 h6 h9 hp1 hp2 h2 h5), (vc_X12_isBelow_2 h3 h6 h9 hp1 hp2 h2 h5), trivial⟩
  have h10 : (-2147483648) ≤ z1 ∧ z1 ≤ 2147483646 := (vc_X12_isBelow_3 h9 h3 h6 hp1 hp2 h2 h5)
  have h11 : (-2147483647) ≤ z4 ∧ z4 ≤ 2147483647 := (vc_X12_isBelow_4 h9 h3 h6 hp1 hp2 h10 h5)
  refine mr_iconst (pc := 13) (z := 1) dX12_isBelow_13 ?_
  refine sv_goto (pc := 14) (tgt := 18) dX12_isBelow_14 (by decide) ?_
  exact mr_zretP dX12_isBelow_18 rfl (rW (c := 0) (d := 1) (rR (x := 1)) rfl) (le_t rfl) (le_t rfl) ⟨(rW (c := 0) (d := 1) (rR (x := 1)) rfl), (vc_X12_isBelow_5 h3 h6 h9 hp1 hp2 h10 h11), (vc_X12_isBelow_6 h3 h6 h9 hp1 hp2 h10 h11), trivial⟩
theorem vc_X12_best_l_1 {f_ties z383 z384 : Int} (h0 : (21 - z383) < ((0 : Nat) : Int)) (h1 : z384 < z383) (h2 : z383 ≤ f_ties) (h3 : 0 ≤ f_ties ∧ f_ties ≤ 20) (h4 : 0 ≤ z383 ∧ z383 ≤ 20) (h5 : (-99999999) ≤ z384 ∧ z384 ≤ 19) (h6 : z384 = (-99999999) ∨ (0 ≤ z384 ∧ z384 ≤ 19)) : False := by omega
theorem vc_X12_best_l_2 {f_ties z383 z384 : Int} (h0 : z384 < z383) (h1 : z383 ≤ f_ties) (h2 : f_ties ≤ z383) (h3 : 0 ≤ f_ties ∧ f_ties ≤ 20) (h4 : 0 ≤ z383 ∧ z383 ≤ 20) (h5 : (-99999999) ≤ z384 ∧ z384 ≤ 19) (h6 : z384 = (-99999999) ∨ (0 ≤ z384 ∧ z384 ≤ 19)) : z384 = -99999999 ∨ (0 ≤ z384 ∧ z384 ≤ 19) := by omega
theorem vc_X12_best_l_3 {f_ties z383 z384 : Int} (h0 : z384 < z383) (h1 : z383 ≤ f_ties) (h2 : f_ties ≤ z383) (h3 : 0 ≤ f_ties ∧ f_ties ≤ 20) (h4 : 0 ≤ z383 ∧ z383 ≤ 20) (h5 : (-99999999) ≤ z384 ∧ z384 ≤ 19) (h6 : z384 = (-99999999) ∨ (0 ≤ z384 ∧ z384 ≤ 19)) : z384 < f_ties := by omega
theorem vc_X12_best_l_4 {f_ties z383 z384 : Int} (h0 : z384 < z383) (h1 : z383 ≤ f_ties) (h2 : f_ties ≤ z383) (h3 : 0 ≤ f_ties ∧ f_ties ≤ 20) (h4 : 0 ≤ z383 ∧ z383 ≤ 20) (h5 : (-99999999) ≤ z384 ∧ z384 ≤ 19) (h6 : z384 = (-99999999) ∨ (0 ≤ z384 ∧ z384 ≤ 19)) : z383 = f_ties := by omega
theorem vc_X12_best_l_5 {f_ties z383 z384 : Int} (h0 : z383 < f_ties) (h1 : z384 < z383) (h2 : z383 ≤ f_ties) (h3 : 0 ≤ f_ties ∧ f_ties ≤ 20) (h4 : 0 ≤ z383 ∧ z383 ≤ 20) (h5 : (-99999999) ≤ z384 ∧ z384 ≤ 19) (h6 : z384 = (-99999999) ∨ (0 ≤ z384 ∧ z384 ≤ 19)) : 0 ≤ z383 ∧ z383 ≤ 19 := by omega
theorem vc_X12_best_l_6 {f_ties z383 z384 : Int} (h0 : z383 < f_ties) (h1 : z384 < z383) (h2 : z383 ≤ f_ties) (h3 : 0 ≤ f_ties ∧ f_ties ≤ 20) (h4 : 0 ≤ z383 ∧ z383 ≤ 19) (h5 : (-99999999) ≤ z384 ∧ z384 ≤ 19) (h6 : z384 = (-99999999) ∨ (0 ≤ z384 ∧ z384 ≤ 19)) : 1 ≤ f_ties ∧ f_ties ≤ 20 := by omega
theorem vc_X12_best_l_7 {z416 : Int} (h0 : z416 = 0) (h1 : 0 ≤ z416 ∧ z416 ≤ 1) : 0 ≤ z416 ∧ z416 ≤ 0 := by omega
theorem vc_X12_best_l_8 {f_ties z383 z384 : Int} (h0 : z384 < z383) (h1 : z383 ≤ f_ties) (h2 : z383 < f_ties) (h3 : 1 ≤ f_ties ∧ f_ties ≤ 20) (h4 : 0 ≤ z383 ∧ z383 ≤ 19) (h5 : (-99999999) ≤ z384 ∧ z384 ≤ 19) (h6 : z384 = (-99999999) ∨ (0 ≤ z384 ∧ z384 ≤ 19)) : z384 < (z383 + 1) := by omega
theorem vc_X12_best_l_9 {f_ties z383 z384 : Int} (h0 : z384 < z383) (h1 : z383 ≤ f_ties) (h2 : z383 < f_ties) (h3 : 1 ≤ f_ties ∧ f_ties ≤ 20) (h4 : 0 ≤ z383 ∧ z383 ≤ 19) (h5 : (-99999999) ≤ z384 ∧ z384 ≤ 19) (h6 : z384 = (-99999999) ∨ (0 ≤ z384 ∧ z384 ≤ 19)) : (z383 + 1) ≤ f_ties := by omega
theorem vc_X12_best_l_10 {N f_ties z383 z384 : Int} (h0 : (21 - z383) < N + 1) (h1 : z384 < z383) (h2 : z383 ≤ f_ties) (h3 : z383 < f_ties) (h4 : 1 ≤ f_ties ∧ f_ties ≤ 20) (h5 : 0 ≤ z383 ∧ z383 ≤ 19) (h6 : (-99999999) ≤ z384 ∧ z384 ≤ 19) (h7 : z384 = (-99999999) ∨ (0 ≤ z384 ∧ z384 ≤ 19)) : (21 - (z383 + 1)) < N := by omega
theorem vc_X12_best_l_11 {f_ties z383 z384 z416 : Int} (h0 : z384 < z383) (h1 : z416 = 0) (h2 : z383 ≤ f_ties) (h3 : z383 < f_ties) (h4 : 1 ≤ f_ties ∧ f_ties ≤ 20) (h5 : 0 ≤ z383 ∧ z383 ≤ 19) (h6 : (-99999999) ≤ z384 ∧ z384 ≤ 19) (h7 : z384 = (-99999999) ∨ (0 ≤ z384 ∧ z384 ≤ 19)) (h8 : 0 ≤ z416 ∧ z416 ≤ 0) : ¬ z416 = 1 ∨ ¬ z384 = -99999999 := by omega
theorem vc_X12_best_l_12 {f_ties z383 z384 : Int} (h0 : z384 < z383) (h1 : z383 ≤ f_ties) (h2 : z383 < f_ties) (h3 : 1 ≤ f_ties ∧ f_ties ≤ 20) (h4 : 0 ≤ z383 ∧ z383 ≤ 19) (h5 : (-99999999) ≤ z384 ∧ z384 ≤ 19) (h6 : z384 = (-99999999) ∨ (0 ≤ z384 ∧ z384 ≤ 19)) : z384 = (-99999999) ∨ (0 ≤ z384 ∧ z384 ≤ 19) := by omega
theorem vc_X12_best_l_13 {z416 : Int} (h0 : ¬ z416 = 0) (h1 : 0 ≤ z416 ∧ z416 ≤ 1) : 1 ≤ z416 ∧ z416 ≤ 1 := by omega
theorem vc_X12_best_l_14 {z383 z384 : Int} (h0 : z384 = (-99999999)) (h1 : z384 < z383) (h2 : 0 ≤ z383 ∧ z383 ≤ 19) (h3 : (-99999999) ≤ z384 ∧ z384 ≤ 19) (h4 : z384 = (-99999999) ∨ (0 ≤ z384 ∧ z384 ≤ 19)) : (-99999999) ≤ z384 ∧ z384 ≤ (-99999999) := by omega
theorem vc_X12_best_l_15 {f_ties z383 z384 : Int} (h0 : z384 < z383) (h1 : z383 ≤ f_ties) (h2 : z383 < f_ties) (h3 : z384 = (-99999999)) (h4 : 1 ≤ f_ties ∧ f_ties ≤ 20) (h5 : 0 ≤ z383 ∧ z383 ≤ 19) (h6 : (-99999999) ≤ z384 ∧ z384 ≤ (-99999999)) (h7 : z384 = (-99999999) ∨ (0 ≤ z384 ∧ z384 ≤ 19)) : z383 < (z383 + 1) := by omega
theorem vc_X12_best_l_16 {f_ties z383 z384 : Int} (h0 : z384 < z383) (h1 : z383 ≤ f_ties) (h2 : z383 < f_ties) (h3 : z384 = (-99999999)) (h4 : 1 ≤ f_ties ∧ f_ties ≤ 20) (h5 : 0 ≤ z383 ∧ z383 ≤ 19) (h6 : (-99999999) ≤ z384 ∧ z384 ≤ (-99999999)) (h7 : z384 = (-99999999) ∨ (0 ≤ z384 ∧ z384 ≤ 19)) : (z383 + 1) ≤ f_ties := by omega
theorem vc_X12_best_l_17 {N f_ties z383 z384 : Int} (h0 : (21 - z383) < N + 1) (h1 : z384 < z383) (h2 : z383 ≤ f_ties) (h3 : z383 < f_ties) (h4 : z384 = (-99999999)) (h5 : 1 ≤ f_ties ∧ f_ties ≤ 20) (h6 : 0 ≤ z383 ∧ z383 ≤ 19) (h7 : (-99999999) ≤ z384 ∧ z384 ≤ (-99999999)) (h8 : z384 = (-99999999) ∨ (0 ≤ z384 ∧ z384 ≤ 19)) : (21 - (z383 + 1)) < N := by omega
theorem vc_X12_best_l_18 {z416 : Int} (h0 : ¬ z416 = 0) (h1 : 1 ≤ z416 ∧ z416 ≤ 1) : z416 = 1 := by omega
theorem vc_X12_best_l_19 {f_ties z383 z384 : Int} (h0 : z384 < z383) (h1 : z383 ≤ f_ties) (h2 : z383 < f_ties) (h3 : z384 = (-99999999)) (h4 : 1 ≤ f_ties ∧ f_ties ≤ 20) (h5 : 0 ≤ z383 ∧ z383 ≤ 19) (h6 : (-99999999) ≤ z384 ∧ z384 ≤ (-99999999)) (h7 : z384 = (-99999999) ∨ (0 ≤ z384 ∧ z384 ≤ 19)) : 0 ≤ z383 := by omega
theorem vc_X12_best_l_20 {f_ties z383 z384 : Int} (h0 : z384 < z383) (h1 : z383 ≤ f_ties) (h2 : z383 < f_ties) (h3 : z384 = (-99999999)) (h4 : 1 ≤ f_ties ∧ f_ties ≤ 20) (h5 : 0 ≤ z383 ∧ z383 ≤ 19) (h6 : (-99999999) ≤ z384 ∧ z384 ≤ (-99999999)) (h7 : z384 = (-99999999) ∨ (0 ≤ z384 ∧ z384 ≤ 19)) : z383 = (-99999999) ∨ (0 ≤ z383 ∧ z383 ≤ 19) := by omega
theorem vc_X12_best_l_21 {z383 z384 : Int} (h0 : ¬ z384 = (-99999999)) (h1 : z384 < z383) (h2 : 0 ≤ z383 ∧ z383 ≤ 19) (h3 : (-99999999) ≤ z384 ∧ z384 ≤ 19) (h4 : z384 = (-99999999) ∨ (0 ≤ z384 ∧ z384 ≤ 19)) : 0 ≤ z384 ∧ z384 ≤ 19 := by omega
theorem vc_X12_best_l_22 {z429 : Int} (h0 : z429 = 0) (h1 : 0 ≤ z429 ∧ z429 ≤ 1) : 0 ≤ z429 ∧ z429 ≤ 0 := by omega
theorem vc_X12_best_l_23 {f_ties z383 z384 : Int} (h0 : z384 < z383) (h1 : z383 ≤ f_ties) (h2 : z383 < f_ties) (h3 : ¬ z384 = (-99999999)) (h4 : 1 ≤ f_ties ∧ f_ties ≤ 20) (h5 : 0 ≤ z383 ∧ z383 ≤ 19) (h6 : 0 ≤ z384 ∧ z384 ≤ 19) (h7 : z384 = (-99999999) ∨ (0 ≤ z384 ∧ z384 ≤ 19)) : z384 < (z383 + 1) := by omega
theorem vc_X12_best_l_24 {f_ties z383 z384 : Int} (h0 : z384 < z383) (h1 : z383 ≤ f_ties) (h2 : z383 < f_ties) (h3 : ¬ z384 = (-99999999)) (h4 : 1 ≤ f_ties ∧ f_ties ≤ 20) (h5 : 0 ≤ z383 ∧ z383 ≤ 19) (h6 : 0 ≤ z384 ∧ z384 ≤ 19) (h7 : z384 = (-99999999) ∨ (0 ≤ z384 ∧ z384 ≤ 19)) : (z383 + 1) ≤ f_ties := by omega
theorem vc_X12_best_l_25 {N f_ties z383 z384 : Int} (h0 : (21 - z383) < N + 1) (h1 : z384 < z383) (h2 : z383 ≤ f_ties) (h3 : z383 < f_ties) (h4 : ¬ z384 = (-99999999)) (h5 : 1 ≤ f_ties ∧ f_ties ≤ 20) (h6 : 0 ≤ z383 ∧ z383 ≤ 19) (h7 : 0 ≤ z384 ∧ z384 ≤ 19) (h8 : z384 = (-99999999) ∨ (0 ≤ z384 ∧ z384 ≤ 19)) : (21 - (z383 + 1)) < N := by omega
theorem vc_X12_best_l_26 {f_ties z383 z384 z416 : Int} (h0 : z384 < z383) (h1 : ¬ z416 = 0) (h2 : ¬ z384 = (-99999999)) (h3 : z383 ≤ f_ties) (h4 : z383 < f_ties) (h5 : 1 ≤ f_ties ∧ f_ties ≤ 20) (h6 : 0 ≤ z383 ∧ z383 ≤ 19) (h7 : 0 ≤ z384 ∧ z384 ≤ 19) (h8 : z384 = (-99999999) ∨ (0 ≤ z384 ∧ z384 ≤ 19)) (h9 : 1 ≤ z416 ∧ z416 ≤ 1) : ¬ z416 = 1 ∨ ¬ z384 = -99999999 := by omega
theorem vc_X12_best_l_27 {f_ties z383 z384 : Int} (h0 : z384 < z383) (h1 : ¬ z384 = (-99999999)) (h2 : z383 ≤ f_ties) (h3 : z383 < f_ties) (h4 : 1 ≤ f_ties ∧ f_ties ≤ 20) (h5 : 0 ≤ z383 ∧ z383 ≤ 19) (h6 : 0 ≤ z384 ∧ z384 ≤ 19) (h7 : z384 = (-99999999) ∨ (0 ≤ z384 ∧ z384 ≤ 19)) : z384 = (-99999999) ∨ (0 ≤ z384 ∧ z384 ≤ 19) := by omega
theorem vc_X12_best_l_28 {z429 : Int} (h0 : ¬ z429 = 0) (h1 : 0 ≤ z429 ∧ z429 ≤ 1) : 1 ≤ z429 ∧ z429 ≤ 1 := by omega
theorem vc_X12_best_l_29 {f_ties z383 z384 : Int} (h0 : z384 < z383) (h1 : z383 ≤ f_ties) (h2 : z383 < f_ties) (h3 : ¬ z384 = (-99999999)) (h4 : 1 ≤ f_ties ∧ f_ties ≤ 20) (h5 : 0 ≤ z383 ∧ z383 ≤ 19) (h6 : 0 ≤ z384 ∧ z384 ≤ 19) (h7 : z384 = (-99999999) ∨ (0 ≤ z384 ∧ z384 ≤ 19)) : z383 < (z383 + 1) := by omega
theorem vc_X12_best_l_30 {f_ties z383 z384 : Int} (h0 : z384 < z383) (h1 : z383 ≤ f_ties) (h2 : z383 < f_ties) (h3 : ¬ z384 = (-99999999)) (h4 : 1 ≤ f_ties ∧ f_ties ≤ 20) (h5 : 0 ≤ z383 ∧ z383 ≤ 19) (h6 : 0 ≤ z384 ∧ z384 ≤ 19) (h7 : z384 = (-99999999) ∨ (0 ≤ z384 ∧ z384 ≤ 19)) : 0 ≤ z383 := by omega
theorem vc_X12_best_l_31 {f_ties z383 z384 : Int} (h0 : z384 < z383) (h1 : z383 ≤ f_ties) (h2 : z383 < f_ties) (h3 : ¬ z384 = (-99999999)) (h4 : 1 ≤ f_ties ∧ f_ties ≤ 20) (h5 : 0 ≤ z383 ∧ z383 ≤ 19) (h6 : 0 ≤ z384 ∧ z384 ≤ 19) (h7 : z384 = (-99999999) ∨ (0 ≤ z384 ∧ z384 ≤ 19)) : z383 = (-99999999) ∨ (0 ≤ z383 ∧ z383 ≤ 19) := by omega
theorem vc_X12_best_l_32  : (((-99999999) : Int) : Int) < ((0 : Int) : Int) := by omega
theorem vc_X12_best_l_33 {f_ties : Int} (h0 : 0 ≤ f_ties ∧ f_ties ≤ 20) : (0 : Int) ≤ f_ties := by omega
theorem vc_X12_best_l_34  : (21 - 0) < ((22 : Nat) : Int) := by omega
theorem vc_X12_best_l_35  : (((-99999999) : Int) : Int) = ((-99999999) : Int) ∨ ((0 : Int) ≤ (((-99999999) : Int) : Int) ∧ (((-99999999) : Int) : Int) ≤ (19 : Int)) := by omega
set_option maxRecDepth 4000 in
set_option maxHeartbeats 4000000 in
theorem c_X12_best_l {l : Launch} {D : va_G} {c : Nat → ClassId} {H0 : Heap} {sa : Nat × Nat × (Nat → Int32)} {w : mW} {μ : mM} (hw : mWF w) (hT : mT w μ) {p1 : Int} (hp1 : 0 ≤ p1 ∧ p1 ≤ 9) {p2 : Int} (hp2 : 0 ≤ p2 ∧ p2 ≤ 9) {f_ties : Int} (q_f_ties : μ 106 6 = f_ties) : sC (gG l D c H0 sa) mX12_best 4 0 0 [.ref 106, iv p1, iv p2] (mk w μ) (qP w μ (fun z => ((-99999999) ≤ z ∧ z ≤ 19) ∧ (z = -99999999 ∨ (0 ≤ z ∧ z ≤ 19)) ∧ (z < f_ties) ∧ (bestOK μ f_ties z) ∧ True)) := by
  refine sC.of rfl (by decide) (le_t rfl) ?_
  have ht_f_ties : (0 ≤ f_ties ∧ f_ties ≤ 20) := by rw [← q_f_ties]; exact hT 106 106 (A_106 hw) 6
  refine mr_lvE (lv' := [(0, .ref 106), (1, iv p1), (2, iv p2)]) rfl ?_
  refine mr_ldc (pc := 0) (z := (-99999999)) dX12_best_0 wG_X12_29 (by decide) ?_
  refine mr_istore_n (pc := 2) (lv' := [(3, iv (-99999999)), (0, .ref 106), (1, iv p1), (2, iv p2)]) dX12_best_2 rfl (by decide) rfl ?_
  refine mr_iconst (pc := 3) (z := 0) dX12_best_3 ?_
  refine mr_istore (pc := 4) (lv' := [(4, iv 0), (3, iv (-99999999)), (0, .ref 106), (1, iv p1), (2, iv p2)]) dX12_best_4 (by decide) rfl ?_
  have L385 : ∀ (nL385 : Nat) (z384 z383 : Int), True → ((-99999999) ≤ z384 ∧ z384 ≤ 19) → (0 ≤ z383 ∧ z383 ≤ 20) → (z384 < z383) → (z383 ≤ f_ties) → bestOK μ z383 z384 → (z384 = (-99999999) ∨ (0 ≤ z384 ∧ z384 ≤ 19)) → (21 - z383) < (nL385 : Int) → sV (gG l D c H0 sa) mX12_best (sRm 4 0 0) (sZ (gG l D c H0 sa) 0 0 (qP w μ (fun z => ((-99999999) ≤ z ∧ z ≤ 19) ∧ (z = -99999999 ∨ (0 ≤ z ∧ z ≤ 19)) ∧ (z < f_ties) ∧ (bestOK μ f_ties z) ∧ True))) 6 [(0, .ref 106), (1, iv p1), (2, iv p2), (3, iv z384), (4, iv z383)] [] (mk w μ) 0 0 := by
    intro nL385
    induction nL385 with
    | zero => intro z384 z383 _ h386 h387 h391 h392 R393 h394 h395; exact ((vc_X12_best_l_1 h395 h391 h392 ht_f_ties h387 h386 h394)).elim
    | succ nL385 ih396 =>
      intro z384 z383 _ h386 h387 h391 h392 R393 h394 h395
      refine mr_iload (pc := 6) (z := z383) dX12_best_6 rfl ?_
      refine sv_aload_n (pc := 8) dX12_best_8 rfl rfl ?_
      refine gk_X12_6 (pc := 9) dX12_best_9 wF_X12_37 (A_106 hw) q_f_ties ?_
      refine mr_icmp_ge (pc := 12) (tgt := 52) dX12_best_12 (by decide) (r32 h387 rfl) (r32 ht_f_ties rfl) (fun h413 => ?_) (fun h413 => ?_)
      · refine mr_iload_n (pc := 52) (z := z384) dX12_best_52 rfl rfl ?_
        exact mr_iretP dX12_best_53 rfl (le_t rfl) (le_t rfl) ⟨h386, (vc_X12_best_l_2 h391 h392 h413 ht_f_ties h387 h386 h394), (vc_X12_best_l_3 h391 h392 h413 ht_f_ties h387 h386 h394), (by have h := R393; rw [show z383 = f_ties from (vc_X12_best_l_4 h391 h392 h413 ht_f_ties h387 h386 h394)] at h; exact h), trivial⟩
      have h414 : 0 ≤ z383 ∧ z383 ≤ 19 := (vc_X12_best_l_5 h413 h391 h392 ht_f_ties h387 h386 h394)
      have h415 : 1 ≤ f_ties ∧ f_ties ≤ 20 := (vc_X12_best_l_6 h413 h391 h392 ht_f_ties h414 h386 h394)
      refine sv_aload_n (pc := 15) dX12_best_15 rfl rfl ?_
      refine gf_X12_85 (pc := 16) dX12_best_16 wF_X12_457 (A_106 hw) hT ?_
      refine mr_iload (pc := 19) (z := z383) dX12_best_19 rfl ?_
      refine la_165 (pc := 21) dX12_best_21 (A_165 hw) hT (rIx (n := 20) h414 rfl) fun z416 q417 h418 => ?_
      refine mr_if_eq (pc := 22) (tgt := 46) dX12_best_22 (by decide) (r32 h418 rfl) (fun h419 => ?_) (fun h419 => ?_)
      · have h420 : 0 ≤ z416 ∧ z416 ≤ 0 := (vc_X12_best_l_7 h419 h418)
        refine mr_iinc (pc := 46) (lv' := [(4, iv (z383 + 1)), (0, .ref 106), (1, iv p1), (2, iv p2), (3, iv z384)]) dX12_best_46 rfl (by decide) rfl ?_
        refine sv_goto (pc := 49) (tgt := 6) dX12_best_49 (by decide) ?_
        refine mr_lvS (lv' := [(0, .ref 106), (1, iv p1), (2, iv p2), (3, iv z384), (4, iv (z383 + 1))]) (List.forall_mem_cons.mpr ⟨rfl, List.forall_mem_cons.mpr ⟨rfl, List.forall_mem_cons.mpr ⟨rfl, List.forall_mem_cons.mpr ⟨rfl, List.forall_mem_cons.mpr ⟨rfl, fun _ h => absurd h List.not_mem_nil⟩⟩⟩⟩⟩) ?_
        exact ih396 z384 (z383 + 1) trivial h386 (rW (c := 0) (d := 20) (rAdd (e := 1) (f := 20) h414 (rR (x := 1)) rfl) rfl) (vc_X12_best_l_8 h391 h392 h413 h415 h414 h386 h394) (vc_X12_best_l_9 h391 h392 h413 h415 h414 h386 h394) (bestOK.not R393 q417 (vc_X12_best_l_11 h391 h419 h392 h413 h415 h414 h386 h394 h420)) (vc_X12_best_l_12 h391 h392 h413 h415 h414 h386 h394) (vc_X12_best_l_10 (nS h395) h391 h392 h413 h415 h414 h386 h394)
      have h421 : 1 ≤ z416 ∧ z416 ≤ 1 := (vc_X12_best_l_13 h419 h418)
      refine mr_iload_n (pc := 25) (z := z384) dX12_best_25 rfl rfl ?_
      refine mr_ldc (pc := 26) (z := (-99999999)) dX12_best_26 wG_X12_29 (by decide) ?_
      refine mr_icmp_eq (pc := 28) (tgt := 43) dX12_best_28 (by decide) (r32 h386 rfl) (r32 (rR (x := (-99999999))) rfl) (fun h422 => ?_) (fun h422 => ?_)
      · have h423 : (-99999999) ≤ z384 ∧ z384 ≤ (-99999999) := (vc_X12_best_l_14 h422 h391 h414 h386 h394)
        refine mr_iload (pc := 43) (z := z383) dX12_best_43 rfl ?_
        refine mr_istore_n (pc := 45) (lv' := [(3, iv z383), (0, .ref 106), (1, iv p1), (2, iv p2), (4, iv z383)]) dX12_best_45 rfl (by decide) rfl ?_
        refine mr_iinc (pc := 46) (lv' := [(4, iv (z383 + 1)), (3, iv z383), (0, .ref 106), (1, iv p1), (2, iv p2)]) dX12_best_46 rfl (by decide) rfl ?_
        refine sv_goto (pc := 49) (tgt := 6) dX12_best_49 (by decide) ?_
        refine mr_lvS (lv' := [(0, .ref 106), (1, iv p1), (2, iv p2), (3, iv z383), (4, iv (z383 + 1))]) (List.forall_mem_cons.mpr ⟨rfl, List.forall_mem_cons.mpr ⟨rfl, List.forall_mem_cons.mpr ⟨rfl, List.forall_mem_cons.mpr ⟨rfl, List.forall_mem_cons.mpr ⟨rfl, fun _ h => absurd h List.not_mem_nil⟩⟩⟩⟩⟩) ?_
        exact ih396 z383 (z383 + 1) trivial (rW (c := (-99999999)) (d := 19) h414 rfl) (rW (c := 0) (d := 20) (rAdd (e := 1) (f := 20) h414 (rR (x := 1)) rfl) rfl) (vc_X12_best_l_15 h391 h392 h413 h422 h415 h414 h423 h394) (vc_X12_best_l_16 h391 h392 h413 h422 h415 h414 h423 h394) (bestOK.put q417 (vc_X12_best_l_18 h419 h421) (vc_X12_best_l_19 h391 h392 h413 h422 h415 h414 h423 h394)) (vc_X12_best_l_20 h391 h392 h413 h422 h415 h414 h423 h394) (vc_X12_best_l_17 (nS h395) h391 h392 h413 h422 h415 h414 h423 h394)
      have h424 : 0 ≤ z384 ∧ z384 ≤ 19 := (vc_X12_best_l_21 h422 h391 h414 h386 h394)
      refine sv_aload_n (pc := 31) dX12_best_31 rfl rfl ?_
      refine mr_iload_n (pc := 32) (z := p1) dX12_best_32 rfl rfl ?_
      refine mr_iload (pc := 33) (z := z383) dX12_best_33 rfl ?_
      refine mr_iload_n (pc := 35) (z := z384) dX12_best_35 rfl rfl ?_
      refine mr_iload_n (pc := 36) (z := p2) dX12_best_36 rfl rfl ?_
      refine mr_cVP (pc := 37) (c_X12_beats hw hT hp1 h414 h424 hp2) (gOk _ _ _ _ _) dX12_best_37 (tX12_beats _ _ _ _ _) ⟨wV_X12_beats, wL_X12_beats⟩ wM_X12_568 (gCX12 _ _ _ _ _) rfl (A_106 hw) rfl ⟨le_t rfl, le_t rfl⟩ ⟨le_t rfl, le_t rfl⟩ rfl (le_t rfl) fun z429 h428 => ?_
      refine mr_if_eq (pc := 40) (tgt := 46) dX12_best_40 (by decide) (r32 h428.1 rfl) (fun h430 => ?_) (fun h430 => ?_)
      · have h431 : 0 ≤ z429 ∧ z429 ≤ 0 := (vc_X12_best_l_22 h430 h428.1)
        refine mr_iinc (pc := 46) (lv' := [(4, iv (z383 + 1)), (0, .ref 106), (1, iv p1), (2, iv p2), (3, iv z384)]) dX12_best_46 rfl (by decide) rfl ?_
        refine sv_goto (pc := 49) (tgt := 6) dX12_best_49 (by decide) ?_
        refine mr_lvS (lv' := [(0, .ref 106), (1, iv p1), (2, iv p2), (3, iv z384), (4, iv (z383 + 1))]) (List.forall_mem_cons.mpr ⟨rfl, List.forall_mem_cons.mpr ⟨rfl, List.forall_mem_cons.mpr ⟨rfl, List.forall_mem_cons.mpr ⟨rfl, List.forall_mem_cons.mpr ⟨rfl, fun _ h => absurd h List.not_mem_nil⟩⟩⟩⟩⟩) ?_
        exact ih396 z384 (z383 + 1) trivial (rW (c := (-99999999)) (d := 19) h424 rfl) (rW (c := 0) (d := 20) (rAdd (e := 1) (f := 20) h414 (rR (x := 1)) rfl) rfl) (vc_X12_best_l_23 h391 h392 h413 h422 h415 h414 h424 h394) (vc_X12_best_l_24 h391 h392 h413 h422 h415 h414 h424 h394) (bestOK.not R393 q417 (vc_X12_best_l_26 h391 h419 h422 h392 h413 h415 h414 h424 h394 h421)) (vc_X12_best_l_27 h391 h422 h392 h413 h415 h414 h424 h394) (vc_X12_best_l_25 (nS h395) h391 h392 h413 h422 h415 h414 h424 h394)
      have h432 : 1 ≤ z429 ∧ z429 ≤ 1 := (vc_X12_best_l_28 h430 h428.1)
      refine mr_iload (pc := 43) (z := z383) dX12_best_43 rfl ?_
      refine mr_istore_n (pc := 45) (lv' := [(3, iv z383), (0, .ref 106), (1, iv p1), (2, iv p2), (4, iv z383)]) dX12_best_45 rfl (by decide) rfl ?_
      refine mr_iinc (pc := 46) (lv' := [(4, iv (z383 + 1)), (3, iv z383), (0, .ref 106), (1, iv p1), (2, iv p2)]) dX12_best_46 rfl (by decide) rfl ?_
      refine sv_goto (pc := 49) (tgt := 6) dX12_best_49 (by decide) ?_
      refine mr_lvS (lv' := [(0, .ref 106), (1, iv p1), (2, iv p2), (3, iv z383), (4, iv (z383 + 1))]) (List.forall_mem_cons.mpr ⟨rfl, List.forall_mem_cons.mpr ⟨rfl, List.forall_mem_cons.mpr ⟨rfl, List.forall_mem_cons.mpr ⟨rfl, List.forall_mem_cons.mpr ⟨rfl, fun _ h => absurd h List.not_mem_nil⟩⟩⟩⟩⟩) ?_
      exact ih396 z383 (z383 + 1) trivial (rW (c := (-99999999)) (d := 19) h414 rfl) (rW (c := 0) (d := 20) (rAdd (e := 1) (f := 20) h414 (rR (x := 1)) rfl) rfl) (vc_X12_best_l_29 h391 h392 h413 h422 h415 h414 h424 h394) (vc_X12_best_l_24 h391 h392 h413 h422 h415 h414 h424 h394) (bestOK.put q417 (vc_X12_best_l_18 h419 h421) (vc_X12_best_l_30 h391 h392 h413 h422 h415 h414 h424 h394)) (vc_X12_best_l_31 h391 h392 h413 h422 h415 h414 h424 h394) (vc_X12_best_l_25 (nS h395) h391 h392 h413 h422 h415 h414 h424 h394)
  refine mr_lvS (lv' := [(0, .ref 106), (1, iv p1), (2, iv p2), (3, iv (-99999999)), (4, iv 0)]) (List.forall_mem_cons.mpr ⟨rfl, List.forall_mem_cons.mpr ⟨rfl, List.forall_mem_cons.mpr ⟨rfl, List.forall_mem_cons.mpr ⟨rfl, List.forall_mem_cons.mpr ⟨rfl, fun _ h => absurd h List.not_mem_nil⟩⟩⟩⟩⟩) ?_
  exact L385 22 (-99999999) 0 trivial (rW (c := (-99999999)) (d := 19) (rR (x := (-99999999))) rfl) (rW (c := 0) (d := 20) (rR (x := 0)) rfl) vc_X12_best_l_32 (vc_X12_best_l_33 ht_f_ties) bestOK.zero vc_X12_best_l_35 vc_X12_best_l_34
theorem vc_X12_pick_1 {z16651 : Int} (h0 : ¬ z16651 = 0) (h1 : 0 ≤ z16651 ∧ z16651 ≤ 1) : 1 ≤ z16651 ∧ z16651 ≤ 1 := by omega
theorem vc_X12_pick_2 {f_ties z29593 : Int} (h0 : (21 - z29593) < ((0 : Nat) : Int)) (h1 : z29593 ≤ f_ties) (h2 : 0 ≤ f_ties ∧ f_ties ≤ 20) (h3 : 0 ≤ z29593 ∧ z29593 ≤ 20) : False := by omega
theorem vc_X12_pick_3 {z30670 z30671 z30672 : Int} (h0 : (((4294967296 * (2 - z30672)) - (z30671 % 4294967296)) + z30670) < ((0 : Nat) : Int)) (h1 : 0 ≤ z30670 ∧ z30670 ≤ 1) (h2 : (-2147483648) ≤ z30671 ∧ z30671 ≤ 2147483647) (h3 : 0 ≤ z30672 ∧ z30672 ≤ 1) : False := by omega
theorem vc_X12_pick_4 {z30670 : Int} (h0 : z30670 = 0) (h1 : 0 ≤ z30670 ∧ z30670 ≤ 1) : 0 ≤ z30670 ∧ z30670 ≤ 0 := by omega
theorem vc_X12_pick_5  : (160 : Int) ≤ (160 : Int) ∧ (960 : Int) ≤ (960 : Int) := by omega
theorem vc_X12_pick_6 {z30673 : Int} (h0 : (-99999999) ≤ z30673 ∧ z30673 ≤ 19) (h1 : z30673 = (-99999999) ∨ (0 ≤ z30673 ∧ z30673 ≤ 19)) : z30673 = -99999999 ∨ (0 ≤ z30673 ∧ z30673 ≤ 19) := by omega
theorem vc_X12_pick_7 {z30670 : Int} (h0 : ¬ z30670 = 0) (h1 : 0 ≤ z30670 ∧ z30670 ≤ 1) : 1 ≤ z30670 ∧ z30670 ≤ 1 := by omega
theorem vc_X12_pick_8 {f_ties z29593 z34069 : Int} (h0 : (21 - z34069) < ((0 : Nat) : Int)) (h1 : z34069 ≤ f_ties) (h2 : z29593 ≤ f_ties) (h3 : f_ties ≤ z29593) (h4 : 0 ≤ f_ties ∧ f_ties ≤ 20) (h5 : 0 ≤ z29593 ∧ z29593 ≤ 20) (h6 : 0 ≤ z34069 ∧ z34069 ≤ 20) : False := by omega
theorem vc_X12_pick_9 {z30671 z30672 z34070 z34071 : Int} (h0 : ¬ z34071 = 0) (h1 : z34071 = 0 ∨ z30672 = 0 ∨ z30671 % 4294967296 < z34070 % 4294967296) (h2 : (-2147483648) ≤ z30671 ∧ z30671 ≤ 2147483647) (h3 : 0 ≤ z30672 ∧ z30672 ≤ 1) (h4 : (-2147483648) ≤ z34070 ∧ z34070 ≤ 2147483647) (h5 : 0 ≤ z34071 ∧ z34071 ≤ 1) : 1 ≤ z34071 ∧ z34071 ≤ 1 := by omega
theorem vc_X12_pick_10 {f_ties z29593 z34069 : Int} (h0 : z29593 ≤ f_ties) (h1 : f_ties ≤ z29593) (h2 : z34069 ≤ f_ties) (h3 : f_ties ≤ z34069) (h4 : 0 ≤ f_ties ∧ f_ties ≤ 20) (h5 : 0 ≤ z29593 ∧ z29593 ≤ 20) (h6 : 0 ≤ z34069 ∧ z34069 ≤ 20) : z34069 ≤ f_ties := by omega
theorem vc_X12_pick_11 {z30671 z30672 z34070 z34071 : Int} (h0 : z34071 = 0 ∨ z30672 = 0 ∨ z30671 % 4294967296 < z34070 % 4294967296) (h1 : ¬ z34071 = 0) (h2 : (-2147483648) ≤ z30671 ∧ z30671 ≤ 2147483647) (h3 : 0 ≤ z30672 ∧ z30672 ≤ 1) (h4 : (-2147483648) ≤ z34070 ∧ z34070 ≤ 2147483647) (h5 : 1 ≤ z34071 ∧ z34071 ≤ 1) : ¬ z34071 = 0 := by omega
theorem vc_X12_pick_12 {f_ties z29593 z34069 z34928 : Int} (h0 : (21 - z34928) < ((0 : Nat) : Int)) (h1 : z34928 ≤ f_ties) (h2 : z29593 ≤ f_ties) (h3 : f_ties ≤ z29593) (h4 : z34069 ≤ f_ties) (h5 : f_ties ≤ z34069) (h6 : 0 ≤ f_ties ∧ f_ties ≤ 20) (h7 : 0 ≤ z29593 ∧ z29593 ≤ 20) (h8 : 0 ≤ z34069 ∧ z34069 ≤ 20) (h9 : 0 ≤ z34928 ∧ z34928 ≤ 20) : False := by omega
theorem vc_X12_pick_13 {f_ties z29593 z34069 z34928 z34983 : Int} (h0 : z29593 ≤ f_ties) (h1 : f_ties ≤ z29593) (h2 : z34069 ≤ f_ties) (h3 : f_ties ≤ z34069) (h4 : z34928 ≤ f_ties) (h5 : f_ties ≤ z34928) (h6 : z34983 < f_ties) (h7 : z34983 = -99999999 ∨ (0 ≤ z34983 ∧ z34983 ≤ 19)) (h8 : 0 ≤ f_ties ∧ f_ties ≤ 20) (h9 : 0 ≤ z29593 ∧ z29593 ≤ 20) (h10 : 0 ≤ z34069 ∧ z34069 ≤ 20) (h11 : 0 ≤ z34928 ∧ z34928 ≤ 20) (h12 : (-99999999) ≤ z34983 ∧ z34983 ≤ 19) : f_ties ≤ z34928 := by omega
theorem vc_X12_pick_14 {f_ties z29593 z34069 z34928 z34983 : Int} (h0 : z29593 ≤ f_ties) (h1 : f_ties ≤ z29593) (h2 : z34069 ≤ f_ties) (h3 : f_ties ≤ z34069) (h4 : z34928 ≤ f_ties) (h5 : f_ties ≤ z34928) (h6 : z34983 = -99999999 ∨ (0 ≤ z34983 ∧ z34983 ≤ 19)) (h7 : z34983 < f_ties) (h8 : 0 ≤ f_ties ∧ f_ties ≤ 20) (h9 : 0 ≤ z29593 ∧ z29593 ≤ 20) (h10 : 0 ≤ z34069 ∧ z34069 ≤ 20) (h11 : 0 ≤ z34928 ∧ z34928 ≤ 20) (h12 : (-99999999) ≤ z34983 ∧ z34983 ≤ 19) : z34983 < f_ties := by omega
theorem vc_X12_pick_15 {f_ties z29593 z34069 z34928 z34983 : Int} (h0 : z34983 = -99999999 ∨ (0 ≤ z34983 ∧ z34983 ≤ 19)) (h1 : z34983 < f_ties) (h2 : z29593 ≤ f_ties) (h3 : f_ties ≤ z29593) (h4 : z34069 ≤ f_ties) (h5 : f_ties ≤ z34069) (h6 : z34928 ≤ f_ties) (h7 : f_ties ≤ z34928) (h8 : 0 ≤ f_ties ∧ f_ties ≤ 20) (h9 : 0 ≤ z29593 ∧ z29593 ≤ 20) (h10 : 0 ≤ z34069 ∧ z34069 ≤ 20) (h11 : 0 ≤ z34928 ∧ z34928 ≤ 20) (h12 : (-99999999) ≤ z34983 ∧ z34983 ≤ 19) : z34983 = -99999999 ∨ (0 ≤ z34983 ∧ z34983 ≤ 19) := by omega
theorem vc_X12_pick_16 {f_ties z34983 : Int} (h0 : 0 ≤ z34983) (h1 : z34983 = -99999999 ∨ (0 ≤ z34983 ∧ z34983 ≤ 19)) (h2 : z34983 < f_ties) (h3 : 0 ≤ f_ties ∧ f_ties ≤ 20) (h4 : (-99999999) ≤ z34983 ∧ z34983 ≤ 19) : 0 ≤ z34983 ∧ z34983 ≤ 19 := by omega
theorem vc_X12_pick_17 {z30673 : Int} (h0 : z30673 = (-99999999)) (h1 : (-99999999) ≤ z30673 ∧ z30673 ≤ 19) (h2 : z30673 = (-99999999) ∨ (0 ≤ z30673 ∧ z30673 ≤ 19)) : (-99999999) ≤ z30673 ∧ z30673 ≤ (-99999999) := by omega
theorem vc_X12_pick_18 {N z30670 z30671 z30672 z34070 z34071 : Int} (h0 : (((4294967296 * (2 - z30672)) - (z30671 % 4294967296)) + z30670) < N + 1) (h1 : ¬ z30670 = 0) (h2 : z34071 = 0 ∨ z30672 = 0 ∨ z30671 % 4294967296 < z34070 % 4294967296) (h3 : ¬ z34071 = 0) (h4 : 1 ≤ z30670 ∧ z30670 ≤ 1) (h5 : (-2147483648) ≤ z30671 ∧ z30671 ≤ 2147483647) (h6 : 0 ≤ z30672 ∧ z30672 ≤ 1) (h7 : (-2147483648) ≤ z34070 ∧ z34070 ≤ 2147483647) (h8 : 1 ≤ z34071 ∧ z34071 ≤ 1) : (((4294967296 * (2 - 1)) - (z34070 % 4294967296)) + z34071) < N := by omega
theorem vc_X12_pick_19 {f_ties z29593 z34069 z34928 z34983 : Int} (h0 : z34983 = -99999999 ∨ (0 ≤ z34983 ∧ z34983 ≤ 19)) (h1 : z34983 < f_ties) (h2 : 0 ≤ z34983) (h3 : z29593 ≤ f_ties) (h4 : f_ties ≤ z29593) (h5 : z34069 ≤ f_ties) (h6 : f_ties ≤ z34069) (h7 : z34928 ≤ f_ties) (h8 : f_ties ≤ z34928) (h9 : 0 ≤ f_ties ∧ f_ties ≤ 20) (h10 : 0 ≤ z29593 ∧ z29593 ≤ 20) (h11 : 0 ≤ z34069 ∧ z34069 ≤ 20) (h12 : 0 ≤ z34928 ∧ z34928 ≤ 20) (h13 : 0 ≤ z34983 ∧ z34983 ≤ 19) : z34983 = (-99999999) ∨ (0 ≤ z34983 ∧ z34983 ≤ 19) := by omega
theorem vc_X12_pick_20 {z30673 : Int} (h0 : ¬ z30673 = (-99999999)) (h1 : (-99999999) ≤ z30673 ∧ z30673 ≤ 19) (h2 : z30673 = (-99999999) ∨ (0 ≤ z30673 ∧ z30673 ≤ 19)) : 0 ≤ z30673 ∧ z30673 ≤ 19 := by omega
theorem vc_X12_pick_21 {z34993 : Int} (h0 : z34993 = 0) (h1 : 0 ≤ z34993 ∧ z34993 ≤ 1) : 0 ≤ z34993 ∧ z34993 ≤ 0 := by omega
theorem vc_X12_pick_22 {z30673 : Int} (h0 : ¬ z30673 = (-99999999)) (h1 : 0 ≤ z30673 ∧ z30673 ≤ 19) (h2 : z30673 = (-99999999) ∨ (0 ≤ z30673 ∧ z30673 ≤ 19)) : z30673 = (-99999999) ∨ (0 ≤ z30673 ∧ z30673 ≤ 19) := by omega
theorem vc_X12_pick_23 {z34993 : Int} (h0 : ¬ z34993 = 0) (h1 : 0 ≤ z34993 ∧ z34993 ≤ 1) : 1 ≤ z34993 ∧ z34993 ≤ 1 := by omega
theorem vc_X12_pick_24 {f_ties z29593 z34069 z34928 : Int} (h0 : z34928 < f_ties) (h1 : z29593 ≤ f_ties) (h2 : f_ties ≤ z29593) (h3 : z34069 ≤ f_ties) (h4 : f_ties ≤ z34069) (h5 : z34928 ≤ f_ties) (h6 : 0 ≤ f_ties ∧ f_ties ≤ 20) (h7 : 0 ≤ z29593 ∧ z29593 ≤ 20) (h8 : 0 ≤ z34069 ∧ z34069 ≤ 20) (h9 : 0 ≤ z34928 ∧ z34928 ≤ 20) : 0 ≤ z34928 ∧ z34928 ≤ 19 := by omega
theorem vc_X12_pick_25 {f_ties z29593 z34069 z34928 : Int} (h0 : z34928 < f_ties) (h1 : z29593 ≤ f_ties) (h2 : f_ties ≤ z29593) (h3 : z34069 ≤ f_ties) (h4 : f_ties ≤ z34069) (h5 : z34928 ≤ f_ties) (h6 : 0 ≤ f_ties ∧ f_ties ≤ 20) (h7 : 0 ≤ z29593 ∧ z29593 ≤ 20) (h8 : 0 ≤ z34069 ∧ z34069 ≤ 20) (h9 : 0 ≤ z34928 ∧ z34928 ≤ 19) : 1 ≤ f_ties ∧ f_ties ≤ 20 := by omega
theorem vc_X12_pick_26 {f_ties z29593 z34069 z34928 : Int} (h0 : z34928 ≤ f_ties) (h1 : z34928 < f_ties) (h2 : z29593 ≤ f_ties) (h3 : f_ties ≤ z29593) (h4 : z34069 ≤ f_ties) (h5 : f_ties ≤ z34069) (h6 : 1 ≤ f_ties ∧ f_ties ≤ 20) (h7 : 0 ≤ z29593 ∧ z29593 ≤ 20) (h8 : 0 ≤ z34069 ∧ z34069 ≤ 20) (h9 : 0 ≤ z34928 ∧ z34928 ≤ 19) : 0 ≤ (40 * (4 + z34928)) := by omega
theorem vc_X12_pick_27 {f_ties z29593 z34069 z34928 : Int} (h0 : z34928 ≤ f_ties) (h1 : z34928 < f_ties) (h2 : z29593 ≤ f_ties) (h3 : f_ties ≤ z29593) (h4 : z34069 ≤ f_ties) (h5 : f_ties ≤ z34069) (h6 : 1 ≤ f_ties ∧ f_ties ≤ 20) (h7 : 0 ≤ z29593 ∧ z29593 ≤ 20) (h8 : 0 ≤ z34069 ∧ z34069 ≤ 20) (h9 : 0 ≤ z34928 ∧ z34928 ≤ 19) : (40 * (4 + z34928)) % 40 = 0 := by omega
theorem vc_X12_pick_28 {z34999 z35007 : Int} (h0 : z35007 = 0) (h1 : (z35007 = 1 → 0 ≤ z34999)) (h2 : (z35007 = 0 → z34999 < 0)) (h3 : (-1) ≤ z34999 ∧ z34999 ≤ 9) (h4 : 0 ≤ z35007 ∧ z35007 ≤ 1) : 0 ≤ z35007 ∧ z35007 ≤ 0 := by omega
theorem vc_X12_pick_29 {z34999 z35007 : Int} (h0 : (z35007 = 1 → 0 ≤ z34999)) (h1 : (z35007 = 0 → z34999 < 0)) (h2 : z35007 = 0) (h3 : (-1) ≤ z34999 ∧ z34999 ≤ 9) (h4 : 0 ≤ z35007 ∧ z35007 ≤ 0) : z35007 = 0 := by omega
theorem vc_X12_pick_30 {z34999 z35007 : Int} (h0 : z34999 < 0) (h1 : (z35007 = 1 → 0 ≤ z34999)) (h2 : (z35007 = 0 → z34999 < 0)) (h3 : (-1) ≤ z34999 ∧ z34999 ≤ 9) (h4 : 0 ≤ z35007 ∧ z35007 ≤ 0) : (-1) ≤ z34999 ∧ z34999 ≤ (-1) := by omega
theorem vc_X12_pick_31 {f_ties z29593 z34069 z34928 : Int} (h0 : z29593 ≤ f_ties) (h1 : f_ties ≤ z29593) (h2 : z34069 ≤ f_ties) (h3 : f_ties ≤ z34069) (h4 : z34928 ≤ f_ties) (h5 : z34928 < f_ties) (h6 : 1 ≤ f_ties ∧ f_ties ≤ 20) (h7 : 0 ≤ z29593 ∧ z29593 ≤ 20) (h8 : 0 ≤ z34069 ∧ z34069 ≤ 20) (h9 : 0 ≤ z34928 ∧ z34928 ≤ 19) : (z34928 + 1) ≤ f_ties := by omega
theorem vc_X12_pick_32 {N f_ties z29593 z34069 z34928 : Int} (h0 : (21 - z34928) < N + 1) (h1 : z34928 ≤ f_ties) (h2 : z34928 < f_ties) (h3 : z29593 ≤ f_ties) (h4 : f_ties ≤ z29593) (h5 : z34069 ≤ f_ties) (h6 : f_ties ≤ z34069) (h7 : 1 ≤ f_ties ∧ f_ties ≤ 20) (h8 : 0 ≤ z29593 ∧ z29593 ≤ 20) (h9 : 0 ≤ z34069 ∧ z34069 ≤ 20) (h10 : 0 ≤ z34928 ∧ z34928 ≤ 19) : (21 - (z34928 + 1)) < N := by omega
theorem vc_X12_pick_33 {f_ties z29593 z34069 z34928 : Int} (h0 : z34928 ≤ f_ties) (h1 : z34928 < f_ties) (h2 : z29593 ≤ f_ties) (h3 : f_ties ≤ z29593) (h4 : z34069 ≤ f_ties) (h5 : f_ties ≤ z34069) (h6 : 1 ≤ f_ties ∧ f_ties ≤ 20) (h7 : 0 ≤ z29593 ∧ z29593 ≤ 20) (h8 : 0 ≤ z34069 ∧ z34069 ≤ 20) (h9 : 0 ≤ z34928 ∧ z34928 ≤ 19) : 0 ≤ z34928 := by omega
theorem vc_X12_pick_34 {f_ties z29593 z34069 z34928 : Int} (h0 : z34928 ≤ f_ties) (h1 : z34928 < f_ties) (h2 : z29593 ≤ f_ties) (h3 : f_ties ≤ z29593) (h4 : z34069 ≤ f_ties) (h5 : f_ties ≤ z34069) (h6 : 1 ≤ f_ties ∧ f_ties ≤ 20) (h7 : 0 ≤ z29593 ∧ z29593 ≤ 20) (h8 : 0 ≤ z34069 ∧ z34069 ≤ 20) (h9 : 0 ≤ z34928 ∧ z34928 ≤ 19) : (40 * (4 + z34928)) = 160 + 40 * z34928 := by omega
theorem vc_X12_pick_35 {z34999 z35007 : Int} (h0 : (z35007 = 1 → 0 ≤ z34999)) (h1 : (z35007 = 0 → z34999 < 0)) (h2 : z34999 < 0) (h3 : z35007 = 0) (h4 : (-1) ≤ z34999 ∧ z34999 ≤ (-1)) (h5 : 0 ≤ z35007 ∧ z35007 ≤ 0) : z34999 < 0 := by omega
theorem vc_X12_pick_36 {z34999 z35007 : Int} (h0 : ¬ z35007 = 0) (h1 : (z35007 = 1 → 0 ≤ z34999)) (h2 : (z35007 = 0 → z34999 < 0)) (h3 : (-1) ≤ z34999 ∧ z34999 ≤ 9) (h4 : 0 ≤ z35007 ∧ z35007 ≤ 1) : 1 ≤ z35007 ∧ z35007 ≤ 1 := by omega
theorem vc_X12_pick_37 {z34999 z35007 : Int} (h0 : (z35007 = 1 → 0 ≤ z34999)) (h1 : (z35007 = 0 → z34999 < 0)) (h2 : ¬ z35007 = 0) (h3 : (-1) ≤ z34999 ∧ z34999 ≤ 9) (h4 : 1 ≤ z35007 ∧ z35007 ≤ 1) : z35007 = 1 := by omega
theorem vc_X12_pick_38 {z34999 z35007 : Int} (h0 : 0 ≤ z34999) (h1 : (z35007 = 1 → 0 ≤ z34999)) (h2 : (z35007 = 0 → z34999 < 0)) (h3 : (-1) ≤ z34999 ∧ z34999 ≤ 9) (h4 : 1 ≤ z35007 ∧ z35007 ≤ 1) : 0 ≤ z34999 ∧ z34999 ≤ 9 := by omega
theorem vc_X12_pick_39 {f_ties z29593 z34069 z34928 : Int} (h0 : z34928 ≤ f_ties) (h1 : z34928 < f_ties) (h2 : z29593 ≤ f_ties) (h3 : f_ties ≤ z29593) (h4 : z34069 ≤ f_ties) (h5 : f_ties ≤ z34069) (h6 : 1 ≤ f_ties ∧ f_ties ≤ 20) (h7 : 0 ≤ z29593 ∧ z29593 ≤ 20) (h8 : 0 ≤ z34069 ∧ z34069 ≤ 20) (h9 : 0 ≤ z34928 ∧ z34928 ≤ 19) : ((40 * (4 + z34928)) + 4) % 40 = 4 := by omega
theorem vc_X12_pick_40 {z35018 : Int} (h0 : z35018 ≤ 0) (h1 : 0 ≤ z35018 ∧ z35018 ≤ 20) : 0 ≤ z35018 ∧ z35018 ≤ 0 := by omega
theorem vc_X12_pick_41 {f_ties z29593 z34069 z34928 : Int} (h0 : z34928 ≤ f_ties) (h1 : z34928 < f_ties) (h2 : z29593 ≤ f_ties) (h3 : f_ties ≤ z29593) (h4 : z34069 ≤ f_ties) (h5 : f_ties ≤ z34069) (h6 : 1 ≤ f_ties ∧ f_ties ≤ 20) (h7 : 0 ≤ z29593 ∧ z29593 ≤ 20) (h8 : 0 ≤ z34069 ∧ z34069 ≤ 20) (h9 : 0 ≤ z34928 ∧ z34928 ≤ 19) : ((40 * (4 + z34928)) + 4) = 164 + 40 * z34928 := by omega
theorem vc_X12_pick_42 {z35018 : Int} (h0 : z35018 ≤ 0) (h1 : 0 ≤ z35018 ∧ z35018 ≤ 0) : z35018 ≤ 0 := by omega
theorem vc_X12_pick_43 {z35018 : Int} (h0 : 0 < z35018) (h1 : 0 ≤ z35018 ∧ z35018 ≤ 20) : 1 ≤ z35018 ∧ z35018 ≤ 20 := by omega
theorem vc_X12_pick_44 {f_ties z29593 z34069 z34928 : Int} (h0 : z34928 ≤ f_ties) (h1 : z34928 < f_ties) (h2 : z29593 ≤ f_ties) (h3 : f_ties ≤ z29593) (h4 : z34069 ≤ f_ties) (h5 : f_ties ≤ z34069) (h6 : 1 ≤ f_ties ∧ f_ties ≤ 20) (h7 : 0 ≤ z29593 ∧ z29593 ≤ 20) (h8 : 0 ≤ z34069 ∧ z34069 ≤ 20) (h9 : 0 ≤ z34928 ∧ z34928 ≤ 19) : ((40 * (4 + z34928)) + 6) = 166 + 40 * z34928 := by omega
theorem vc_X12_pick_45 {z30671 z30672 z34070 z34071 z35028 : Int} (h0 : z34071 = 0 ∨ z30672 = 0 ∨ z30671 % 4294967296 < z34070 % 4294967296) (h1 : ¬ z35028 = z34070) (h2 : ¬ z34071 = 0) (h3 : (-2147483648) ≤ z30671 ∧ z30671 ≤ 2147483647) (h4 : 0 ≤ z30672 ∧ z30672 ≤ 1) (h5 : (-2147483648) ≤ z34070 ∧ z34070 ≤ 2147483647) (h6 : 1 ≤ z34071 ∧ z34071 ≤ 1) (h7 : (-2147483648) ≤ z35028 ∧ z35028 ≤ 2147483647) : ¬ z35028 = z34070 := by omega
theorem vc_X12_pick_46 {z34999 z35007 : Int} (h0 : (z35007 = 1 → 0 ≤ z34999)) (h1 : (z35007 = 0 → z34999 < 0)) (h2 : 0 ≤ z34999) (h3 : ¬ z35007 = 0) (h4 : 0 ≤ z34999 ∧ z34999 ≤ 9) (h5 : 1 ≤ z35007 ∧ z35007 ≤ 1) : 0 ≤ z34999 := by omega
theorem vc_X12_pick_47 {f_ties z29593 z34069 : Int} (h0 : z29593 ≤ f_ties) (h1 : f_ties ≤ z29593) (h2 : z34069 ≤ f_ties) (h3 : f_ties ≤ z34069) (h4 : 0 ≤ f_ties ∧ f_ties ≤ 20) (h5 : 0 ≤ z29593 ∧ z29593 ≤ 20) (h6 : 0 ≤ z34069 ∧ z34069 ≤ 20) : (0 : Int) ≤ f_ties := by omega
theorem vc_X12_pick_48  : (21 - 0) < ((22 : Nat) : Int) := by omega
theorem vc_X12_pick_49 {z30671 z30672 z34070 z34071 : Int} (h0 : z34071 = 0) (h1 : z34071 = 0 ∨ z30672 = 0 ∨ z30671 % 4294967296 < z34070 % 4294967296) (h2 : (-2147483648) ≤ z30671 ∧ z30671 ≤ 2147483647) (h3 : 0 ≤ z30672 ∧ z30672 ≤ 1) (h4 : (-2147483648) ≤ z34070 ∧ z34070 ≤ 2147483647) (h5 : 0 ≤ z34071 ∧ z34071 ≤ 1) : 0 ≤ z34071 ∧ z34071 ≤ 0 := by omega
theorem vc_X12_pick_50 {N z30670 z30671 z30672 z34070 z34071 : Int} (h0 : (((4294967296 * (2 - z30672)) - (z30671 % 4294967296)) + z30670) < N + 1) (h1 : ¬ z30670 = 0) (h2 : z34071 = 0 ∨ z30672 = 0 ∨ z30671 % 4294967296 < z34070 % 4294967296) (h3 : z34071 = 0) (h4 : 1 ≤ z30670 ∧ z30670 ≤ 1) (h5 : (-2147483648) ≤ z30671 ∧ z30671 ≤ 2147483647) (h6 : 0 ≤ z30672 ∧ z30672 ≤ 1) (h7 : (-2147483648) ≤ z34070 ∧ z34070 ≤ 2147483647) (h8 : 0 ≤ z34071 ∧ z34071 ≤ 0) : (((4294967296 * (2 - z30672)) - (z30671 % 4294967296)) + z34071) < N := by omega
theorem vc_X12_pick_51 {z30673 : Int} (h0 : (-99999999) ≤ z30673 ∧ z30673 ≤ 19) (h1 : z30673 = (-99999999) ∨ (0 ≤ z30673 ∧ z30673 ≤ 19)) : z30673 = (-99999999) ∨ (0 ≤ z30673 ∧ z30673 ≤ 19) := by omega
theorem vc_X12_pick_52 {f_ties z29593 z34069 : Int} (h0 : z34069 < f_ties) (h1 : z29593 ≤ f_ties) (h2 : f_ties ≤ z29593) (h3 : z34069 ≤ f_ties) (h4 : 0 ≤ f_ties ∧ f_ties ≤ 20) (h5 : 0 ≤ z29593 ∧ z29593 ≤ 20) (h6 : 0 ≤ z34069 ∧ z34069 ≤ 20) : 0 ≤ z34069 ∧ z34069 ≤ 19 := by omega
theorem vc_X12_pick_53 {f_ties z29593 z34069 : Int} (h0 : z34069 < f_ties) (h1 : z29593 ≤ f_ties) (h2 : f_ties ≤ z29593) (h3 : z34069 ≤ f_ties) (h4 : 0 ≤ f_ties ∧ f_ties ≤ 20) (h5 : 0 ≤ z29593 ∧ z29593 ≤ 20) (h6 : 0 ≤ z34069 ∧ z34069 ≤ 19) : 1 ≤ f_ties ∧ f_ties ≤ 20 := by omega
theorem vc_X12_pick_54 {f_ties z29593 z34069 : Int} (h0 : z34069 ≤ f_ties) (h1 : z34069 < f_ties) (h2 : z29593 ≤ f_ties) (h3 : f_ties ≤ z29593) (h4 : 1 ≤ f_ties ∧ f_ties ≤ 20) (h5 : 0 ≤ z29593 ∧ z29593 ≤ 20) (h6 : 0 ≤ z34069 ∧ z34069 ≤ 19) : 0 ≤ (40 * (4 + z34069)) := by omega
theorem vc_X12_pick_55 {f_ties z29593 z34069 : Int} (h0 : z34069 ≤ f_ties) (h1 : z34069 < f_ties) (h2 : z29593 ≤ f_ties) (h3 : f_ties ≤ z29593) (h4 : 1 ≤ f_ties ∧ f_ties ≤ 20) (h5 : 0 ≤ z29593 ∧ z29593 ≤ 20) (h6 : 0 ≤ z34069 ∧ z34069 ≤ 19) : (40 * (4 + z34069)) % 40 = 0 := by omega
theorem vc_X12_pick_56 {z35041 z35049 : Int} (h0 : z35049 = 0) (h1 : (z35049 = 1 → 0 ≤ z35041)) (h2 : (z35049 = 0 → z35041 < 0)) (h3 : (-1) ≤ z35041 ∧ z35041 ≤ 9) (h4 : 0 ≤ z35049 ∧ z35049 ≤ 1) : 0 ≤ z35049 ∧ z35049 ≤ 0 := by omega
theorem vc_X12_pick_57 {z35041 z35049 : Int} (h0 : (z35049 = 1 → 0 ≤ z35041)) (h1 : (z35049 = 0 → z35041 < 0)) (h2 : z35049 = 0) (h3 : (-1) ≤ z35041 ∧ z35041 ≤ 9) (h4 : 0 ≤ z35049 ∧ z35049 ≤ 0) : z35049 = 0 := by omega
theorem vc_X12_pick_58 {z35041 z35049 : Int} (h0 : z35041 < 0) (h1 : (z35049 = 1 → 0 ≤ z35041)) (h2 : (z35049 = 0 → z35041 < 0)) (h3 : (-1) ≤ z35041 ∧ z35041 ≤ 9) (h4 : 0 ≤ z35049 ∧ z35049 ≤ 0) : (-1) ≤ z35041 ∧ z35041 ≤ (-1) := by omega
theorem vc_X12_pick_59 {f_ties z29593 z34069 : Int} (h0 : z29593 ≤ f_ties) (h1 : f_ties ≤ z29593) (h2 : z34069 ≤ f_ties) (h3 : z34069 < f_ties) (h4 : 1 ≤ f_ties ∧ f_ties ≤ 20) (h5 : 0 ≤ z29593 ∧ z29593 ≤ 20) (h6 : 0 ≤ z34069 ∧ z34069 ≤ 19) : (z34069 + 1) ≤ f_ties := by omega
theorem vc_X12_pick_60 {z30671 z30672 z34070 z34071 : Int} (h0 : z34071 = 0 ∨ z30672 = 0 ∨ z30671 % 4294967296 < z34070 % 4294967296) (h1 : (-2147483648) ≤ z30671 ∧ z30671 ≤ 2147483647) (h2 : 0 ≤ z30672 ∧ z30672 ≤ 1) (h3 : (-2147483648) ≤ z34070 ∧ z34070 ≤ 2147483647) (h4 : 0 ≤ z34071 ∧ z34071 ≤ 1) : z34071 = 0 ∨ z30672 = 0 ∨ z30671 % 4294967296 < z34070 % 4294967296 := by omega
theorem vc_X12_pick_61 {N f_ties z29593 z34069 : Int} (h0 : (21 - z34069) < N + 1) (h1 : z34069 ≤ f_ties) (h2 : z34069 < f_ties) (h3 : z29593 ≤ f_ties) (h4 : f_ties ≤ z29593) (h5 : 1 ≤ f_ties ∧ f_ties ≤ 20) (h6 : 0 ≤ z29593 ∧ z29593 ≤ 20) (h7 : 0 ≤ z34069 ∧ z34069 ≤ 19) : (21 - (z34069 + 1)) < N := by omega
theorem vc_X12_pick_62 {f_ties z29593 z34069 : Int} (h0 : z34069 ≤ f_ties) (h1 : z34069 < f_ties) (h2 : z29593 ≤ f_ties) (h3 : f_ties ≤ z29593) (h4 : 1 ≤ f_ties ∧ f_ties ≤ 20) (h5 : 0 ≤ z29593 ∧ z29593 ≤ 20) (h6 : 0 ≤ z34069 ∧ z34069 ≤ 19) : z34069 ≤ z34069 + 1 := by omega
theorem vc_X12_pick_63 {z35041 z35049 : Int} (h0 : ¬ z35049 = 0) (h1 : (z35049 = 1 → 0 ≤ z35041)) (h2 : (z35049 = 0 → z35041 < 0)) (h3 : (-1) ≤ z35041 ∧ z35041 ≤ 9) (h4 : 0 ≤ z35049 ∧ z35049 ≤ 1) : 1 ≤ z35049 ∧ z35049 ≤ 1 := by omega
theorem vc_X12_pick_64 {z35041 z35049 : Int} (h0 : (z35049 = 1 → 0 ≤ z35041)) (h1 : (z35049 = 0 → z35041 < 0)) (h2 : ¬ z35049 = 0) (h3 : (-1) ≤ z35041 ∧ z35041 ≤ 9) (h4 : 1 ≤ z35049 ∧ z35049 ≤ 1) : z35049 = 1 := by omega
theorem vc_X12_pick_65 {z35041 z35049 : Int} (h0 : 0 ≤ z35041) (h1 : (z35049 = 1 → 0 ≤ z35041)) (h2 : (z35049 = 0 → z35041 < 0)) (h3 : (-1) ≤ z35041 ∧ z35041 ≤ 9) (h4 : 1 ≤ z35049 ∧ z35049 ≤ 1) : 0 ≤ z35041 ∧ z35041 ≤ 9 := by omega
theorem vc_X12_pick_66 {f_ties z29593 z34069 : Int} (h0 : z34069 ≤ f_ties) (h1 : z34069 < f_ties) (h2 : z29593 ≤ f_ties) (h3 : f_ties ≤ z29593) (h4 : 1 ≤ f_ties ∧ f_ties ≤ 20) (h5 : 0 ≤ z29593 ∧ z29593 ≤ 20) (h6 : 0 ≤ z34069 ∧ z34069 ≤ 19) : ((40 * (4 + z34069)) + 4) % 40 = 4 := by omega
theorem vc_X12_pick_67 {z35057 : Int} (h0 : ¬ z35057 = 0) (h1 : 0 ≤ z35057 ∧ z35057 ≤ 20) : 1 ≤ z35057 ∧ z35057 ≤ 20 := by omega
theorem vc_X12_pick_68 {z30671 z30672 z34070 z34071 : Int} (h0 : z30672 = 0) (h1 : z34071 = 0 ∨ z30672 = 0 ∨ z30671 % 4294967296 < z34070 % 4294967296) (h2 : (-2147483648) ≤ z30671 ∧ z30671 ≤ 2147483647) (h3 : 0 ≤ z30672 ∧ z30672 ≤ 1) (h4 : (-2147483648) ≤ z34070 ∧ z34070 ≤ 2147483647) (h5 : 0 ≤ z34071 ∧ z34071 ≤ 1) : 0 ≤ z30672 ∧ z30672 ≤ 0 := by omega
theorem vc_X12_pick_69 {z30671 z30672 z34070 z34071 : Int} (h0 : z34071 = 0) (h1 : z34071 = 0 ∨ z30672 = 0 ∨ z30671 % 4294967296 < z34070 % 4294967296) (h2 : (-2147483648) ≤ z30671 ∧ z30671 ≤ 2147483647) (h3 : 0 ≤ z30672 ∧ z30672 ≤ 0) (h4 : (-2147483648) ≤ z34070 ∧ z34070 ≤ 2147483647) (h5 : 0 ≤ z34071 ∧ z34071 ≤ 1) : 0 ≤ z34071 ∧ z34071 ≤ 0 := by omega
theorem vc_X12_pick_70 {z30671 z30672 z34070 z34071 z35063 : Int} (h0 : z34071 = 0 ∨ z30672 = 0 ∨ z30671 % 4294967296 < z34070 % 4294967296) (h1 : z30672 = 0) (h2 : z34071 = 0) (h3 : (-2147483648) ≤ z30671 ∧ z30671 ≤ 2147483647) (h4 : 0 ≤ z30672 ∧ z30672 ≤ 0) (h5 : (-2147483648) ≤ z34070 ∧ z34070 ≤ 2147483647) (h6 : 0 ≤ z34071 ∧ z34071 ≤ 0) (h7 : (-2147483648) ≤ z35063 ∧ z35063 ≤ 2147483647) : (1 : Int) = 0 ∨ z30672 = 0 ∨ z30671 % 4294967296 < z35063 % 4294967296 := by omega
theorem vc_X12_pick_71 {f_ties z29593 z34069 : Int} (h0 : z34069 ≤ f_ties) (h1 : z34069 < f_ties) (h2 : z29593 ≤ f_ties) (h3 : f_ties ≤ z29593) (h4 : 1 ≤ f_ties ∧ f_ties ≤ 20) (h5 : 0 ≤ z29593 ∧ z29593 ≤ 20) (h6 : 0 ≤ z34069 ∧ z34069 ≤ 19) : 0 ≤ z34069 := by omega
theorem vc_X12_pick_72 {f_ties z29593 z34069 : Int} (h0 : z34069 ≤ f_ties) (h1 : z34069 < f_ties) (h2 : z29593 ≤ f_ties) (h3 : f_ties ≤ z29593) (h4 : 1 ≤ f_ties ∧ f_ties ≤ 20) (h5 : 0 ≤ z29593 ∧ z29593 ≤ 20) (h6 : 0 ≤ z34069 ∧ z34069 ≤ 19) : (40 * (4 + z34069)) = 160 + 40 * z34069 := by omega
theorem vc_X12_pick_73 {z35041 z35049 : Int} (h0 : (z35049 = 1 → 0 ≤ z35041)) (h1 : (z35049 = 0 → z35041 < 0)) (h2 : 0 ≤ z35041) (h3 : ¬ z35049 = 0) (h4 : 0 ≤ z35041 ∧ z35041 ≤ 9) (h5 : 1 ≤ z35049 ∧ z35049 ≤ 1) : 0 ≤ z35041 := by omega
theorem vc_X12_pick_74 {f_ties z29593 z34069 : Int} (h0 : z34069 ≤ f_ties) (h1 : z34069 < f_ties) (h2 : z29593 ≤ f_ties) (h3 : f_ties ≤ z29593) (h4 : 1 ≤ f_ties ∧ f_ties ≤ 20) (h5 : 0 ≤ z29593 ∧ z29593 ≤ 20) (h6 : 0 ≤ z34069 ∧ z34069 ≤ 19) : ((40 * (4 + z34069)) + 4) = 164 + 40 * z34069 := by omega
theorem vc_X12_pick_75 {z35057 : Int} (h0 : ¬ z35057 = 0) (h1 : 1 ≤ z35057 ∧ z35057 ≤ 20) : 0 < z35057 := by omega
theorem vc_X12_pick_76 {f_ties z29593 z34069 : Int} (h0 : z34069 ≤ f_ties) (h1 : z34069 < f_ties) (h2 : z29593 ≤ f_ties) (h3 : f_ties ≤ z29593) (h4 : 1 ≤ f_ties ∧ f_ties ≤ 20) (h5 : 0 ≤ z29593 ∧ z29593 ≤ 20) (h6 : 0 ≤ z34069 ∧ z34069 ≤ 19) : ((40 * (4 + z34069)) + 6) = 166 + 40 * z34069 := by omega
theorem vc_X12_pick_77 {z30671 z30672 z34070 z34071 : Int} (h0 : ¬ z34071 = 0) (h1 : z34071 = 0 ∨ z30672 = 0 ∨ z30671 % 4294967296 < z34070 % 4294967296) (h2 : (-2147483648) ≤ z30671 ∧ z30671 ≤ 2147483647) (h3 : 0 ≤ z30672 ∧ z30672 ≤ 0) (h4 : (-2147483648) ≤ z34070 ∧ z34070 ≤ 2147483647) (h5 : 0 ≤ z34071 ∧ z34071 ≤ 1) : 1 ≤ z34071 ∧ z34071 ≤ 1 := by omega
theorem vc_X12_pick_78 {z34070 z35063 z35075 : Int} (h0 : z35075 = 0) (h1 : (z35075 = 1 → z35063 % 4294967296 < z34070 % 4294967296)) (h2 : (z35075 = 0 → z34070 % 4294967296 ≤ z35063 % 4294967296)) (h3 : (-2147483648) ≤ z34070 ∧ z34070 ≤ 2147483647) (h4 : (-2147483648) ≤ z35063 ∧ z35063 ≤ 2147483647) (h5 : 0 ≤ z35075 ∧ z35075 ≤ 1) : 0 ≤ z35075 ∧ z35075 ≤ 0 := by omega
theorem vc_X12_pick_79 {z30671 z30672 z34070 z34071 z35063 z35075 : Int} (h0 : (z35075 = 1 → z35063 % 4294967296 < z34070 % 4294967296)) (h1 : (z35075 = 0 → z34070 % 4294967296 ≤ z35063 % 4294967296)) (h2 : z35075 = 0) (h3 : z34071 = 0 ∨ z30672 = 0 ∨ z30671 % 4294967296 < z34070 % 4294967296) (h4 : (-2147483648) ≤ z30671 ∧ z30671 ≤ 2147483647) (h5 : 0 ≤ z30672 ∧ z30672 ≤ 0) (h6 : (-2147483648) ≤ z34070 ∧ z34070 ≤ 2147483647) (h7 : 1 ≤ z34071 ∧ z34071 ≤ 1) (h8 : (-2147483648) ≤ z35063 ∧ z35063 ≤ 2147483647) (h9 : 0 ≤ z35075 ∧ z35075 ≤ 0) : z35075 = 0 := by omega
theorem vc_X12_pick_80 {z30671 z30672 z34070 z34071 z35063 z35075 : Int} (h0 : z34071 = 0 ∨ z30672 = 0 ∨ z30671 % 4294967296 < z34070 % 4294967296) (h1 : z30672 = 0) (h2 : ¬ z34071 = 0) (h3 : (z35075 = 1 → z35063 % 4294967296 < z34070 % 4294967296)) (h4 : (z35075 = 0 → z34070 % 4294967296 ≤ z35063 % 4294967296)) (h5 : z34070 % 4294967296 ≤ z35063 % 4294967296) (h6 : z35075 = 0) (h7 : (-2147483648) ≤ z30671 ∧ z30671 ≤ 2147483647) (h8 : 0 ≤ z30672 ∧ z30672 ≤ 0) (h9 : (-2147483648) ≤ z34070 ∧ z34070 ≤ 2147483647) (h10 : 1 ≤ z34071 ∧ z34071 ≤ 1) (h11 : (-2147483648) ≤ z35063 ∧ z35063 ≤ 2147483647) (h12 : 0 ≤ z35075 ∧ z35075 ≤ 0) : z34071 = 0 ∨ z30672 = 0 ∨ z30671 % 4294967296 < z34070 % 4294967296 := by omega
theorem vc_X12_pick_81 {z34070 z35063 z35075 : Int} (h0 : ¬ z35075 = 0) (h1 : (z35075 = 1 → z35063 % 4294967296 < z34070 % 4294967296)) (h2 : (z35075 = 0 → z34070 % 4294967296 ≤ z35063 % 4294967296)) (h3 : (-2147483648) ≤ z34070 ∧ z34070 ≤ 2147483647) (h4 : (-2147483648) ≤ z35063 ∧ z35063 ≤ 2147483647) (h5 : 0 ≤ z35075 ∧ z35075 ≤ 1) : 1 ≤ z35075 ∧ z35075 ≤ 1 := by omega
theorem vc_X12_pick_82 {z30671 z30672 z34070 z34071 z35063 z35075 : Int} (h0 : (z35075 = 1 → z35063 % 4294967296 < z34070 % 4294967296)) (h1 : (z35075 = 0 → z34070 % 4294967296 ≤ z35063 % 4294967296)) (h2 : ¬ z35075 = 0) (h3 : z34071 = 0 ∨ z30672 = 0 ∨ z30671 % 4294967296 < z34070 % 4294967296) (h4 : (-2147483648) ≤ z30671 ∧ z30671 ≤ 2147483647) (h5 : 0 ≤ z30672 ∧ z30672 ≤ 0) (h6 : (-2147483648) ≤ z34070 ∧ z34070 ≤ 2147483647) (h7 : 1 ≤ z34071 ∧ z34071 ≤ 1) (h8 : (-2147483648) ≤ z35063 ∧ z35063 ≤ 2147483647) (h9 : 1 ≤ z35075 ∧ z35075 ≤ 1) : z35075 = 1 := by omega
theorem vc_X12_pick_83 {z30671 z30672 z34070 z34071 z35063 z35075 : Int} (h0 : z34071 = 0 ∨ z30672 = 0 ∨ z30671 % 4294967296 < z34070 % 4294967296) (h1 : z30672 = 0) (h2 : (z35075 = 1 → z35063 % 4294967296 < z34070 % 4294967296)) (h3 : (z35075 = 0 → z34070 % 4294967296 ≤ z35063 % 4294967296)) (h4 : z35063 % 4294967296 < z34070 % 4294967296) (h5 : ¬ z34071 = 0) (h6 : ¬ z35075 = 0) (h7 : (-2147483648) ≤ z30671 ∧ z30671 ≤ 2147483647) (h8 : 0 ≤ z30672 ∧ z30672 ≤ 0) (h9 : (-2147483648) ≤ z34070 ∧ z34070 ≤ 2147483647) (h10 : 1 ≤ z34071 ∧ z34071 ≤ 1) (h11 : (-2147483648) ≤ z35063 ∧ z35063 ≤ 2147483647) (h12 : 1 ≤ z35075 ∧ z35075 ≤ 1) : (1 : Int) = 0 ∨ z30672 = 0 ∨ z30671 % 4294967296 < z35063 % 4294967296 := by omega
theorem vc_X12_pick_84 {z30671 z30672 z34070 z34071 : Int} (h0 : ¬ z30672 = 0) (h1 : z34071 = 0 ∨ z30672 = 0 ∨ z30671 % 4294967296 < z34070 % 4294967296) (h2 : (-2147483648) ≤ z30671 ∧ z30671 ≤ 2147483647) (h3 : 0 ≤ z30672 ∧ z30672 ≤ 1) (h4 : (-2147483648) ≤ z34070 ∧ z34070 ≤ 2147483647) (h5 : 0 ≤ z34071 ∧ z34071 ≤ 1) : 1 ≤ z30672 ∧ z30672 ≤ 1 := by omega
theorem vc_X12_pick_85 {z30671 z35063 z35086 : Int} (h0 : z35086 = 0) (h1 : (z35086 = 1 → z30671 % 4294967296 < z35063 % 4294967296)) (h2 : (z35086 = 0 → z35063 % 4294967296 ≤ z30671 % 4294967296)) (h3 : (-2147483648) ≤ z30671 ∧ z30671 ≤ 2147483647) (h4 : (-2147483648) ≤ z35063 ∧ z35063 ≤ 2147483647) (h5 : 0 ≤ z35086 ∧ z35086 ≤ 1) : 0 ≤ z35086 ∧ z35086 ≤ 0 := by omega
theorem vc_X12_pick_86 {z30671 z30672 z34070 z34071 z35063 z35086 : Int} (h0 : (z35086 = 1 → z30671 % 4294967296 < z35063 % 4294967296)) (h1 : (z35086 = 0 → z35063 % 4294967296 ≤ z30671 % 4294967296)) (h2 : z35086 = 0) (h3 : z34071 = 0 ∨ z30672 = 0 ∨ z30671 % 4294967296 < z34070 % 4294967296) (h4 : (-2147483648) ≤ z30671 ∧ z30671 ≤ 2147483647) (h5 : 1 ≤ z30672 ∧ z30672 ≤ 1) (h6 : (-2147483648) ≤ z34070 ∧ z34070 ≤ 2147483647) (h7 : 0 ≤ z34071 ∧ z34071 ≤ 1) (h8 : (-2147483648) ≤ z35063 ∧ z35063 ≤ 2147483647) (h9 : 0 ≤ z35086 ∧ z35086 ≤ 0) : z35086 = 0 := by omega
theorem vc_X12_pick_87 {z30671 z30672 z34070 z34071 z35063 z35086 : Int} (h0 : z34071 = 0 ∨ z30672 = 0 ∨ z30671 % 4294967296 < z34070 % 4294967296) (h1 : ¬ z30672 = 0) (h2 : (z35086 = 1 → z30671 % 4294967296 < z35063 % 4294967296)) (h3 : (z35086 = 0 → z35063 % 4294967296 ≤ z30671 % 4294967296)) (h4 : z35063 % 4294967296 ≤ z30671 % 4294967296) (h5 : z35086 = 0) (h6 : (-2147483648) ≤ z30671 ∧ z30671 ≤ 2147483647) (h7 : 1 ≤ z30672 ∧ z30672 ≤ 1) (h8 : (-2147483648) ≤ z34070 ∧ z34070 ≤ 2147483647) (h9 : 0 ≤ z34071 ∧ z34071 ≤ 1) (h10 : (-2147483648) ≤ z35063 ∧ z35063 ≤ 2147483647) (h11 : 0 ≤ z35086 ∧ z35086 ≤ 0) : z34071 = 0 ∨ z30672 = 0 ∨ z30671 % 4294967296 < z34070 % 4294967296 := by omega
theorem vc_X12_pick_88 {z30671 z35063 z35086 : Int} (h0 : ¬ z35086 = 0) (h1 : (z35086 = 1 → z30671 % 4294967296 < z35063 % 4294967296)) (h2 : (z35086 = 0 → z35063 % 4294967296 ≤ z30671 % 4294967296)) (h3 : (-2147483648) ≤ z30671 ∧ z30671 ≤ 2147483647) (h4 : (-2147483648) ≤ z35063 ∧ z35063 ≤ 2147483647) (h5 : 0 ≤ z35086 ∧ z35086 ≤ 1) : 1 ≤ z35086 ∧ z35086 ≤ 1 := by omega
theorem vc_X12_pick_89 {z30671 z30672 z34070 z34071 z35063 z35086 : Int} (h0 : (z35086 = 1 → z30671 % 4294967296 < z35063 % 4294967296)) (h1 : (z35086 = 0 → z35063 % 4294967296 ≤ z30671 % 4294967296)) (h2 : ¬ z35086 = 0) (h3 : z34071 = 0 ∨ z30672 = 0 ∨ z30671 % 4294967296 < z34070 % 4294967296) (h4 : (-2147483648) ≤ z30671 ∧ z30671 ≤ 2147483647) (h5 : 1 ≤ z30672 ∧ z30672 ≤ 1) (h6 : (-2147483648) ≤ z34070 ∧ z34070 ≤ 2147483647) (h7 : 0 ≤ z34071 ∧ z34071 ≤ 1) (h8 : (-2147483648) ≤ z35063 ∧ z35063 ≤ 2147483647) (h9 : 1 ≤ z35086 ∧ z35086 ≤ 1) : z35086 = 1 := by omega
theorem vc_X12_pick_90 {z30671 z30672 z34070 z34071 : Int} (h0 : z34071 = 0) (h1 : z34071 = 0 ∨ z30672 = 0 ∨ z30671 % 4294967296 < z34070 % 4294967296) (h2 : (-2147483648) ≤ z30671 ∧ z30671 ≤ 2147483647) (h3 : 1 ≤ z30672 ∧ z30672 ≤ 1) (h4 : (-2147483648) ≤ z34070 ∧ z34070 ≤ 2147483647) (h5 : 0 ≤ z34071 ∧ z34071 ≤ 1) : 0 ≤ z34071 ∧ z34071 ≤ 0 := by omega
theorem vc_X12_pick_91 {z30671 z30672 z34070 z34071 z35063 z35086 : Int} (h0 : z34071 = 0 ∨ z30672 = 0 ∨ z30671 % 4294967296 < z34070 % 4294967296) (h1 : ¬ z30672 = 0) (h2 : (z35086 = 1 → z30671 % 4294967296 < z35063 % 4294967296)) (h3 : (z35086 = 0 → z35063 % 4294967296 ≤ z30671 % 4294967296)) (h4 : z30671 % 4294967296 < z35063 % 4294967296) (h5 : ¬ z35086 = 0) (h6 : z34071 = 0) (h7 : (-2147483648) ≤ z30671 ∧ z30671 ≤ 2147483647) (h8 : 1 ≤ z30672 ∧ z30672 ≤ 1) (h9 : (-2147483648) ≤ z34070 ∧ z34070 ≤ 2147483647) (h10 : 0 ≤ z34071 ∧ z34071 ≤ 0) (h11 : (-2147483648) ≤ z35063 ∧ z35063 ≤ 2147483647) (h12 : 1 ≤ z35086 ∧ z35086 ≤ 1) : (1 : Int) = 0 ∨ z30672 = 0 ∨ z30671 % 4294967296 < z35063 % 4294967296 := by omega
theorem vc_X12_pick_92 {z30671 z30672 z34070 z34071 : Int} (h0 : ¬ z34071 = 0) (h1 : z34071 = 0 ∨ z30672 = 0 ∨ z30671 % 4294967296 < z34070 % 4294967296) (h2 : (-2147483648) ≤ z30671 ∧ z30671 ≤ 2147483647) (h3 : 1 ≤ z30672 ∧ z30672 ≤ 1) (h4 : (-2147483648) ≤ z34070 ∧ z34070 ≤ 2147483647) (h5 : 0 ≤ z34071 ∧ z34071 ≤ 1) : 1 ≤ z34071 ∧ z34071 ≤ 1 := by omega
theorem vc_X12_pick_93 {z34070 z35063 z35099 : Int} (h0 : z35099 = 0) (h1 : (z35099 = 1 → z35063 % 4294967296 < z34070 % 4294967296)) (h2 : (z35099 = 0 → z34070 % 4294967296 ≤ z35063 % 4294967296)) (h3 : (-2147483648) ≤ z34070 ∧ z34070 ≤ 2147483647) (h4 : (-2147483648) ≤ z35063 ∧ z35063 ≤ 2147483647) (h5 : 0 ≤ z35099 ∧ z35099 ≤ 1) : 0 ≤ z35099 ∧ z35099 ≤ 0 := by omega
theorem vc_X12_pick_94 {z30671 z30672 z34070 z34071 z35063 z35086 z35099 : Int} (h0 : (z35099 = 1 → z35063 % 4294967296 < z34070 % 4294967296)) (h1 : (z35099 = 0 → z34070 % 4294967296 ≤ z35063 % 4294967296)) (h2 : z35099 = 0) (h3 : z34071 = 0 ∨ z30672 = 0 ∨ z30671 % 4294967296 < z34070 % 4294967296) (h4 : (z35086 = 1 → z30671 % 4294967296 < z35063 % 4294967296)) (h5 : (z35086 = 0 → z35063 % 4294967296 ≤ z30671 % 4294967296)) (h6 : z30671 % 4294967296 < z35063 % 4294967296) (h7 : (-2147483648) ≤ z30671 ∧ z30671 ≤ 2147483647) (h8 : 1 ≤ z30672 ∧ z30672 ≤ 1) (h9 : (-2147483648) ≤ z34070 ∧ z34070 ≤ 2147483647) (h10 : 1 ≤ z34071 ∧ z34071 ≤ 1) (h11 : (-2147483648) ≤ z35063 ∧ z35063 ≤ 2147483647) (h12 : 1 ≤ z35086 ∧ z35086 ≤ 1) (h13 : 0 ≤ z35099 ∧ z35099 ≤ 0) : z35099 = 0 := by omega
theorem vc_X12_pick_95 {z30671 z30672 z34070 z34071 z35063 z35086 z35099 : Int} (h0 : z34071 = 0 ∨ z30672 = 0 ∨ z30671 % 4294967296 < z34070 % 4294967296) (h1 : ¬ z30672 = 0) (h2 : (z35086 = 1 → z30671 % 4294967296 < z35063 % 4294967296)) (h3 : (z35086 = 0 → z35063 % 4294967296 ≤ z30671 % 4294967296)) (h4 : z30671 % 4294967296 < z35063 % 4294967296) (h5 : ¬ z34071 = 0) (h6 : (z35099 = 1 → z35063 % 4294967296 < z34070 % 4294967296)) (h7 : (z35099 = 0 → z34070 % 4294967296 ≤ z35063 % 4294967296)) (h8 : z34070 % 4294967296 ≤ z35063 % 4294967296) (h9 : ¬ z35086 = 0) (h10 : z35099 = 0) (h11 : (-2147483648) ≤ z30671 ∧ z30671 ≤ 2147483647) (h12 : 1 ≤ z30672 ∧ z30672 ≤ 1) (h13 : (-2147483648) ≤ z34070 ∧ z34070 ≤ 2147483647) (h14 : 1 ≤ z34071 ∧ z34071 ≤ 1) (h15 : (-2147483648) ≤ z35063 ∧ z35063 ≤ 2147483647) (h16 : 1 ≤ z35086 ∧ z35086 ≤ 1) (h17 : 0 ≤ z35099 ∧ z35099 ≤ 0) : z34071 = 0 ∨ z30672 = 0 ∨ z30671 % 4294967296 < z34070 % 4294967296 := by omega
theorem vc_X12_pick_96 {z34070 z35063 z35099 : Int} (h0 : ¬ z35099 = 0) (h1 : (z35099 = 1 → z35063 % 4294967296 < z34070 % 4294967296)) (h2 : (z35099 = 0 → z34070 % 4294967296 ≤ z35063 % 4294967296)) (h3 : (-2147483648) ≤ z34070 ∧ z34070 ≤ 2147483647) (h4 : (-2147483648) ≤ z35063 ∧ z35063 ≤ 2147483647) (h5 : 0 ≤ z35099 ∧ z35099 ≤ 1) : 1 ≤ z35099 ∧ z35099 ≤ 1 := by omega
theorem vc_X12_pick_97 {z30671 z30672 z34070 z34071 z35063 z35086 z35099 : Int} (h0 : (z35099 = 1 → z35063 % 4294967296 < z34070 % 4294967296)) (h1 : (z35099 = 0 → z34070 % 4294967296 ≤ z35063 % 4294967296)) (h2 : ¬ z35099 = 0) (h3 : z34071 = 0 ∨ z30672 = 0 ∨ z30671 % 4294967296 < z34070 % 4294967296) (h4 : (z35086 = 1 → z30671 % 4294967296 < z35063 % 4294967296)) (h5 : (z35086 = 0 → z35063 % 4294967296 ≤ z30671 % 4294967296)) (h6 : z30671 % 4294967296 < z35063 % 4294967296) (h7 : (-2147483648) ≤ z30671 ∧ z30671 ≤ 2147483647) (h8 : 1 ≤ z30672 ∧ z30672 ≤ 1) (h9 : (-2147483648) ≤ z34070 ∧ z34070 ≤ 2147483647) (h10 : 1 ≤ z34071 ∧ z34071 ≤ 1) (h11 : (-2147483648) ≤ z35063 ∧ z35063 ≤ 2147483647) (h12 : 1 ≤ z35086 ∧ z35086 ≤ 1) (h13 : 1 ≤ z35099 ∧ z35099 ≤ 1) : z35099 = 1 := by omega
theorem vc_X12_pick_98 {z30671 z30672 z34070 z34071 z35063 z35086 z35099 : Int} (h0 : z34071 = 0 ∨ z30672 = 0 ∨ z30671 % 4294967296 < z34070 % 4294967296) (h1 : ¬ z30672 = 0) (h2 : (z35086 = 1 → z30671 % 4294967296 < z35063 % 4294967296)) (h3 : (z35086 = 0 → z35063 % 4294967296 ≤ z30671 % 4294967296)) (h4 : z30671 % 4294967296 < z35063 % 4294967296) (h5 : (z35099 = 1 → z35063 % 4294967296 < z34070 % 4294967296)) (h6 : (z35099 = 0 → z34070 % 4294967296 ≤ z35063 % 4294967296)) (h7 : z35063 % 4294967296 < z34070 % 4294967296) (h8 : ¬ z35086 = 0) (h9 : ¬ z34071 = 0) (h10 : ¬ z35099 = 0) (h11 : (-2147483648) ≤ z30671 ∧ z30671 ≤ 2147483647) (h12 : 1 ≤ z30672 ∧ z30672 ≤ 1) (h13 : (-2147483648) ≤ z34070 ∧ z34070 ≤ 2147483647) (h14 : 1 ≤ z34071 ∧ z34071 ≤ 1) (h15 : (-2147483648) ≤ z35063 ∧ z35063 ≤ 2147483647) (h16 : 1 ≤ z35086 ∧ z35086 ≤ 1) (h17 : 1 ≤ z35099 ∧ z35099 ≤ 1) : (1 : Int) = 0 ∨ z30672 = 0 ∨ z30671 % 4294967296 < z35063 % 4294967296 := by omega
theorem vc_X12_pick_99 {z35057 : Int} (h0 : z35057 = 0) (h1 : 0 ≤ z35057 ∧ z35057 ≤ 20) : 0 ≤ z35057 ∧ z35057 ≤ 0 := by omega
theorem vc_X12_pick_100 {f_ties z29593 : Int} (h0 : z29593 ≤ f_ties) (h1 : f_ties ≤ z29593) (h2 : 0 ≤ f_ties ∧ f_ties ≤ 20) (h3 : 0 ≤ z29593 ∧ z29593 ≤ 20) : (0 : Int) ≤ f_ties := by omega
theorem vc_X12_pick_101 {z30671 z30672 : Int} (h0 : (-2147483648) ≤ z30671 ∧ z30671 ≤ 2147483647) (h1 : 0 ≤ z30672 ∧ z30672 ≤ 1) : (0 : Int) = 0 ∨ z30672 = 0 ∨ z30671 % 4294967296 < (0 : Int) % 4294967296 := by omega
theorem vc_X12_pick_102  : (((4294967296 * (2 - 0)) - (0 % 4294967296)) + 1) < ((8589934594 : Nat) : Int) := by omega
theorem vc_X12_pick_103 {z29594 : Int} (h0 : (-99999999) ≤ z29594 ∧ z29594 ≤ 19) (h1 : z29594 = (-99999999) ∨ (0 ≤ z29594 ∧ z29594 ≤ 19)) : z29594 = (-99999999) ∨ (0 ≤ z29594 ∧ z29594 ≤ 19) := by omega
theorem vc_X12_pick_104 {f_ties z29593 : Int} (h0 : z29593 < f_ties) (h1 : z29593 ≤ f_ties) (h2 : 0 ≤ f_ties ∧ f_ties ≤ 20) (h3 : 0 ≤ z29593 ∧ z29593 ≤ 20) : 0 ≤ z29593 ∧ z29593 ≤ 19 := by omega
theorem vc_X12_pick_105 {f_ties z29593 : Int} (h0 : z29593 < f_ties) (h1 : z29593 ≤ f_ties) (h2 : 0 ≤ f_ties ∧ f_ties ≤ 20) (h3 : 0 ≤ z29593 ∧ z29593 ≤ 19) : 1 ≤ f_ties ∧ f_ties ≤ 20 := by omega
theorem vc_X12_pick_106 {f_ties z29593 : Int} (h0 : z29593 ≤ f_ties) (h1 : z29593 < f_ties) (h2 : 1 ≤ f_ties ∧ f_ties ≤ 20) (h3 : 0 ≤ z29593 ∧ z29593 ≤ 19) : 0 ≤ (40 * (4 + z29593)) := by omega
theorem vc_X12_pick_107 {f_ties z29593 : Int} (h0 : z29593 ≤ f_ties) (h1 : z29593 < f_ties) (h2 : 1 ≤ f_ties ∧ f_ties ≤ 20) (h3 : 0 ≤ z29593 ∧ z29593 ≤ 19) : (40 * (4 + z29593)) % 40 = 0 := by omega
theorem vc_X12_pick_108 {z35108 z35116 : Int} (h0 : z35116 = 0) (h1 : (z35116 = 1 → 0 ≤ z35108)) (h2 : (z35116 = 0 → z35108 < 0)) (h3 : (-1) ≤ z35108 ∧ z35108 ≤ 9) (h4 : 0 ≤ z35116 ∧ z35116 ≤ 1) : 0 ≤ z35116 ∧ z35116 ≤ 0 := by omega
theorem vc_X12_pick_109 {z35108 z35116 : Int} (h0 : (z35116 = 1 → 0 ≤ z35108)) (h1 : (z35116 = 0 → z35108 < 0)) (h2 : z35116 = 0) (h3 : (-1) ≤ z35108 ∧ z35108 ≤ 9) (h4 : 0 ≤ z35116 ∧ z35116 ≤ 0) : z35116 = 0 := by omega
theorem vc_X12_pick_110 {z35108 z35116 : Int} (h0 : z35108 < 0) (h1 : (z35116 = 1 → 0 ≤ z35108)) (h2 : (z35116 = 0 → z35108 < 0)) (h3 : (-1) ≤ z35108 ∧ z35108 ≤ 9) (h4 : 0 ≤ z35116 ∧ z35116 ≤ 0) : (-1) ≤ z35108 ∧ z35108 ≤ (-1) := by omega
theorem vc_X12_pick_111 {f_ties z29593 : Int} (h0 : z29593 ≤ f_ties) (h1 : z29593 < f_ties) (h2 : 1 ≤ f_ties ∧ f_ties ≤ 20) (h3 : 0 ≤ z29593 ∧ z29593 ≤ 19) : (z29593 + 1) ≤ f_ties := by omega
theorem vc_X12_pick_112 {N f_ties z29593 : Int} (h0 : (21 - z29593) < N + 1) (h1 : z29593 ≤ f_ties) (h2 : z29593 < f_ties) (h3 : 1 ≤ f_ties ∧ f_ties ≤ 20) (h4 : 0 ≤ z29593 ∧ z29593 ≤ 19) : (21 - (z29593 + 1)) < N := by omega
theorem vc_X12_pick_113 {z35108 z35116 : Int} (h0 : ¬ z35116 = 0) (h1 : (z35116 = 1 → 0 ≤ z35108)) (h2 : (z35116 = 0 → z35108 < 0)) (h3 : (-1) ≤ z35108 ∧ z35108 ≤ 9) (h4 : 0 ≤ z35116 ∧ z35116 ≤ 1) : 1 ≤ z35116 ∧ z35116 ≤ 1 := by omega
theorem vc_X12_pick_114 {z35108 z35116 : Int} (h0 : (z35116 = 1 → 0 ≤ z35108)) (h1 : (z35116 = 0 → z35108 < 0)) (h2 : ¬ z35116 = 0) (h3 : (-1) ≤ z35108 ∧ z35108 ≤ 9) (h4 : 1 ≤ z35116 ∧ z35116 ≤ 1) : z35116 = 1 := by omega
theorem vc_X12_pick_115 {z35108 z35116 : Int} (h0 : 0 ≤ z35108) (h1 : (z35116 = 1 → 0 ≤ z35108)) (h2 : (z35116 = 0 → z35108 < 0)) (h3 : (-1) ≤ z35108 ∧ z35108 ≤ 9) (h4 : 1 ≤ z35116 ∧ z35116 ≤ 1) : 0 ≤ z35108 ∧ z35108 ≤ 9 := by omega
theorem vc_X12_pick_116 {f_ties z29593 : Int} (h0 : z29593 ≤ f_ties) (h1 : z29593 < f_ties) (h2 : 1 ≤ f_ties ∧ f_ties ≤ 20) (h3 : 0 ≤ z29593 ∧ z29593 ≤ 19) : ((40 * (4 + z29593)) + 4) % 40 = 4 := by omega
theorem vc_X12_pick_117 {z35124 : Int} (h0 : ¬ z35124 = 0) (h1 : 0 ≤ z35124 ∧ z35124 ≤ 20) : 1 ≤ z35124 ∧ z35124 ≤ 20 := by omega
theorem vc_X12_pick_118 {z35124 : Int} (h0 : z35124 = 0) (h1 : 0 ≤ z35124 ∧ z35124 ≤ 20) : 0 ≤ z35124 ∧ z35124 ≤ 0 := by omega
theorem vc_X12_pick_119 {z29594 : Int} (h0 : z29594 = (-99999999)) (h1 : (-99999999) ≤ z29594 ∧ z29594 ≤ 19) (h2 : z29594 = (-99999999) ∨ (0 ≤ z29594 ∧ z29594 ≤ 19)) : (-99999999) ≤ z29594 ∧ z29594 ≤ (-99999999) := by omega
theorem vc_X12_pick_120 {f_ties z29593 : Int} (h0 : z29593 ≤ f_ties) (h1 : z29593 < f_ties) (h2 : 1 ≤ f_ties ∧ f_ties ≤ 20) (h3 : 0 ≤ z29593 ∧ z29593 ≤ 19) : (40 * (4 + z29593)) = 160 + 40 * z29593 := by omega
theorem vc_X12_pick_121 {z35108 z35116 : Int} (h0 : (z35116 = 1 → 0 ≤ z35108)) (h1 : (z35116 = 0 → z35108 < 0)) (h2 : 0 ≤ z35108) (h3 : ¬ z35116 = 0) (h4 : 0 ≤ z35108 ∧ z35108 ≤ 9) (h5 : 1 ≤ z35116 ∧ z35116 ≤ 1) : 0 ≤ z35108 := by omega
theorem vc_X12_pick_122 {f_ties z29593 : Int} (h0 : z29593 ≤ f_ties) (h1 : z29593 < f_ties) (h2 : 1 ≤ f_ties ∧ f_ties ≤ 20) (h3 : 0 ≤ z29593 ∧ z29593 ≤ 19) : z29593 = (-99999999) ∨ (0 ≤ z29593 ∧ z29593 ≤ 19) := by omega
theorem vc_X12_pick_123 {z29594 : Int} (h0 : ¬ z29594 = (-99999999)) (h1 : (-99999999) ≤ z29594 ∧ z29594 ≤ 19) (h2 : z29594 = (-99999999) ∨ (0 ≤ z29594 ∧ z29594 ≤ 19)) : 0 ≤ z29594 ∧ z29594 ≤ 19 := by omega
theorem vc_X12_pick_124 {z35138 : Int} (h0 : z35138 = 0) (h1 : 0 ≤ z35138 ∧ z35138 ≤ 1) : 0 ≤ z35138 ∧ z35138 ≤ 0 := by omega
theorem vc_X12_pick_125 {z29594 : Int} (h0 : ¬ z29594 = (-99999999)) (h1 : 0 ≤ z29594 ∧ z29594 ≤ 19) (h2 : z29594 = (-99999999) ∨ (0 ≤ z29594 ∧ z29594 ≤ 19)) : z29594 = (-99999999) ∨ (0 ≤ z29594 ∧ z29594 ≤ 19) := by omega
theorem vc_X12_pick_126 {z35138 : Int} (h0 : ¬ z35138 = 0) (h1 : 0 ≤ z35138 ∧ z35138 ≤ 1) : 1 ≤ z35138 ∧ z35138 ≤ 1 := by omega
theorem vc_X12_pick_127 {f_ties : Int} (h0 : 0 ≤ f_ties ∧ f_ties ≤ 20) : (0 : Int) ≤ f_ties := by omega
theorem vc_X12_pick_128  : (((-99999999) : Int) : Int) = ((-99999999) : Int) ∨ ((0 : Int) ≤ (((-99999999) : Int) : Int) ∧ (((-99999999) : Int) : Int) ≤ (19 : Int)) := by omega
theorem vc_X12_pick_129 {z16651 : Int} (h0 : z16651 = 0) (h1 : 0 ≤ z16651 ∧ z16651 ≤ 1) : 0 ≤ z16651 ∧ z16651 ≤ 0 := by omega
theorem vc_X12_pick_130 {f_ties z35463 : Int} (h0 : (21 - z35463) < ((0 : Nat) : Int)) (h1 : z35463 ≤ f_ties) (h2 : 0 ≤ f_ties ∧ f_ties ≤ 20) (h3 : 0 ≤ z35463 ∧ z35463 ≤ 20) : False := by omega
theorem vc_X12_pick_131 {f_ties z35463 z35494 : Int} (h0 : z35494 = -99999999 ∨ (0 ≤ z35494 ∧ z35494 ≤ 19)) (h1 : z35494 < f_ties) (h2 : z35463 ≤ f_ties) (h3 : f_ties ≤ z35463) (h4 : 0 ≤ f_ties ∧ f_ties ≤ 20) (h5 : 0 ≤ z35463 ∧ z35463 ≤ 20) (h6 : (-99999999) ≤ z35494 ∧ z35494 ≤ 19) : z35494 = -99999999 ∨ (0 ≤ z35494 ∧ z35494 ≤ 19) := by omega
theorem vc_X12_pick_132 {f_ties z35463 z35494 : Int} (h0 : z35463 ≤ f_ties) (h1 : f_ties ≤ z35463) (h2 : z35494 < f_ties) (h3 : z35494 = -99999999 ∨ (0 ≤ z35494 ∧ z35494 ≤ 19)) (h4 : 0 ≤ f_ties ∧ f_ties ≤ 20) (h5 : 0 ≤ z35463 ∧ z35463 ≤ 20) (h6 : (-99999999) ≤ z35494 ∧ z35494 ≤ 19) : f_ties ≤ z35463 := by omega
theorem vc_X12_pick_133 {f_ties z35463 z35494 : Int} (h0 : z35463 ≤ f_ties) (h1 : f_ties ≤ z35463) (h2 : z35494 = -99999999 ∨ (0 ≤ z35494 ∧ z35494 ≤ 19)) (h3 : z35494 < f_ties) (h4 : 0 ≤ f_ties ∧ f_ties ≤ 20) (h5 : 0 ≤ z35463 ∧ z35463 ≤ 20) (h6 : (-99999999) ≤ z35494 ∧ z35494 ≤ 19) : z35494 < f_ties := by omega
theorem vc_X12_pick_134 {f_ties z35463 : Int} (h0 : z35463 < f_ties) (h1 : z35463 ≤ f_ties) (h2 : 0 ≤ f_ties ∧ f_ties ≤ 20) (h3 : 0 ≤ z35463 ∧ z35463 ≤ 20) : 0 ≤ z35463 ∧ z35463 ≤ 19 := by omega
theorem vc_X12_pick_135 {f_ties z35463 : Int} (h0 : z35463 < f_ties) (h1 : z35463 ≤ f_ties) (h2 : 0 ≤ f_ties ∧ f_ties ≤ 20) (h3 : 0 ≤ z35463 ∧ z35463 ≤ 19) : 1 ≤ f_ties ∧ f_ties ≤ 20 := by omega
theorem vc_X12_pick_136 {f_ties z35463 : Int} (h0 : z35463 ≤ f_ties) (h1 : z35463 < f_ties) (h2 : 1 ≤ f_ties ∧ f_ties ≤ 20) (h3 : 0 ≤ z35463 ∧ z35463 ≤ 19) : 0 ≤ (40 * (4 + z35463)) := by omega
theorem vc_X12_pick_137 {f_ties z35463 : Int} (h0 : z35463 ≤ f_ties) (h1 : z35463 < f_ties) (h2 : 1 ≤ f_ties ∧ f_ties ≤ 20) (h3 : 0 ≤ z35463 ∧ z35463 ≤ 19) : (40 * (4 + z35463)) % 40 = 0 := by omega
theorem vc_X12_pick_138 {f_ties z35463 : Int} (h0 : z35463 ≤ f_ties) (h1 : z35463 < f_ties) (h2 : 1 ≤ f_ties ∧ f_ties ≤ 20) (h3 : 0 ≤ z35463 ∧ z35463 ≤ 19) : (z35463 + 1) ≤ f_ties := by omega
theorem vc_X12_pick_139 {N f_ties z35463 : Int} (h0 : (21 - z35463) < N + 1) (h1 : z35463 ≤ f_ties) (h2 : z35463 < f_ties) (h3 : 1 ≤ f_ties ∧ f_ties ≤ 20) (h4 : 0 ≤ z35463 ∧ z35463 ≤ 19) : (21 - (z35463 + 1)) < N := by omega
theorem vc_X12_pick_140 {f_ties z35463 : Int} (h0 : z35463 ≤ f_ties) (h1 : z35463 < f_ties) (h2 : 1 ≤ f_ties ∧ f_ties ≤ 20) (h3 : 0 ≤ z35463 ∧ z35463 ≤ 19) : 0 ≤ z35463 := by omega
theorem vc_X12_pick_141 {f_ties z35463 : Int} (h0 : z35463 ≤ f_ties) (h1 : z35463 < f_ties) (h2 : 1 ≤ f_ties ∧ f_ties ≤ 20) (h3 : 0 ≤ z35463 ∧ z35463 ≤ 19) : (40 * (4 + z35463)) = 160 + 40 * z35463 := by omega
theorem vc_X12_pick_142 {z35497 z35505 : Int} (h0 : (z35505 = 1 → 0 ≤ z35497)) (h1 : (z35505 = 0 → z35497 < 0)) (h2 : (-1) ≤ z35497 ∧ z35497 ≤ 9) (h3 : 0 ≤ z35505 ∧ z35505 ≤ 1) : ¬ z35505 = 1 ∨ 0 ≤ z35497 := by omega
set_option maxRecDepth 4000 in
set_option maxHeartbeats 4000000 in
theorem c_X12_pick {l : Launch} {D : va_G} {c : Nat → ClassId} {H0 : Heap} {sa : Nat × Nat × (Nat → Int32)} {w : mW} {μ : mM} (hw : mWF w) (hT : mT w μ) {p1 : Int} (hp1 : 0 ≤ p1 ∧ p1 ≤ 9) {p2 : Int} (hp2 : 0 ≤ p2 ∧ p2 ≤ 9) {f_ties : Int} (q_f_ties : μ 106 6 = f_ties) (hIPK : PK μ) : sC (gG l D c H0 sa) mX12_pick 9 0 0 [.ref 106, iv p1, iv p2] (mk w μ) (qI w [106026, 106027, 106028, 106029, 106030, 106031, 126999, 151999, 152999, 153999, 165999] μ (fun z μ1 => ((-99999999) ≤ z ∧ z ≤ 19) ∧ mG [(160, 960)] μ μ1 ∧ (z = -99999999 ∨ (0 ≤ z ∧ z ≤ 19)) ∧ (z = -99999999 ∨ 0 ≤ μ1 126 (160 + 40 * z).toNat) ∧ True)) := by
  refine sC.of rfl (by decide) (le_t rfl) ?_
  have ht_f_ties : (0 ≤ f_ties ∧ f_ties ≤ 20) := by rw [← q_f_ties]; exact hT 106 106 (A_106 hw) 6
  refine mr_lvE (lv' := [(0, .ref 106), (1, iv p1), (2, iv p2)]) rfl ?_
  refine sv_aload_n (pc := 0) dX12_pick_0 rfl rfl ?_
  refine mr_iload_n (pc := 1) (z := p1) dX12_pick_1 rfl rfl ?_
  refine mr_iload_n (pc := 2) (z := p2) dX12_pick_2 rfl rfl ?_
  refine mr_cVV (pc := 3) (c_X12_candidates hw hT hp1 hp2 hIPK) (gOk _ _ _ _ _) dX12_pick_3 (tX12_candidates _ _ _ _ _) ⟨wV_X12_candidates, wL_X12_candidates⟩ wM_X12_572 (gCX12 _ _ _ _ _) rfl (A_106 hw) rfl ⟨le_t rfl, le_t rfl⟩ ⟨le_t rfl, le_t rfl⟩ rfl (le_t rfl) fun μ16647 T16648 F16649 h16650 => ?_
  refine sv_aload_n (pc := 6) dX12_pick_6 rfl rfl ?_
  refine gf_X12_84 (pc := 7) dX12_pick_7 wF_X12_454 (A_106 hw) T16648 ?_
  refine mr_iload_n (pc := 10) (z := p1) dX12_pick_10 rfl rfl ?_
  refine la_164 (pc := 11) dX12_pick_11 (A_164 hw) T16648 (rIx (n := 10) hp1 rfl) fun z16651 q16652 h16653 => ?_
  refine mr_if_ne (pc := 12) (tgt := 51) dX12_pick_12 (by decide) (r32 h16653 rfl) (fun h16654 => ?_) (fun h16654 => ?_)
  · have h16655 : 1 ≤ z16651 ∧ z16651 ≤ 1 := (vc_X12_pick_1 h16654 h16653)
    refine mr_ldc (pc := 51) (z := (-99999999)) dX12_pick_51 wG_X12_29 (by decide) ?_
    refine mr_istore_n (pc := 53) (lv' := [(3, iv (-99999999)), (0, .ref 106), (1, iv p1), (2, iv p2)]) dX12_pick_53 rfl (by decide) rfl ?_
    refine mr_iconst (pc := 54) (z := 0) dX12_pick_54 ?_
    refine mr_istore (pc := 55) (lv' := [(4, iv 0), (3, iv (-99999999)), (0, .ref 106), (1, iv p1), (2, iv p2)]) dX12_pick_55 (by decide) rfl ?_
    have L29595 : ∀ (nL29595 : Nat) (z29594 z29593 : Int), True → ((-99999999) ≤ z29594 ∧ z29594 ≤ 19) → (0 ≤ z29593 ∧ z29593 ≤ 20) → (z29593 ≤ f_ties) → wOK μ16647 z29594 → (z29594 = (-99999999) ∨ (0 ≤ z29594 ∧ z29594 ≤ 19)) → (21 - z29593) < (nL29595 : Int) → sV (gG l D c H0 sa) mX12_pick (sRm 9 0 0) (sZ (gG l D c H0 sa) 0 0 (qI w [106026, 106027, 106028, 106029, 106030, 106031, 126999, 151999, 152999, 153999, 165999] μ (fun z μ1 => ((-99999999) ≤ z ∧ z ≤ 19) ∧ mG [(160, 960)] μ μ1 ∧ (z = -99999999 ∨ (0 ≤ z ∧ z ≤ 19)) ∧ (z = -99999999 ∨ 0 ≤ μ1 126 (160 + 40 * z).toNat) ∧ True))) 57 [(0, .ref 106), (1, iv p1), (2, iv p2), (3, iv z29594), (4, iv z29593)] [] (mk w μ16647) 0 0 := by
      intro nL29595
      induction nL29595 with
      | zero => intro z29594 z29593 _ h29596 h29597 h29601 R29602 h29603 h29604; exact ((vc_X12_pick_2 h29604 h29601 ht_f_ties h29597)).elim
      | succ nL29595 ih29605 =>
        intro z29594 z29593 _ h29596 h29597 h29601 R29602 h29603 h29604
        refine mr_iload (pc := 57) (z := z29593) dX12_pick_57 rfl ?_
        refine sv_aload_n (pc := 59) dX12_pick_59 rfl rfl ?_
        refine gk_X12_6 (pc := 60) dX12_pick_60 wF_X12_37 (A_106 hw) (F16649.f (A_106 hw) rfl q_f_ties) ?_
        refine mr_icmp_ge (pc := 63) (tgt := 121) dX12_pick_63 (by decide) (r32 h29597 rfl) (r32 ht_f_ties rfl) (fun h29638 => ?_) (fun h29638 => ?_)
        · refine mr_iconst (pc := 121) (z := 0) dX12_pick_121 ?_
          refine mr_istore (pc := 122) (lv' := [(4, iv 0), (0, .ref 106), (1, iv p1), (2, iv p2), (3, iv z29594)]) dX12_pick_122 (by decide) rfl ?_
          refine mr_iconst (pc := 124) (z := 0) dX12_pick_124 ?_
          refine mr_istore (pc := 125) (lv' := [(5, iv 0), (4, iv 0), (0, .ref 106), (1, iv p1), (2, iv p2), (3, iv z29594)]) dX12_pick_125 (by decide) rfl ?_
          refine mr_iconst (pc := 127) (z := 1) dX12_pick_127 ?_
          refine mr_istore (pc := 128) (lv' := [(6, iv 1), (5, iv 0), (4, iv 0), (0, .ref 106), (1, iv p1), (2, iv p2), (3, iv z29594)]) dX12_pick_128 (by decide) rfl ?_
          have L30675 : ∀ (nL30675 : Nat) (z30673 z30672 z30671 z30670 : Int) (μ30674 : mM), mT w μ30674 → mF [165999] w μ16647 μ30674 → ((-99999999) ≤ z30673 ∧ z30673 ≤ 19) → (0 ≤ z30672 ∧ z30672 ≤ 1) → ((-2147483648) ≤ z30671 ∧ z30671 ≤ 2147483647) → (0 ≤ z30670 ∧ z30670 ≤ 1) → PK μ30674 → wOK μ30674 z30673 → (z30673 = (-99999999) ∨ (0 ≤ z30673 ∧ z30673 ≤ 19)) → (((4294967296 * (2 - z30672)) - (z30671 % 4294967296)) + z30670) < (nL30675 : Int) → sV (gG l D c H0 sa) mX12_pick (sRm 9 0 0) (sZ (gG l D c H0 sa) 0 0 (qI w [106026, 106027, 106028, 106029, 106030, 106031, 126999, 151999, 152999, 153999, 165999] μ (fun z μ1 => ((-99999999) ≤ z ∧ z ≤ 19) ∧ mG [(160, 960)] μ μ1 ∧ (z = -99999999 ∨ (0 ≤ z ∧ z ≤ 19)) ∧ (z = -99999999 ∨ 0 ≤ μ1 126 (160 + 40 * z).toNat) ∧ True))) 130 [(0, .ref 106), (1, iv p1), (2, iv p2), (3, iv z30673), (4, iv z30672), (5, iv z30671), (6, iv z30670)] [] (mk w μ30674) 0 0 := by
            intro nL30675
            induction nL30675 with
            | zero => intro z30673 z30672 z30671 z30670 μ30674 T30680 F30681 h30676 h30677 h30678 h30679 I30683 R30684 h30685 h30686; exact ((vc_X12_pick_3 h30686 h30679 h30678 h30677)).elim
            | succ nL30675 ih30687 =>
              intro z30673 z30672 z30671 z30670 μ30674 T30680 F30681 h30676 h30677 h30678 h30679 I30683 R30684 h30685 h30686
              refine mr_iload (pc := 130) (z := z30670) dX12_pick_130 rfl ?_
              refine mr_if_eq (pc := 132) (tgt := 373) dX12_pick_132 (by decide) (r32 h30679 rfl) (fun h31042 => ?_) (fun h31042 => ?_)
              · have h31043 : 0 ≤ z30670 ∧ z30670 ≤ 0 := (vc_X12_pick_4 h31042 h30679)
                refine mr_iload_n (pc := 373) (z := z30673) dX12_pick_373 rfl rfl ?_
                exact mr_iret dX12_pick_374 rfl (le_t rfl) (le_t rfl) T30680 (mF.call (mF.call mF.refl F16649 rfl) F30681 rfl) ⟨h30676, (mG.fr (mG.call mG.refl h16650.1 (List.forall_mem_cons.mpr ⟨⟨_, List.mem_cons_self, vc_X12_pick_5⟩, (fun _ h => absurd h List.not_mem_nil)⟩)) F30681 (A_126 hw) rfl), (vc_X12_pick_6 h30676 h30685), R30684, trivial⟩
              have h31044 : 1 ≤ z30670 ∧ z30670 ≤ 1 := (vc_X12_pick_7 h31042 h30679)
              refine mr_iconst (pc := 135) (z := 0) dX12_pick_135 ?_
              refine mr_istore (pc := 136) (lv' := [(7, iv 0), (0, .ref 106), (1, iv p1), (2, iv p2), (3, iv z30673), (4, iv z30672), (5, iv z30671), (6, iv z30670)]) dX12_pick_136 (by decide) rfl ?_
              refine mr_iconst (pc := 138) (z := 0) dX12_pick_138 ?_
              refine mr_istore (pc := 139) (lv' := [(8, iv 0), (7, iv 0), (0, .ref 106), (1, iv p1), (2, iv p2), (3, iv z30673), (4, iv z30672), (5, iv z30671), (6, iv z30670)]) dX12_pick_139 (by decide) rfl ?_
              refine mr_iconst (pc := 141) (z := 0) dX12_pick_141 ?_
              refine mr_istore (pc := 142) (lv' := [(9, iv 0), (8, iv 0), (7, iv 0), (0, .ref 106), (1, iv p1), (2, iv p2), (3, iv z30673), (4, iv z30672), (5, iv z30671), (6, iv z30670)]) dX12_pick_142 (by decide) rfl ?_
              have L34072 : ∀ (nL34072 : Nat) (z34071 z34070 z34069 : Int), True → (0 ≤ z34071 ∧ z34071 ≤ 1) → ((-2147483648) ≤ z34070 ∧ z34070 ≤ 2147483647) → (0 ≤ z34069 ∧ z34069 ≤ 20) → (z34069 ≤ f_ties) → (z34071 = 0 ∨ z30672 = 0 ∨ z30671 % 4294967296 < z34070 % 4294967296) → (z34071 = 0 ∨ hit μ30674 z34069 z34070) → (21 - z34069) < (nL34072 : Int) → sV (gG l D c H0 sa) mX12_pick (sRm 9 0 0) (sZ (gG l D c H0 sa) 0 0 (qI w [106026, 106027, 106028, 106029, 106030, 106031, 126999, 151999, 152999, 153999, 165999] μ (fun z μ1 => ((-99999999) ≤ z ∧ z ≤ 19) ∧ mG [(160, 960)] μ μ1 ∧ (z = -99999999 ∨ (0 ≤ z ∧ z ≤ 19)) ∧ (z = -99999999 ∨ 0 ≤ μ1 126 (160 + 40 * z).toNat) ∧ True))) 144 [(0, .ref 106), (1, iv p1), (2, iv p2), (3, iv z30673), (4, iv z30672), (5, iv z30671), (7, iv z34071), (8, iv z34070), (9, iv z34069)] [] (mk w μ30674) 0 0 := by
                intro nL34072
                induction nL34072 with
                | zero => intro z34071 z34070 z34069 _ h34073 h34074 h34075 h34079 h34080 R34081 h34082; exact ((vc_X12_pick_8 h34082 h34079 h29601 h29638 ht_f_ties h29597 h34075)).elim
                | succ nL34072 ih34083 =>
                  intro z34071 z34070 z34069 _ h34073 h34074 h34075 h34079 h34080 R34081 h34082
                  refine mr_iload (pc := 144) (z := z34069) dX12_pick_144 rfl ?_
                  refine sv_aload_n (pc := 146) dX12_pick_146 rfl rfl ?_
                  refine gk_X12_6 (pc := 147) dX12_pick_147 wF_X12_37 (A_106 hw) (F30681.f (A_106 hw) rfl (F16649.f (A_106 hw) rfl q_f_ties)) ?_
                  refine mr_icmp_ge (pc := 150) (tgt := 244) dX12_pick_150 (by decide) (r32 h34075 rfl) (r32 ht_f_ties rfl) (fun h34143 => ?_) (fun h34143 => ?_)
                  · refine mr_iload (pc := 244) (z := z34071) dX12_pick_244 rfl ?_
                    refine mr_istore (pc := 246) (lv' := [(6, iv z34071), (0, .ref 106), (1, iv p1), (2, iv p2), (3, iv z30673), (4, iv z30672), (5, iv z30671), (7, iv z34071), (8, iv z34070), (9, iv z34069)]) dX12_pick_246 (by decide) rfl ?_
                    refine mr_iload (pc := 248) (z := z34071) dX12_pick_248 rfl ?_
                    refine mr_if_ne (pc := 250) (tgt := 256) dX12_pick_250 (by decide) (r32 h34073 rfl) (fun h34144 => ?_) (fun h34144 => ?_)
                    · have h34145 : 1 ≤ z34071 ∧ z34071 ≤ 1 := (vc_X12_pick_9 h34144 h34080 h30678 h30677 h34074 h34073)
                      refine mr_iconst (pc := 256) (z := 1) dX12_pick_256 ?_
                      refine mr_istore (pc := 257) (lv' := [(4, iv 1), (6, iv z34071), (0, .ref 106), (1, iv p1), (2, iv p2), (3, iv z30673), (5, iv z30671), (7, iv z34071), (8, iv z34070), (9, iv z34069)]) dX12_pick_257 (by decide) rfl ?_
                      refine mr_iload (pc := 259) (z := z34070) dX12_pick_259 rfl ?_
                      refine mr_istore (pc := 261) (lv' := [(5, iv z34070), (4, iv 1), (6, iv z34071), (0, .ref 106), (1, iv p1), (2, iv p2), (3, iv z30673), (7, iv z34071), (8, iv z34070), (9, iv z34069)]) dX12_pick_261 (by decide) rfl ?_
                      refine mr_iconst (pc := 263) (z := 0) dX12_pick_263 ?_
                      refine mr_istore (pc := 264) (lv' := [(9, iv 0), (5, iv z34070), (4, iv 1), (6, iv z34071), (0, .ref 106), (1, iv p1), (2, iv p2), (3, iv z30673), (7, iv z34071), (8, iv z34070)]) dX12_pick_264 (by decide) rfl ?_
                      have L34930 : ∀ (nL34930 : Nat) (z34928 : Int) (μ34929 : mM), mT w μ34929 → mF [165999] w μ30674 μ34929 → (0 ≤ z34928 ∧ z34928 ≤ 20) → (z34928 ≤ f_ties) → PK μ34929 → lft μ34929 z34070 z34928 → (21 - z34928) < (nL34930 : Int) → sV (gG l D c H0 sa) mX12_pick (sRm 9 0 0) (sZ (gG l D c H0 sa) 0 0 (qI w [106026, 106027, 106028, 106029, 106030, 106031, 126999, 151999, 152999, 153999, 165999] μ (fun z μ1 => ((-99999999) ≤ z ∧ z ≤ 19) ∧ mG [(160, 960)] μ μ1 ∧ (z = -99999999 ∨ (0 ≤ z ∧ z ≤ 19)) ∧ (z = -99999999 ∨ 0 ≤ μ1 126 (160 + 40 * z).toNat) ∧ True))) 266 [(0, .ref 106), (1, iv p1), (2, iv p2), (3, iv z30673), (4, iv 1), (5, iv z34070), (6, iv z34071), (8, iv z34070), (9, iv z34928)] [] (mk w μ34929) 0 0 := by
                        intro nL34930
                        induction nL34930 with
                        | zero => intro z34928 μ34929 T34932 F34933 h34931 h34935 I34936 R34937 h34938; exact ((vc_X12_pick_12 h34938 h34935 h29601 h29638 h34079 h34143 ht_f_ties h29597 h34075 h34931)).elim
                        | succ nL34930 ih34939 =>
                          intro z34928 μ34929 T34932 F34933 h34931 h34935 I34936 R34937 h34938
                          refine mr_iload (pc := 266) (z := z34928) dX12_pick_266 rfl ?_
                          refine sv_aload_n (pc := 268) dX12_pick_268 rfl rfl ?_
                          refine gk_X12_6 (pc := 269) dX12_pick_269 wF_X12_37 (A_106 hw) (F34933.f (A_106 hw) rfl (F30681.f (A_106 hw) rfl (F16649.f (A_106 hw) rfl q_f_ties))) ?_
                          refine mr_icmp_ge (pc := 272) (tgt := 341) dX12_pick_272 (by decide) (r32 h34931 rfl) (r32 ht_f_ties rfl) (fun h34978 => ?_) (fun h34978 => ?_)
                          · refine sv_aload_n (pc := 341) dX12_pick_341 rfl rfl ?_
                            refine mr_iload_n (pc := 342) (z := p1) dX12_pick_342 rfl rfl ?_
                            refine mr_iload_n (pc := 343) (z := p2) dX12_pick_343 rfl rfl ?_
                            refine mr_cVP (pc := 344) (c_X12_best_l hw T34932 hp1 hp2 (F34933.f (A_106 hw) rfl (F30681.f (A_106 hw) rfl (F16649.f (A_106 hw) rfl q_f_ties)))) (gOk _ _ _ _ _) dX12_pick_344 (tX12_best _ _ _ _ _) ⟨wV_X12_best, wL_X12_best⟩ wM_X12_575 (gCX12 _ _ _ _ _) rfl (A_106 hw) rfl ⟨le_t rfl, le_t rfl⟩ ⟨le_t rfl, le_t rfl⟩ rfl (le_t rfl) fun z34983 h34982 => ?_
                            have B34984 := lft.some R34937 (vc_X12_pick_13 h29601 h29638 h34079 h34143 h34935 h34978 h34982.2.2.1 h34982.2.1 ht_f_ties h29597 h34075 h34931 h34982.1) (hit.keep ((hit.or R34081 (vc_X12_pick_10 h29601 h29638 h34079 h34143 ht_f_ties h29597 h34075)).resolve_left (vc_X12_pick_11 h34080 h34144 h30678 h30677 h34074 h34145)) hw ((mF.call mF.refl F34933 rfl) : mF [165999] w μ30674 μ34929) rfl) h34982.2.2.2.1 (vc_X12_pick_14 h29601 h29638 h34079 h34143 h34935 h34978 h34982.2.1 h34982.2.2.1 ht_f_ties h29597 h34075 h34931 h34982.1) (vc_X12_pick_15 h34982.2.1 h34982.2.2.1 h29601 h29638 h34079 h34143 h34935 h34978 ht_f_ties h29597 h34075 h34931 h34982.1)
                            have h34985 : 0 ≤ z34983 ∧ z34983 ≤ 19 := (vc_X12_pick_16 B34984.1 h34982.2.1 h34982.2.2.1 ht_f_ties h34982.1)
                            refine mr_istore (pc := 347) (lv' := [(9, iv z34983), (0, .ref 106), (1, iv p1), (2, iv p2), (3, iv z30673), (4, iv 1), (5, iv z34070), (6, iv z34071), (8, iv z34070)]) dX12_pick_347 (by decide) rfl ?_
                            refine mr_iload_n (pc := 349) (z := z30673) dX12_pick_349 rfl rfl ?_
                            refine mr_ldc (pc := 350) (z := (-99999999)) dX12_pick_350 wG_X12_29 (by decide) ?_
                            refine mr_icmp_eq (pc := 352) (tgt := 367) dX12_pick_352 (by decide) (r32 h30676 rfl) (r32 (rR (x := (-99999999))) rfl) (fun h34986 => ?_) (fun h34986 => ?_)
                            · have h34987 : (-99999999) ≤ z30673 ∧ z30673 ≤ (-99999999) := (vc_X12_pick_17 h34986 h30676 h30685)
                              refine mr_iload (pc := 367) (z := z34983) dX12_pick_367 rfl ?_
                              refine mr_istore_n (pc := 369) (lv' := [(3, iv z34983), (9, iv z34983), (0, .ref 106), (1, iv p1), (2, iv p2), (4, iv 1), (5, iv z34070), (6, iv z34071), (8, iv z34070)]) dX12_pick_369 rfl (by decide) rfl ?_
                              refine sv_goto (pc := 370) (tgt := 130) dX12_pick_370 (by decide) ?_
                              refine mr_lvS (lv' := [(0, .ref 106), (1, iv p1), (2, iv p2), (3, iv z34983), (4, iv 1), (5, iv z34070), (6, iv z34071)]) (List.forall_mem_cons.mpr ⟨rfl, List.forall_mem_cons.mpr ⟨rfl, List.forall_mem_cons.mpr ⟨rfl, List.forall_mem_cons.mpr ⟨rfl, List.forall_mem_cons.mpr ⟨rfl, List.forall_mem_cons.mpr ⟨rfl, List.forall_mem_cons.mpr ⟨rfl, fun _ h => absurd h List.not_mem_nil⟩⟩⟩⟩⟩⟩⟩) ?_
                              exact ih30687 z34983 1 z34070 z34071 μ34929 T34932 (mF.call (mF.call mF.refl F30681 rfl) F34933 rfl) (rW (c := (-99999999)) (d := 19) h34985 rfl) (rW (c := 0) (d := 1) (rR (x := 1)) rfl) h34074 (rW (c := 0) (d := 1) h34145 rfl) I34936 B34984.2 (vc_X12_pick_19 h34982.2.1 h34982.2.2.1 B34984.1 h29601 h29638 h34079 h34143 h34935 h34978 ht_f_ties h29597 h34075 h34931 h34985) (vc_X12_pick_18 (nS h30686) h31042 h34080 h34144 h31044 h30678 h30677 h34074 h34145)
                            have h34988 : 0 ≤ z30673 ∧ z30673 ≤ 19 := (vc_X12_pick_20 h34986 h30676 h30685)
                            refine sv_aload_n (pc := 355) dX12_pick_355 rfl rfl ?_
                            refine mr_iload_n (pc := 356) (z := p1) dX12_pick_356 rfl rfl ?_
                            refine mr_iload (pc := 357) (z := z34983) dX12_pick_357 rfl ?_
                            refine mr_iload_n (pc := 359) (z := z30673) dX12_pick_359 rfl rfl ?_
                            refine mr_iload_n (pc := 360) (z := p2) dX12_pick_360 rfl rfl ?_
                            refine mr_cVP (pc := 361) (c_X12_beats hw T34932 hp1 h34985 h34988 hp2) (gOk _ _ _ _ _) dX12_pick_361 (tX12_beats _ _ _ _ _) ⟨wV_X12_beats, wL_X12_beats⟩ wM_X12_568 (gCX12 _ _ _ _ _) rfl (A_106 hw) rfl ⟨le_t rfl, le_t rfl⟩ ⟨le_t rfl, le_t rfl⟩ rfl (le_t rfl) fun z34993 h34992 => ?_
                            refine mr_if_eq (pc := 364) (tgt := 370) dX12_pick_364 (by decide) (r32 h34992.1 rfl) (fun h34994 => ?_) (fun h34994 => ?_)
                            · have h34995 : 0 ≤ z34993 ∧ z34993 ≤ 0 := (vc_X12_pick_21 h34994 h34992.1)
                              refine sv_goto (pc := 370) (tgt := 130) dX12_pick_370 (by decide) ?_
                              refine mr_lvS (lv' := [(0, .ref 106), (1, iv p1), (2, iv p2), (3, iv z30673), (4, iv 1), (5, iv z34070), (6, iv z34071)]) (List.forall_mem_cons.mpr ⟨rfl, List.forall_mem_cons.mpr ⟨rfl, List.forall_mem_cons.mpr ⟨rfl, List.forall_mem_cons.mpr ⟨rfl, List.forall_mem_cons.mpr ⟨rfl, List.forall_mem_cons.mpr ⟨rfl, List.forall_mem_cons.mpr ⟨rfl, fun _ h => absurd h List.not_mem_nil⟩⟩⟩⟩⟩⟩⟩) ?_
                              exact ih30687 z30673 1 z34070 z34071 μ34929 T34932 (mF.call (mF.call mF.refl F30681 rfl) F34933 rfl) (rW (c := (-99999999)) (d := 19) h34988 rfl) (rW (c := 0) (d := 1) (rR (x := 1)) rfl) h34074 (rW (c := 0) (d := 1) h34145 rfl) I34936 (wOK.keep R30684 hw ((mF.call mF.refl F34933 rfl) : mF [165999] w μ30674 μ34929) rfl) (vc_X12_pick_22 h34986 h34988 h30685) (vc_X12_pick_18 (nS h30686) h31042 h34080 h34144 h31044 h30678 h30677 h34074 h34145)
                            have h34996 : 1 ≤ z34993 ∧ z34993 ≤ 1 := (vc_X12_pick_23 h34994 h34992.1)
                            refine mr_iload (pc := 367) (z := z34983) dX12_pick_367 rfl ?_
                            refine mr_istore_n (pc := 369) (lv' := [(3, iv z34983), (9, iv z34983), (0, .ref 106), (1, iv p1), (2, iv p2), (4, iv 1), (5, iv z34070), (6, iv z34071), (8, iv z34070)]) dX12_pick_369 rfl (by decide) rfl ?_
                            refine sv_goto (pc := 370) (tgt := 130) dX12_pick_370 (by decide) ?_
                            refine mr_lvS (lv' := [(0, .ref 106), (1, iv p1), (2, iv p2), (3, iv z34983), (4, iv 1), (5, iv z34070), (6, iv z34071)]) (List.forall_mem_cons.mpr ⟨rfl, List.forall_mem_cons.mpr ⟨rfl, List.forall_mem_cons.mpr ⟨rfl, List.forall_mem_cons.mpr ⟨rfl, List.forall_mem_cons.mpr ⟨rfl, List.forall_mem_cons.mpr ⟨rfl, List.forall_mem_cons.mpr ⟨rfl, fun _ h => absurd h List.not_mem_nil⟩⟩⟩⟩⟩⟩⟩) ?_
                            exact ih30687 z34983 1 z34070 z34071 μ34929 T34932 (mF.call (mF.call mF.refl F30681 rfl) F34933 rfl) (rW (c := (-99999999)) (d := 19) h34985 rfl) (rW (c := 0) (d := 1) (rR (x := 1)) rfl) h34074 (rW (c := 0) (d := 1) h34145 rfl) I34936 B34984.2 (vc_X12_pick_19 h34982.2.1 h34982.2.2.1 B34984.1 h29601 h29638 h34079 h34143 h34935 h34978 ht_f_ties h29597 h34075 h34931 h34985) (vc_X12_pick_18 (nS h30686) h31042 h34080 h34144 h31044 h30678 h30677 h34074 h34145)
                          have h34997 : 0 ≤ z34928 ∧ z34928 ≤ 19 := (vc_X12_pick_24 h34978 h29601 h29638 h34079 h34143 h34935 ht_f_ties h29597 h34075 h34931)
                          have h34998 : 1 ≤ f_ties ∧ f_ties ≤ 20 := (vc_X12_pick_25 h34978 h29601 h29638 h34079 h34143 h34935 ht_f_ties h29597 h34075 h34997)
                          refine sv_aload_n (pc := 275) dX12_pick_275 rfl rfl ?_
                          refine gf_X12_85 (pc := 276) dX12_pick_276 wF_X12_457 (A_106 hw) T34932 ?_
                          refine mr_iload (pc := 279) (z := z34928) dX12_pick_279 rfl ?_
                          refine sv_aload_n (pc := 281) dX12_pick_281 rfl rfl ?_
                          refine mr_iconst (pc := 282) (z := 4) dX12_pick_282 ?_
                          refine mr_iload (pc := 283) (z := z34928) dX12_pick_283 rfl ?_
                          refine mr_iadd (pc := 285) (x := 4) (y := z34928) dX12_pick_285 ?_
                          obtain ⟨z34999, q35000⟩ : ∃ z, μ34929 126 ((40 * (4 + z34928)).toNat) = z := ⟨_, rfl⟩
                          have h35001 := rt7 T34932 (A_126 hw) (vc_X12_pick_26 h34935 h34978 h29601 h29638 h34079 h34143 h34998 h29597 h34075 h34997) q35000
                          have h35002 : (-1) ≤ z34999 ∧ z34999 ≤ 9 := h35001.2.1 (vc_X12_pick_27 h34935 h34978 h29601 h29638 h34079 h34143 h34998 h29597 h34075 h34997)
                          refine mr_cVP (pc := 286) (c_X12_isThere hw T34932 (rW (c := 0) (d := 2099) (rAdd (e := 4) (f := 23) (rR (x := 4)) h34997 rfl) rfl) q35000) (gOk _ _ _ _ _) dX12_pick_286 (tX12_isThere _ _ _ _ _) ⟨wV_X12_isThere, wL_X12_isThere⟩ wM_X12_151 (gCX12 _ _ _ _ _) rfl (A_106 hw) rfl ⟨le_t rfl, le_t rfl⟩ ⟨le_t rfl, le_t rfl⟩ rfl (le_t rfl) fun z35007 h35006 => ?_
                          refine mr_if_eq (pc := 289) (tgt := 333) dX12_pick_289 (by decide) (r32 h35006.1 rfl) (fun h35008 => ?_) (fun h35008 => ?_)
                          · have h35009 : 0 ≤ z35007 ∧ z35007 ≤ 0 := (vc_X12_pick_28 h35008 h35006.2.1 h35006.2.2.1 h35002 h35006.1)
                            have h35010 : z34999 < 0 := (h35006.2.2.1 (vc_X12_pick_29 h35006.2.1 h35006.2.2.1 h35008 h35002 h35009))
                            have h35011 : (-1) ≤ z34999 ∧ z34999 ≤ (-1) := (vc_X12_pick_30 h35010 h35006.2.1 h35006.2.2.1 h35002 h35009)
                            refine mr_iconst (pc := 333) (z := 0) dX12_pick_333 ?_
                            refine ss_165 (pc := 334) dX12_pick_334 (A_165 hw) T34932 (rIx (n := 20) h34997 rfl) (rW (c := 0) (d := 1) (rR (x := 0)) rfl) fun μ35012 u35013 T35014 => ?_
                            refine mr_iinc (pc := 335) (lv' := [(9, iv (z34928 + 1)), (0, .ref 106), (1, iv p1), (2, iv p2), (3, iv z30673), (4, iv 1), (5, iv z34070), (6, iv z34071), (8, iv z34070)]) dX12_pick_335 rfl (by decide) rfl ?_
                            refine sv_goto (pc := 338) (tgt := 266) dX12_pick_338 (by decide) ?_
                            refine mr_lvS (lv' := [(0, .ref 106), (1, iv p1), (2, iv p2), (3, iv z30673), (4, iv 1), (5, iv z34070), (6, iv z34071), (8, iv z34070), (9, iv (z34928 + 1))]) (List.forall_mem_cons.mpr ⟨rfl, List.forall_mem_cons.mpr ⟨rfl, List.forall_mem_cons.mpr ⟨rfl, List.forall_mem_cons.mpr ⟨rfl, List.forall_mem_cons.mpr ⟨rfl, List.forall_mem_cons.mpr ⟨rfl, List.forall_mem_cons.mpr ⟨rfl, List.forall_mem_cons.mpr ⟨rfl, List.forall_mem_cons.mpr ⟨rfl, fun _ h => absurd h List.not_mem_nil⟩⟩⟩⟩⟩⟩⟩⟩⟩) ?_
                            exact ih34939 (z34928 + 1) μ35012 T35014 (mF.up (mF.call mF.refl F34933 rfl) (A_165 hw) u35013 rfl) (rW (c := 0) (d := 20) (rAdd (e := 1) (f := 20) h34997 (rR (x := 1)) rfl) rfl) (vc_X12_pick_31 h29601 h29638 h34079 h34143 h34935 h34978 h34998 h29597 h34075 h34997) (PK.keep I34936 hw ((mF.up mF.refl (A_165 hw) u35013 rfl) : mF [165999] w μ34929 μ35012) rfl) (lft.z1 R34937 (vc_X12_pick_33 h34935 h34978 h29601 h29638 h34079 h34143 h34998 h29597 h34075 h34997) u35013 (by decide) (vc_X12_pick_34 h34935 h34978 h29601 h29638 h34079 h34143 h34998 h29597 h34075 h34997) (u35013.f (Or.inl (mAt.ne (A_165 hw) (A_126 hw) rfl)) q35000) (vc_X12_pick_35 h35006.2.1 h35006.2.2.1 h35010 h35008 h35011 h35009)) (vc_X12_pick_32 (nS h34938) h34935 h34978 h29601 h29638 h34079 h34143 h34998 h29597 h34075 h34997)
                          have h35015 : 1 ≤ z35007 ∧ z35007 ≤ 1 := (vc_X12_pick_36 h35008 h35006.2.1 h35006.2.2.1 h35002 h35006.1)
                          have h35016 : 0 ≤ z34999 := (h35006.2.1 (vc_X12_pick_37 h35006.2.1 h35006.2.2.1 h35008 h35002 h35015))
                          have h35017 : 0 ≤ z34999 ∧ z34999 ≤ 9 := (vc_X12_pick_38 h35016 h35006.2.1 h35006.2.2.1 h35002 h35015)
                          refine sv_aload_n (pc := 292) dX12_pick_292 rfl rfl ?_
                          refine gf_X12_32 (pc := 293) dX12_pick_293 wF_X12_148 (A_106 hw) T34932 ?_
                          refine mr_bipush (pc := 296) (z := 40) dX12_pick_296 (by decide) ?_
                          refine mr_iconst (pc := 298) (z := 4) dX12_pick_298 ?_
                          refine mr_iload (pc := 299) (z := z34928) dX12_pick_299 rfl ?_
                          refine mr_iadd (pc := 301) (x := 4) (y := z34928) dX12_pick_301 ?_
                          refine mr_imul (pc := 302) (x := 40) (y := (4 + z34928)) dX12_pick_302 ?_
                          refine mr_iconst (pc := 303) (z := 4) dX12_pick_303 ?_
                          refine mr_iadd (pc := 304) (x := (40 * (4 + z34928))) (y := 4) dX12_pick_304 ?_
                          refine la_126 (pc := 305) dX12_pick_305 (A_126 hw) T34932 (rIx (n := 84000) (rAdd (e := 164) (f := 924) (rMulL (n := 40) (e := 160) (f := 920) (rAdd (e := 4) (f := 23) (rR (x := 4)) h34997 rfl) rfl) (rR (x := 4)) rfl) rfl) fun z35018 q35019 h35020 => ?_
                          have h35021 : 0 ≤ z35018 ∧ z35018 ≤ 20 := h35020.2.2.1 (vc_X12_pick_39 h34935 h34978 h29601 h29638 h34079 h34143 h34998 h29597 h34075 h34997)
                          refine mr_if_le (pc := 306) (tgt := 333) dX12_pick_306 (by decide) (r32 h35021 rfl) (fun h35022 => ?_) (fun h35022 => ?_)
                          · have h35023 : 0 ≤ z35018 ∧ z35018 ≤ 0 := (vc_X12_pick_40 h35022 h35021)
                            refine mr_iconst (pc := 333) (z := 0) dX12_pick_333 ?_
                            refine ss_165 (pc := 334) dX12_pick_334 (A_165 hw) T34932 (rIx (n := 20) h34997 rfl) (rW (c := 0) (d := 1) (rR (x := 0)) rfl) fun μ35024 u35025 T35026 => ?_
                            refine mr_iinc (pc := 335) (lv' := [(9, iv (z34928 + 1)), (0, .ref 106), (1, iv p1), (2, iv p2), (3, iv z30673), (4, iv 1), (5, iv z34070), (6, iv z34071), (8, iv z34070)]) dX12_pick_335 rfl (by decide) rfl ?_
                            refine sv_goto (pc := 338) (tgt := 266) dX12_pick_338 (by decide) ?_
                            refine mr_lvS (lv' := [(0, .ref 106), (1, iv p1), (2, iv p2), (3, iv z30673), (4, iv 1), (5, iv z34070), (6, iv z34071), (8, iv z34070), (9, iv (z34928 + 1))]) (List.forall_mem_cons.mpr ⟨rfl, List.forall_mem_cons.mpr ⟨rfl, List.forall_mem_cons.mpr ⟨rfl, List.forall_mem_cons.mpr ⟨rfl, List.forall_mem_cons.mpr ⟨rfl, List.forall_mem_cons.mpr ⟨rfl, List.forall_mem_cons.mpr ⟨rfl, List.forall_mem_cons.mpr ⟨rfl, List.forall_mem_cons.mpr ⟨rfl, fun _ h => absurd h List.not_mem_nil⟩⟩⟩⟩⟩⟩⟩⟩⟩) ?_
                            exact ih34939 (z34928 + 1) μ35024 T35026 (mF.up (mF.call mF.refl F34933 rfl) (A_165 hw) u35025 rfl) (rW (c := 0) (d := 20) (rAdd (e := 1) (f := 20) h34997 (rR (x := 1)) rfl) rfl) (vc_X12_pick_31 h29601 h29638 h34079 h34143 h34935 h34978 h34998 h29597 h34075 h34997) (PK.keep I34936 hw ((mF.up mF.refl (A_165 hw) u35025 rfl) : mF [165999] w μ34929 μ35024) rfl) (lft.z2 R34937 (vc_X12_pick_33 h34935 h34978 h29601 h29638 h34079 h34143 h34998 h29597 h34075 h34997) u35025 (by decide) (vc_X12_pick_41 h34935 h34978 h29601 h29638 h34079 h34143 h34998 h29597 h34075 h34997) (u35025.f (Or.inl (mAt.ne (A_165 hw) (A_126 hw) rfl)) q35019) (vc_X12_pick_42 h35022 h35023)) (vc_X12_pick_32 (nS h34938) h34935 h34978 h29601 h29638 h34079 h34143 h34998 h29597 h34075 h34997)
                          have h35027 : 1 ≤ z35018 ∧ z35018 ≤ 20 := (vc_X12_pick_43 h35022 h35021)
                          refine sv_aload_n (pc := 309) dX12_pick_309 rfl rfl ?_
                          refine gf_X12_32 (pc := 310) dX12_pick_310 wF_X12_148 (A_106 hw) T34932 ?_
                          refine mr_bipush (pc := 313) (z := 40) dX12_pick_313 (by decide) ?_
                          refine mr_iconst (pc := 315) (z := 4) dX12_pick_315 ?_
                          refine mr_iload (pc := 316) (z := z34928) dX12_pick_316 rfl ?_
                          refine mr_iadd (pc := 318) (x := 4) (y := z34928) dX12_pick_318 ?_
                          refine mr_imul (pc := 319) (x := 40) (y := (4 + z34928)) dX12_pick_319 ?_
                          refine mr_bipush (pc := 320) (z := 6) dX12_pick_320 (by decide) ?_
                          refine mr_iadd (pc := 322) (x := (40 * (4 + z34928))) (y := 6) dX12_pick_322 ?_
                          refine la_126 (pc := 323) dX12_pick_323 (A_126 hw) T34932 (rIx (n := 84000) (rAdd (e := 166) (f := 926) (rMulL (n := 40) (e := 160) (f := 920) (rAdd (e := 4) (f := 23) (rR (x := 4)) h34997 rfl) rfl) (rR (x := 6)) rfl) rfl) fun z35028 q35029 h35030 => ?_
                          refine mr_iload (pc := 324) (z := z34070) dX12_pick_324 rfl ?_
                          refine mr_icmp_ne (pc := 326) (tgt := 333) dX12_pick_326 (by decide) h35030.1 h34074 (fun h35031 => ?_) (fun h35031 => ?_)
                          · refine mr_iconst (pc := 333) (z := 0) dX12_pick_333 ?_
                            refine ss_165 (pc := 334) dX12_pick_334 (A_165 hw) T34932 (rIx (n := 20) h34997 rfl) (rW (c := 0) (d := 1) (rR (x := 0)) rfl) fun μ35032 u35033 T35034 => ?_
                            refine mr_iinc (pc := 335) (lv' := [(9, iv (z34928 + 1)), (0, .ref 106), (1, iv p1), (2, iv p2), (3, iv z30673), (4, iv 1), (5, iv z34070), (6, iv z34071), (8, iv z34070)]) dX12_pick_335 rfl (by decide) rfl ?_
                            refine sv_goto (pc := 338) (tgt := 266) dX12_pick_338 (by decide) ?_
                            refine mr_lvS (lv' := [(0, .ref 106), (1, iv p1), (2, iv p2), (3, iv z30673), (4, iv 1), (5, iv z34070), (6, iv z34071), (8, iv z34070), (9, iv (z34928 + 1))]) (List.forall_mem_cons.mpr ⟨rfl, List.forall_mem_cons.mpr ⟨rfl, List.forall_mem_cons.mpr ⟨rfl, List.forall_mem_cons.mpr ⟨rfl, List.forall_mem_cons.mpr ⟨rfl, List.forall_mem_cons.mpr ⟨rfl, List.forall_mem_cons.mpr ⟨rfl, List.forall_mem_cons.mpr ⟨rfl, List.forall_mem_cons.mpr ⟨rfl, fun _ h => absurd h List.not_mem_nil⟩⟩⟩⟩⟩⟩⟩⟩⟩) ?_
                            exact ih34939 (z34928 + 1) μ35032 T35034 (mF.up (mF.call mF.refl F34933 rfl) (A_165 hw) u35033 rfl) (rW (c := 0) (d := 20) (rAdd (e := 1) (f := 20) h34997 (rR (x := 1)) rfl) rfl) (vc_X12_pick_31 h29601 h29638 h34079 h34143 h34935 h34978 h34998 h29597 h34075 h34997) (PK.keep I34936 hw ((mF.up mF.refl (A_165 hw) u35033 rfl) : mF [165999] w μ34929 μ35032) rfl) (lft.z3 R34937 (vc_X12_pick_33 h34935 h34978 h29601 h29638 h34079 h34143 h34998 h29597 h34075 h34997) u35033 (by decide) (vc_X12_pick_44 h34935 h34978 h29601 h29638 h34079 h34143 h34998 h29597 h34075 h34997) (u35033.f (Or.inl (mAt.ne (A_165 hw) (A_126 hw) rfl)) q35029) (vc_X12_pick_45 h34080 h35031 h34144 h30678 h30677 h34074 h34145 h35030.1)) (vc_X12_pick_32 (nS h34938) h34935 h34978 h29601 h29638 h34079 h34143 h34998 h29597 h34075 h34997)
                          refine mr_iconst (pc := 329) (z := 1) dX12_pick_329 ?_
                          refine sv_goto (pc := 330) (tgt := 334) dX12_pick_330 (by decide) ?_
                          refine ss_165 (pc := 334) dX12_pick_334 (A_165 hw) T34932 (rIx (n := 20) h34997 rfl) (rW (c := 0) (d := 1) (rR (x := 1)) rfl) fun μ35035 u35036 T35037 => ?_
                          refine mr_iinc (pc := 335) (lv' := [(9, iv (z34928 + 1)), (0, .ref 106), (1, iv p1), (2, iv p2), (3, iv z30673), (4, iv 1), (5, iv z34070), (6, iv z34071), (8, iv z34070)]) dX12_pick_335 rfl (by decide) rfl ?_
                          refine sv_goto (pc := 338) (tgt := 266) dX12_pick_338 (by decide) ?_
                          refine mr_lvS (lv' := [(0, .ref 106), (1, iv p1), (2, iv p2), (3, iv z30673), (4, iv 1), (5, iv z34070), (6, iv z34071), (8, iv z34070), (9, iv (z34928 + 1))]) (List.forall_mem_cons.mpr ⟨rfl, List.forall_mem_cons.mpr ⟨rfl, List.forall_mem_cons.mpr ⟨rfl, List.forall_mem_cons.mpr ⟨rfl, List.forall_mem_cons.mpr ⟨rfl, List.forall_mem_cons.mpr ⟨rfl, List.forall_mem_cons.mpr ⟨rfl, List.forall_mem_cons.mpr ⟨rfl, List.forall_mem_cons.mpr ⟨rfl, fun _ h => absurd h List.not_mem_nil⟩⟩⟩⟩⟩⟩⟩⟩⟩) ?_
                          exact ih34939 (z34928 + 1) μ35035 T35037 (mF.up (mF.call mF.refl F34933 rfl) (A_165 hw) u35036 rfl) (rW (c := 0) (d := 20) (rAdd (e := 1) (f := 20) h34997 (rR (x := 1)) rfl) rfl) (vc_X12_pick_31 h29601 h29638 h34079 h34143 h34935 h34978 h34998 h29597 h34075 h34997) (PK.keep I34936 hw ((mF.up mF.refl (A_165 hw) u35036 rfl) : mF [165999] w μ34929 μ35035) rfl) (lft.p1 R34937 (vc_X12_pick_33 h34935 h34978 h29601 h29638 h34079 h34143 h34998 h29597 h34075 h34997) u35036 rfl (vc_X12_pick_34 h34935 h34978 h29601 h29638 h34079 h34143 h34998 h29597 h34075 h34997) (u35036.f (Or.inl (mAt.ne (A_165 hw) (A_126 hw) rfl)) q35000) (vc_X12_pick_46 h35006.2.1 h35006.2.2.1 h35016 h35008 h35017 h35015)) (vc_X12_pick_32 (nS h34938) h34935 h34978 h29601 h29638 h34079 h34143 h34998 h29597 h34075 h34997)
                      refine mr_lvS (lv' := [(0, .ref 106), (1, iv p1), (2, iv p2), (3, iv z30673), (4, iv 1), (5, iv z34070), (6, iv z34071), (8, iv z34070), (9, iv 0)]) (List.forall_mem_cons.mpr ⟨rfl, List.forall_mem_cons.mpr ⟨rfl, List.forall_mem_cons.mpr ⟨rfl, List.forall_mem_cons.mpr ⟨rfl, List.forall_mem_cons.mpr ⟨rfl, List.forall_mem_cons.mpr ⟨rfl, List.forall_mem_cons.mpr ⟨rfl, List.forall_mem_cons.mpr ⟨rfl, List.forall_mem_cons.mpr ⟨rfl, fun _ h => absurd h List.not_mem_nil⟩⟩⟩⟩⟩⟩⟩⟩⟩) ?_
                      exact L34930 22 0 μ30674 T30680 mF.refl (rW (c := 0) (d := 20) (rR (x := 0)) rfl) (vc_X12_pick_47 h29601 h29638 h34079 h34143 ht_f_ties h29597 h34075) I30683 lft.zero vc_X12_pick_48
                    have h35038 : 0 ≤ z34071 ∧ z34071 ≤ 0 := (vc_X12_pick_49 h34144 h34080 h30678 h30677 h34074 h34073)
                    refine sv_goto (pc := 253) (tgt := 130) dX12_pick_253 (by decide) ?_
                    refine mr_lvS (lv' := [(0, .ref 106), (1, iv p1), (2, iv p2), (3, iv z30673), (4, iv z30672), (5, iv z30671), (6, iv z34071)]) (List.forall_mem_cons.mpr ⟨rfl, List.forall_mem_cons.mpr ⟨rfl, List.forall_mem_cons.mpr ⟨rfl, List.forall_mem_cons.mpr ⟨rfl, List.forall_mem_cons.mpr ⟨rfl, List.forall_mem_cons.mpr ⟨rfl, List.forall_mem_cons.mpr ⟨rfl, fun _ h => absurd h List.not_mem_nil⟩⟩⟩⟩⟩⟩⟩) ?_
                    exact ih30687 z30673 z30672 z30671 z34071 μ30674 T30680 (mF.call mF.refl F30681 rfl) h30676 h30677 h30678 (rW (c := 0) (d := 1) h35038 rfl) I30683 R30684 (vc_X12_pick_51 h30676 h30685) (vc_X12_pick_50 (nS h30686) h31042 h34080 h34144 h31044 h30678 h30677 h34074 h35038)
                  have h35039 : 0 ≤ z34069 ∧ z34069 ≤ 19 := (vc_X12_pick_52 h34143 h29601 h29638 h34079 ht_f_ties h29597 h34075)
                  have h35040 : 1 ≤ f_ties ∧ f_ties ≤ 20 := (vc_X12_pick_53 h34143 h29601 h29638 h34079 ht_f_ties h29597 h35039)
                  refine sv_aload_n (pc := 153) dX12_pick_153 rfl rfl ?_
                  refine mr_iconst (pc := 154) (z := 4) dX12_pick_154 ?_
                  refine mr_iload (pc := 155) (z := z34069) dX12_pick_155 rfl ?_
                  refine mr_iadd (pc := 157) (x := 4) (y := z34069) dX12_pick_157 ?_
                  obtain ⟨z35041, q35042⟩ : ∃ z, μ30674 126 ((40 * (4 + z34069)).toNat) = z := ⟨_, rfl⟩
                  have h35043 := rt7 T30680 (A_126 hw) (vc_X12_pick_54 h34079 h34143 h29601 h29638 h35040 h29597 h35039) q35042
                  have h35044 : (-1) ≤ z35041 ∧ z35041 ≤ 9 := h35043.2.1 (vc_X12_pick_55 h34079 h34143 h29601 h29638 h35040 h29597 h35039)
                  refine mr_cVP (pc := 158) (c_X12_isThere hw T30680 (rW (c := 0) (d := 2099) (rAdd (e := 4) (f := 23) (rR (x := 4)) h35039 rfl) rfl) q35042) (gOk _ _ _ _ _) dX12_pick_158 (tX12_isThere _ _ _ _ _) ⟨wV_X12_isThere, wL_X12_isThere⟩ wM_X12_151 (gCX12 _ _ _ _ _) rfl (A_106 hw) rfl ⟨le_t rfl, le_t rfl⟩ ⟨le_t rfl, le_t rfl⟩ rfl (le_t rfl) fun z35049 h35048 => ?_
                  refine mr_if_eq (pc := 161) (tgt := 238) dX12_pick_161 (by decide) (r32 h35048.1 rfl) (fun h35050 => ?_) (fun h35050 => ?_)
                  · have h35051 : 0 ≤ z35049 ∧ z35049 ≤ 0 := (vc_X12_pick_56 h35050 h35048.2.1 h35048.2.2.1 h35044 h35048.1)
                    have h35052 : z35041 < 0 := (h35048.2.2.1 (vc_X12_pick_57 h35048.2.1 h35048.2.2.1 h35050 h35044 h35051))
                    have h35053 : (-1) ≤ z35041 ∧ z35041 ≤ (-1) := (vc_X12_pick_58 h35052 h35048.2.1 h35048.2.2.1 h35044 h35051)
                    refine mr_iinc (pc := 238) (lv' := [(9, iv (z34069 + 1)), (0, .ref 106), (1, iv p1), (2, iv p2), (3, iv z30673), (4, iv z30672), (5, iv z30671), (7, iv z34071), (8, iv z34070)]) dX12_pick_238 rfl (by decide) rfl ?_
                    refine sv_goto (pc := 241) (tgt := 144) dX12_pick_241 (by decide) ?_
                    refine mr_lvS (lv' := [(0, .ref 106), (1, iv p1), (2, iv p2), (3, iv z30673), (4, iv z30672), (5, iv z30671), (7, iv z34071), (8, iv z34070), (9, iv (z34069 + 1))]) (List.forall_mem_cons.mpr ⟨rfl, List.forall_mem_cons.mpr ⟨rfl, List.forall_mem_cons.mpr ⟨rfl, List.forall_mem_cons.mpr ⟨rfl, List.forall_mem_cons.mpr ⟨rfl, List.forall_mem_cons.mpr ⟨rfl, List.forall_mem_cons.mpr ⟨rfl, List.forall_mem_cons.mpr ⟨rfl, List.forall_mem_cons.mpr ⟨rfl, fun _ h => absurd h List.not_mem_nil⟩⟩⟩⟩⟩⟩⟩⟩⟩) ?_
                    exact ih34083 z34071 z34070 (z34069 + 1) trivial h34073 h34074 (rW (c := 0) (d := 20) (rAdd (e := 1) (f := 20) h35039 (rR (x := 1)) rfl) rfl) (vc_X12_pick_59 h29601 h29638 h34079 h34143 h35040 h29597 h35039) (vc_X12_pick_60 h34080 h30678 h30677 h34074 h34073) (hit.or R34081 (vc_X12_pick_62 h34079 h34143 h29601 h29638 h35040 h29597 h35039)) (vc_X12_pick_61 (nS h34082) h34079 h34143 h29601 h29638 h35040 h29597 h35039)
                  have h35054 : 1 ≤ z35049 ∧ z35049 ≤ 1 := (vc_X12_pick_63 h35050 h35048.2.1 h35048.2.2.1 h35044 h35048.1)
                  have h35055 : 0 ≤ z35041 := (h35048.2.1 (vc_X12_pick_64 h35048.2.1 h35048.2.2.1 h35050 h35044 h35054))
                  have h35056 : 0 ≤ z35041 ∧ z35041 ≤ 9 := (vc_X12_pick_65 h35055 h35048.2.1 h35048.2.2.1 h35044 h35054)
                  refine sv_aload_n (pc := 164) dX12_pick_164 rfl rfl ?_
                  refine gf_X12_32 (pc := 165) dX12_pick_165 wF_X12_148 (A_106 hw) T30680 ?_
                  refine mr_bipush (pc := 168) (z := 40) dX12_pick_168 (by decide) ?_
                  refine mr_iconst (pc := 170) (z := 4) dX12_pick_170 ?_
                  refine mr_iload (pc := 171) (z := z34069) dX12_pick_171 rfl ?_
                  refine mr_iadd (pc := 173) (x := 4) (y := z34069) dX12_pick_173 ?_
                  refine mr_imul (pc := 174) (x := 40) (y := (4 + z34069)) dX12_pick_174 ?_
                  refine mr_iconst (pc := 175) (z := 4) dX12_pick_175 ?_
                  refine mr_iadd (pc := 176) (x := (40 * (4 + z34069))) (y := 4) dX12_pick_176 ?_
                  refine la_126 (pc := 177) dX12_pick_177 (A_126 hw) T30680 (rIx (n := 84000) (rAdd (e := 164) (f := 924) (rMulL (n := 40) (e := 160) (f := 920) (rAdd (e := 4) (f := 23) (rR (x := 4)) h35039 rfl) rfl) (rR (x := 4)) rfl) rfl) fun z35057 q35058 h35059 => ?_
                  have h35060 : 0 ≤ z35057 ∧ z35057 ≤ 20 := h35059.2.2.1 (vc_X12_pick_66 h34079 h34143 h29601 h29638 h35040 h29597 h35039)
                  refine mr_if_ne (pc := 178) (tgt := 184) dX12_pick_178 (by decide) (r32 h35060 rfl) (fun h35061 => ?_) (fun h35061 => ?_)
                  · have h35062 : 1 ≤ z35057 ∧ z35057 ≤ 20 := (vc_X12_pick_67 h35061 h35060)
                    refine sv_aload_n (pc := 184) dX12_pick_184 rfl rfl ?_
                    refine gf_X12_32 (pc := 185) dX12_pick_185 wF_X12_148 (A_106 hw) T30680 ?_
                    refine mr_bipush (pc := 188) (z := 40) dX12_pick_188 (by decide) ?_
                    refine mr_iconst (pc := 190) (z := 4) dX12_pick_190 ?_
                    refine mr_iload (pc := 191) (z := z34069) dX12_pick_191 rfl ?_
                    refine mr_iadd (pc := 193) (x := 4) (y := z34069) dX12_pick_193 ?_
                    refine mr_imul (pc := 194) (x := 40) (y := (4 + z34069)) dX12_pick_194 ?_
                    refine mr_bipush (pc := 195) (z := 6) dX12_pick_195 (by decide) ?_
                    refine mr_iadd (pc := 197) (x := (40 * (4 + z34069))) (y := 6) dX12_pick_197 ?_
                    refine la_126 (pc := 198) dX12_pick_198 (A_126 hw) T30680 (rIx (n := 84000) (rAdd (e := 166) (f := 926) (rMulL (n := 40) (e := 160) (f := 920) (rAdd (e := 4) (f := 23) (rR (x := 4)) h35039 rfl) rfl) (rR (x := 6)) rfl) rfl) fun z35063 q35064 h35065 => ?_
                    refine mr_istore (pc := 199) (lv' := [(10, iv z35063), (0, .ref 106), (1, iv p1), (2, iv p2), (3, iv z30673), (4, iv z30672), (5, iv z30671), (7, iv z34071), (8, iv z34070), (9, iv z34069)]) dX12_pick_199 (by decide) rfl ?_
                    refine mr_iload (pc := 201) (z := z30672) dX12_pick_201 rfl ?_
                    refine mr_if_eq (pc := 203) (tgt := 216) dX12_pick_203 (by decide) (r32 h30677 rfl) (fun h35066 => ?_) (fun h35066 => ?_)
                    · have h35067 : 0 ≤ z30672 ∧ z30672 ≤ 0 := (vc_X12_pick_68 h35066 h34080 h30678 h30677 h34074 h34073)
                      refine mr_iload (pc := 216) (z := z34071) dX12_pick_216 rfl ?_
                      refine mr_if_eq (pc := 218) (tgt := 231) dX12_pick_218 (by decide) (r32 h34073 rfl) (fun h35068 => ?_) (fun h35068 => ?_)
                      · have h35069 : 0 ≤ z34071 ∧ z34071 ≤ 0 := (vc_X12_pick_69 h35068 h34080 h30678 h35067 h34074 h34073)
                        refine mr_iload (pc := 231) (z := z35063) dX12_pick_231 rfl ?_
                        refine mr_istore (pc := 233) (lv' := [(8, iv z35063), (10, iv z35063), (0, .ref 106), (1, iv p1), (2, iv p2), (3, iv z30673), (4, iv z30672), (5, iv z30671), (7, iv z34071), (9, iv z34069)]) dX12_pick_233 (by decide) rfl ?_
                        refine mr_iconst (pc := 235) (z := 1) dX12_pick_235 ?_
                        refine mr_istore (pc := 236) (lv' := [(7, iv 1), (8, iv z35063), (10, iv z35063), (0, .ref 106), (1, iv p1), (2, iv p2), (3, iv z30673), (4, iv z30672), (5, iv z30671), (9, iv z34069)]) dX12_pick_236 (by decide) rfl ?_
                        refine mr_iinc (pc := 238) (lv' := [(9, iv (z34069 + 1)), (7, iv 1), (8, iv z35063), (10, iv z35063), (0, .ref 106), (1, iv p1), (2, iv p2), (3, iv z30673), (4, iv z30672), (5, iv z30671)]) dX12_pick_238 rfl (by decide) rfl ?_
                        refine sv_goto (pc := 241) (tgt := 144) dX12_pick_241 (by decide) ?_
                        refine mr_lvS (lv' := [(0, .ref 106), (1, iv p1), (2, iv p2), (3, iv z30673), (4, iv z30672), (5, iv z30671), (7, iv 1), (8, iv z35063), (9, iv (z34069 + 1))]) (List.forall_mem_cons.mpr ⟨rfl, List.forall_mem_cons.mpr ⟨rfl, List.forall_mem_cons.mpr ⟨rfl, List.forall_mem_cons.mpr ⟨rfl, List.forall_mem_cons.mpr ⟨rfl, List.forall_mem_cons.mpr ⟨rfl, List.forall_mem_cons.mpr ⟨rfl, List.forall_mem_cons.mpr ⟨rfl, List.forall_mem_cons.mpr ⟨rfl, fun _ h => absurd h List.not_mem_nil⟩⟩⟩⟩⟩⟩⟩⟩⟩) ?_
                        exact ih34083 1 z35063 (z34069 + 1) trivial (rW (c := 0) (d := 1) (rR (x := 1)) rfl) h35065.1 (rW (c := 0) (d := 20) (rAdd (e := 1) (f := 20) h35039 (rR (x := 1)) rfl) rfl) (vc_X12_pick_59 h29601 h29638 h34079 h34143 h35040 h29597 h35039) (vc_X12_pick_70 h34080 h35066 h35068 h30678 h35067 h34074 h35069 h35065.1) (Or.inr (hit.new (vc_X12_pick_71 h34079 h34143 h29601 h29638 h35040 h29597 h35039) (vc_X12_pick_72 h34079 h34143 h29601 h29638 h35040 h29597 h35039) q35042 (vc_X12_pick_73 h35048.2.1 h35048.2.2.1 h35055 h35050 h35056 h35054) (vc_X12_pick_74 h34079 h34143 h29601 h29638 h35040 h29597 h35039) q35058 (vc_X12_pick_75 h35061 h35062) (vc_X12_pick_76 h34079 h34143 h29601 h29638 h35040 h29597 h35039) q35064)) (vc_X12_pick_61 (nS h34082) h34079 h34143 h29601 h29638 h35040 h29597 h35039)
                      have h35070 : 1 ≤ z34071 ∧ z34071 ≤ 1 := (vc_X12_pick_77 h35068 h34080 h30678 h35067 h34074 h34073)
                      refine mr_iload (pc := 221) (z := z35063) dX12_pick_221 rfl ?_
                      refine mr_iload (pc := 223) (z := z34070) dX12_pick_223 rfl ?_
                      refine mr_cSP (pc := 225) (c_X12_isBelow hw T30680 h35065.1 h34074) (gOk _ _ _ _ _) dX12_pick_225 (tX12_isBelow _ _ _ _ _) wS_X12_isBelow wM_X12_578 ⟨le_t rfl, le_t rfl⟩ ⟨le_t rfl, le_t rfl⟩ rfl (le_t rfl) fun z35075 h35074 => ?_
                      refine mr_if_eq (pc := 228) (tgt := 238) dX12_pick_228 (by decide) (r32 h35074.1 rfl) (fun h35076 => ?_) (fun h35076 => ?_)
                      · have h35077 : 0 ≤ z35075 ∧ z35075 ≤ 0 := (vc_X12_pick_78 h35076 h35074.2.1 h35074.2.2.1 h34074 h35065.1 h35074.1)
                        have h35078 : z34070 % 4294967296 ≤ z35063 % 4294967296 := (h35074.2.2.1 (vc_X12_pick_79 h35074.2.1 h35074.2.2.1 h35076 h34080 h30678 h35067 h34074 h35070 h35065.1 h35077))
                        refine mr_iinc (pc := 238) (lv' := [(9, iv (z34069 + 1)), (10, iv z35063), (0, .ref 106), (1, iv p1), (2, iv p2), (3, iv z30673), (4, iv z30672), (5, iv z30671), (7, iv z34071), (8, iv z34070)]) dX12_pick_238 rfl (by decide) rfl ?_
                        refine sv_goto (pc := 241) (tgt := 144) dX12_pick_241 (by decide) ?_
                        refine mr_lvS (lv' := [(0, .ref 106), (1, iv p1), (2, iv p2), (3, iv z30673), (4, iv z30672), (5, iv z30671), (7, iv z34071), (8, iv z34070), (9, iv (z34069 + 1))]) (List.forall_mem_cons.mpr ⟨rfl, List.forall_mem_cons.mpr ⟨rfl, List.forall_mem_cons.mpr ⟨rfl, List.forall_mem_cons.mpr ⟨rfl, List.forall_mem_cons.mpr ⟨rfl, List.forall_mem_cons.mpr ⟨rfl, List.forall_mem_cons.mpr ⟨rfl, List.forall_mem_cons.mpr ⟨rfl, List.forall_mem_cons.mpr ⟨rfl, fun _ h => absurd h List.not_mem_nil⟩⟩⟩⟩⟩⟩⟩⟩⟩) ?_
                        exact ih34083 z34071 z34070 (z34069 + 1) trivial (rW (c := 0) (d := 1) h35070 rfl) h34074 (rW (c := 0) (d := 20) (rAdd (e := 1) (f := 20) h35039 (rR (x := 1)) rfl) rfl) (vc_X12_pick_59 h29601 h29638 h34079 h34143 h35040 h29597 h35039) (vc_X12_pick_80 h34080 h35066 h35068 h35074.2.1 h35074.2.2.1 h35078 h35076 h30678 h35067 h34074 h35070 h35065.1 h35077) (hit.or R34081 (vc_X12_pick_62 h34079 h34143 h29601 h29638 h35040 h29597 h35039)) (vc_X12_pick_61 (nS h34082) h34079 h34143 h29601 h29638 h35040 h29597 h35039)
                      have h35079 : 1 ≤ z35075 ∧ z35075 ≤ 1 := (vc_X12_pick_81 h35076 h35074.2.1 h35074.2.2.1 h34074 h35065.1 h35074.1)
                      have h35080 : z35063 % 4294967296 < z34070 % 4294967296 := (h35074.2.1 (vc_X12_pick_82 h35074.2.1 h35074.2.2.1 h35076 h34080 h30678 h35067 h34074 h35070 h35065.1 h35079))
                      refine mr_iload (pc := 231) (z := z35063) dX12_pick_231 rfl ?_
                      refine mr_istore (pc := 233) (lv' := [(8, iv z35063), (10, iv z35063), (0, .ref 106), (1, iv p1), (2, iv p2), (3, iv z30673), (4, iv z30672), (5, iv z30671), (7, iv z34071), (9, iv z34069)]) dX12_pick_233 (by decide) rfl ?_
                      refine mr_iconst (pc := 235) (z := 1) dX12_pick_235 ?_
                      refine mr_istore (pc := 236) (lv' := [(7, iv 1), (8, iv z35063), (10, iv z35063), (0, .ref 106), (1, iv p1), (2, iv p2), (3, iv z30673), (4, iv z30672), (5, iv z30671), (9, iv z34069)]) dX12_pick_236 (by decide) rfl ?_
                      refine mr_iinc (pc := 238) (lv' := [(9, iv (z34069 + 1)), (7, iv 1), (8, iv z35063), (10, iv z35063), (0, .ref 106), (1, iv p1), (2, iv p2), (3, iv z30673), (4, iv z30672), (5, iv z30671)]) dX12_pick_238 rfl (by decide) rfl ?_
                      refine sv_goto (pc := 241) (tgt := 144) dX12_pick_241 (by decide) ?_
                      refine mr_lvS (lv' := [(0, .ref 106), (1, iv p1), (2, iv p2), (3, iv z30673), (4, iv z30672), (5, iv z30671), (7, iv 1), (8, iv z35063), (9, iv (z34069 + 1))]) (List.forall_mem_cons.mpr ⟨rfl, List.forall_mem_cons.mpr ⟨rfl, List.forall_mem_cons.mpr ⟨rfl, List.forall_mem_cons.mpr ⟨rfl, List.forall_mem_cons.mpr ⟨rfl, List.forall_mem_cons.mpr ⟨rfl, List.forall_mem_cons.mpr ⟨rfl, List.forall_mem_cons.mpr ⟨rfl, List.forall_mem_cons.mpr ⟨rfl, fun _ h => absurd h List.not_mem_nil⟩⟩⟩⟩⟩⟩⟩⟩⟩) ?_
                      exact ih34083 1 z35063 (z34069 + 1) trivial (rW (c := 0) (d := 1) (rR (x := 1)) rfl) h35065.1 (rW (c := 0) (d := 20) (rAdd (e := 1) (f := 20) h35039 (rR (x := 1)) rfl) rfl) (vc_X12_pick_59 h29601 h29638 h34079 h34143 h35040 h29597 h35039) (vc_X12_pick_83 h34080 h35066 h35074.2.1 h35074.2.2.1 h35080 h35068 h35076 h30678 h35067 h34074 h35070 h35065.1 h35079) (Or.inr (hit.new (vc_X12_pick_71 h34079 h34143 h29601 h29638 h35040 h29597 h35039) (vc_X12_pick_72 h34079 h34143 h29601 h29638 h35040 h29597 h35039) q35042 (vc_X12_pick_73 h35048.2.1 h35048.2.2.1 h35055 h35050 h35056 h35054) (vc_X12_pick_74 h34079 h34143 h29601 h29638 h35040 h29597 h35039) q35058 (vc_X12_pick_75 h35061 h35062) (vc_X12_pick_76 h34079 h34143 h29601 h29638 h35040 h29597 h35039) q35064)) (vc_X12_pick_61 (nS h34082) h34079 h34143 h29601 h29638 h35040 h29597 h35039)
                    have h35081 : 1 ≤ z30672 ∧ z30672 ≤ 1 := (vc_X12_pick_84 h35066 h34080 h30678 h30677 h34074 h34073)
                    refine mr_iload (pc := 206) (z := z30671) dX12_pick_206 rfl ?_
                    refine mr_iload (pc := 208) (z := z35063) dX12_pick_208 rfl ?_
                    refine mr_cSP (pc := 210) (c_X12_isBelow hw T30680 h30678 h35065.1) (gOk _ _ _ _ _) dX12_pick_210 (tX12_isBelow _ _ _ _ _) wS_X12_isBelow wM_X12_578 ⟨le_t rfl, le_t rfl⟩ ⟨le_t rfl, le_t rfl⟩ rfl (le_t rfl) fun z35086 h35085 => ?_
                    refine mr_if_eq (pc := 213) (tgt := 238) dX12_pick_213 (by decide) (r32 h35085.1 rfl) (fun h35087 => ?_) (fun h35087 => ?_)
                    · have h35088 : 0 ≤ z35086 ∧ z35086 ≤ 0 := (vc_X12_pick_85 h35087 h35085.2.1 h35085.2.2.1 h30678 h35065.1 h35085.1)
                      have h35089 : z35063 % 4294967296 ≤ z30671 % 4294967296 := (h35085.2.2.1 (vc_X12_pick_86 h35085.2.1 h35085.2.2.1 h35087 h34080 h30678 h35081 h34074 h34073 h35065.1 h35088))
                      refine mr_iinc (pc := 238) (lv' := [(9, iv (z34069 + 1)), (10, iv z35063), (0, .ref 106), (1, iv p1), (2, iv p2), (3, iv z30673), (4, iv z30672), (5, iv z30671), (7, iv z34071), (8, iv z34070)]) dX12_pick_238 rfl (by decide) rfl ?_
                      refine sv_goto (pc := 241) (tgt := 144) dX12_pick_241 (by decide) ?_
                      refine mr_lvS (lv' := [(0, .ref 106), (1, iv p1), (2, iv p2), (3, iv z30673), (4, iv z30672), (5, iv z30671), (7, iv z34071), (8, iv z34070), (9, iv (z34069 + 1))]) (List.forall_mem_cons.mpr ⟨rfl, List.forall_mem_cons.mpr ⟨rfl, List.forall_mem_cons.mpr ⟨rfl, List.forall_mem_cons.mpr ⟨rfl, List.forall_mem_cons.mpr ⟨rfl, List.forall_mem_cons.mpr ⟨rfl, List.forall_mem_cons.mpr ⟨rfl, List.forall_mem_cons.mpr ⟨rfl, List.forall_mem_cons.mpr ⟨rfl, fun _ h => absurd h List.not_mem_nil⟩⟩⟩⟩⟩⟩⟩⟩⟩) ?_
                      exact ih34083 z34071 z34070 (z34069 + 1) trivial h34073 h34074 (rW (c := 0) (d := 20) (rAdd (e := 1) (f := 20) h35039 (rR (x := 1)) rfl) rfl) (vc_X12_pick_59 h29601 h29638 h34079 h34143 h35040 h29597 h35039) (vc_X12_pick_87 h34080 h35066 h35085.2.1 h35085.2.2.1 h35089 h35087 h30678 h35081 h34074 h34073 h35065.1 h35088) (hit.or R34081 (vc_X12_pick_62 h34079 h34143 h29601 h29638 h35040 h29597 h35039)) (vc_X12_pick_61 (nS h34082) h34079 h34143 h29601 h29638 h35040 h29597 h35039)
                    have h35090 : 1 ≤ z35086 ∧ z35086 ≤ 1 := (vc_X12_pick_88 h35087 h35085.2.1 h35085.2.2.1 h30678 h35065.1 h35085.1)
                    have h35091 : z30671 % 4294967296 < z35063 % 4294967296 := (h35085.2.1 (vc_X12_pick_89 h35085.2.1 h35085.2.2.1 h35087 h34080 h30678 h35081 h34074 h34073 h35065.1 h35090))
                    refine mr_iload (pc := 216) (z := z34071) dX12_pick_216 rfl ?_
                    refine mr_if_eq (pc := 218) (tgt := 231) dX12_pick_218 (by decide) (r32 h34073 rfl) (fun h35092 => ?_) (fun h35092 => ?_)
                    · have h35093 : 0 ≤ z34071 ∧ z34071 ≤ 0 := (vc_X12_pick_90 h35092 h34080 h30678 h35081 h34074 h34073)
                      refine mr_iload (pc := 231) (z := z35063) dX12_pick_231 rfl ?_
                      refine mr_istore (pc := 233) (lv' := [(8, iv z35063), (10, iv z35063), (0, .ref 106), (1, iv p1), (2, iv p2), (3, iv z30673), (4, iv z30672), (5, iv z30671), (7, iv z34071), (9, iv z34069)]) dX12_pick_233 (by decide) rfl ?_
                      refine mr_iconst (pc := 235) (z := 1) dX12_pick_235 ?_
                      refine mr_istore (pc := 236) (lv' := [(7, iv 1), (8, iv z35063), (10, iv z35063), (0, .ref 106), (1, iv p1), (2, iv p2), (3, iv z30673), (4, iv z30672), (5, iv z30671), (9, iv z34069)]) dX12_pick_236 (by decide) rfl ?_
                      refine mr_iinc (pc := 238) (lv' := [(9, iv (z34069 + 1)), (7, iv 1), (8, iv z35063), (10, iv z35063), (0, .ref 106), (1, iv p1), (2, iv p2), (3, iv z30673), (4, iv z30672), (5, iv z30671)]) dX12_pick_238 rfl (by decide) rfl ?_
                      refine sv_goto (pc := 241) (tgt := 144) dX12_pick_241 (by decide) ?_
                      refine mr_lvS (lv' := [(0, .ref 106), (1, iv p1), (2, iv p2), (3, iv z30673), (4, iv z30672), (5, iv z30671), (7, iv 1), (8, iv z35063), (9, iv (z34069 + 1))]) (List.forall_mem_cons.mpr ⟨rfl, List.forall_mem_cons.mpr ⟨rfl, List.forall_mem_cons.mpr ⟨rfl, List.forall_mem_cons.mpr ⟨rfl, List.forall_mem_cons.mpr ⟨rfl, List.forall_mem_cons.mpr ⟨rfl, List.forall_mem_cons.mpr ⟨rfl, List.forall_mem_cons.mpr ⟨rfl, List.forall_mem_cons.mpr ⟨rfl, fun _ h => absurd h List.not_mem_nil⟩⟩⟩⟩⟩⟩⟩⟩⟩) ?_
                      exact ih34083 1 z35063 (z34069 + 1) trivial (rW (c := 0) (d := 1) (rR (x := 1)) rfl) h35065.1 (rW (c := 0) (d := 20) (rAdd (e := 1) (f := 20) h35039 (rR (x := 1)) rfl) rfl) (vc_X12_pick_59 h29601 h29638 h34079 h34143 h35040 h29597 h35039) (vc_X12_pick_91 h34080 h35066 h35085.2.1 h35085.2.2.1 h35091 h35087 h35092 h30678 h35081 h34074 h35093 h35065.1 h35090) (Or.inr (hit.new (vc_X12_pick_71 h34079 h34143 h29601 h29638 h35040 h29597 h35039) (vc_X12_pick_72 h34079 h34143 h29601 h29638 h35040 h29597 h35039) q35042 (vc_X12_pick_73 h35048.2.1 h35048.2.2.1 h35055 h35050 h35056 h35054) (vc_X12_pick_74 h34079 h34143 h29601 h29638 h35040 h29597 h35039) q35058 (vc_X12_pick_75 h35061 h35062) (vc_X12_pick_76 h34079 h34143 h29601 h29638 h35040 h29597 h35039) q35064)) (vc_X12_pick_61 (nS h34082) h34079 h34143 h29601 h29638 h35040 h29597 h35039)
                    have h35094 : 1 ≤ z34071 ∧ z34071 ≤ 1 := (vc_X12_pick_92 h35092 h34080 h30678 h35081 h34074 h34073)
                    refine mr_iload (pc := 221) (z := z35063) dX12_pick_221 rfl ?_
                    refine mr_iload (pc := 223) (z := z34070) dX12_pick_223 rfl ?_
                    refine mr_cSP (pc := 225) (c_X12_isBelow hw T30680 h35065.1 h34074) (gOk _ _ _ _ _) dX12_pick_225 (tX12_isBelow _ _ _ _ _) wS_X12_isBelow wM_X12_578 ⟨le_t rfl, le_t rfl⟩ ⟨le_t rfl, le_t rfl⟩ rfl (le_t rfl) fun z35099 h35098 => ?_
                    refine mr_if_eq (pc := 228) (tgt := 238) dX12_pick_228 (by decide) (r32 h35098.1 rfl) (fun h35100 => ?_) (fun h35100 => ?_)
                    · have h35101 : 0 ≤ z35099 ∧ z35099 ≤ 0 := (vc_X12_pick_93 h35100 h35098.2.1 h35098.2.2.1 h34074 h35065.1 h35098.1)
                      have h35102 : z34070 % 4294967296 ≤ z35063 % 4294967296 := (h35098.2.2.1 (vc_X12_pick_94 h35098.2.1 h35098.2.2.1 h35100 h34080 h35085.2.1 h35085.2.2.1 h35091 h30678 h35081 h34074 h35094 h35065.1 h35090 h35101))
                      refine mr_iinc (pc := 238) (lv' := [(9, iv (z34069 + 1)), (10, iv z35063), (0, .ref 106), (1, iv p1), (2, iv p2), (3, iv z30673), (4, iv z30672), (5, iv z30671), (7, iv z34071), (8, iv z34070)]) dX12_pick_238 rfl (by decide) rfl ?_
                      refine sv_goto (pc := 241) (tgt := 144) dX12_pick_241 (by decide) ?_
                      refine mr_lvS (lv' := [(0, .ref 106), (1, iv p1), (2, iv p2), (3, iv z30673), (4, iv z30672), (5, iv z30671), (7, iv z34071), (8, iv z34070), (9, iv (z34069 + 1))]) (List.forall_mem_cons.mpr ⟨rfl, List.forall_mem_cons.mpr ⟨rfl, List.forall_mem_cons.mpr ⟨rfl, List.forall_mem_cons.mpr ⟨rfl, List.forall_mem_cons.mpr ⟨rfl, List.forall_mem_cons.mpr ⟨rfl, List.forall_mem_cons.mpr ⟨rfl, List.forall_mem_cons.mpr ⟨rfl, List.forall_mem_cons.mpr ⟨rfl, fun _ h => absurd h List.not_mem_nil⟩⟩⟩⟩⟩⟩⟩⟩⟩) ?_
                      exact ih34083 z34071 z34070 (z34069 + 1) trivial (rW (c := 0) (d := 1) h35094 rfl) h34074 (rW (c := 0) (d := 20) (rAdd (e := 1) (f := 20) h35039 (rR (x := 1)) rfl) rfl) (vc_X12_pick_59 h29601 h29638 h34079 h34143 h35040 h29597 h35039) (vc_X12_pick_95 h34080 h35066 h35085.2.1 h35085.2.2.1 h35091 h35092 h35098.2.1 h35098.2.2.1 h35102 h35087 h35100 h30678 h35081 h34074 h35094 h35065.1 h35090 h35101) (hit.or R34081 (vc_X12_pick_62 h34079 h34143 h29601 h29638 h35040 h29597 h35039)) (vc_X12_pick_61 (nS h34082) h34079 h34143 h29601 h29638 h35040 h29597 h35039)
                    have h35103 : 1 ≤ z35099 ∧ z35099 ≤ 1 := (vc_X12_pick_96 h35100 h35098.2.1 h35098.2.2.1 h34074 h35065.1 h35098.1)
                    have h35104 : z35063 % 4294967296 < z34070 % 4294967296 := (h35098.2.1 (vc_X12_pick_97 h35098.2.1 h35098.2.2.1 h35100 h34080 h35085.2.1 h35085.2.2.1 h35091 h30678 h35081 h34074 h35094 h35065.1 h35090 h35103))
                    refine mr_iload (pc := 231) (z := z35063) dX12_pick_231 rfl ?_
                    refine mr_istore (pc := 233) (lv' := [(8, iv z35063), (10, iv z35063), (0, .ref 106), (1, iv p1), (2, iv p2), (3, iv z30673), (4, iv z30672), (5, iv z30671), (7, iv z34071), (9, iv z34069)]) dX12_pick_233 (by decide) rfl ?_
                    refine mr_iconst (pc := 235) (z := 1) dX12_pick_235 ?_
                    refine mr_istore (pc := 236) (lv' := [(7, iv 1), (8, iv z35063), (10, iv z35063), (0, .ref 106), (1, iv p1), (2, iv p2), (3, iv z30673), (4, iv z30672), (5, iv z30671), (9, iv z34069)]) dX12_pick_236 (by decide) rfl ?_
                    refine mr_iinc (pc := 238) (lv' := [(9, iv (z34069 + 1)), (7, iv 1), (8, iv z35063), (10, iv z35063), (0, .ref 106), (1, iv p1), (2, iv p2), (3, iv z30673), (4, iv z30672), (5, iv z30671)]) dX12_pick_238 rfl (by decide) rfl ?_
                    refine sv_goto (pc := 241) (tgt := 144) dX12_pick_241 (by decide) ?_
                    refine mr_lvS (lv' := [(0, .ref 106), (1, iv p1), (2, iv p2), (3, iv z30673), (4, iv z30672), (5, iv z30671), (7, iv 1), (8, iv z35063), (9, iv (z34069 + 1))]) (List.forall_mem_cons.mpr ⟨rfl, List.forall_mem_cons.mpr ⟨rfl, List.forall_mem_cons.mpr ⟨rfl, List.forall_mem_cons.mpr ⟨rfl, List.forall_mem_cons.mpr ⟨rfl, List.forall_mem_cons.mpr ⟨rfl, List.forall_mem_cons.mpr ⟨rfl, List.forall_mem_cons.mpr ⟨rfl, List.forall_mem_cons.mpr ⟨rfl, fun _ h => absurd h List.not_mem_nil⟩⟩⟩⟩⟩⟩⟩⟩⟩) ?_
                    exact ih34083 1 z35063 (z34069 + 1) trivial (rW (c := 0) (d := 1) (rR (x := 1)) rfl) h35065.1 (rW (c := 0) (d := 20) (rAdd (e := 1) (f := 20) h35039 (rR (x := 1)) rfl) rfl) (vc_X12_pick_59 h29601 h29638 h34079 h34143 h35040 h29597 h35039) (vc_X12_pick_98 h34080 h35066 h35085.2.1 h35085.2.2.1 h35091 h35098.2.1 h35098.2.2.1 h35104 h35087 h35092 h35100 h30678 h35081 h34074 h35094 h35065.1 h35090 h35103) (Or.inr (hit.new (vc_X12_pick_71 h34079 h34143 h29601 h29638 h35040 h29597 h35039) (vc_X12_pick_72 h34079 h34143 h29601 h29638 h35040 h29597 h35039) q35042 (vc_X12_pick_73 h35048.2.1 h35048.2.2.1 h35055 h35050 h35056 h35054) (vc_X12_pick_74 h34079 h34143 h29601 h29638 h35040 h29597 h35039) q35058 (vc_X12_pick_75 h35061 h35062) (vc_X12_pick_76 h34079 h34143 h29601 h29638 h35040 h29597 h35039) q35064)) (vc_X12_pick_61 (nS h34082) h34079 h34143 h29601 h29638 h35040 h29597 h35039)
                  have h35105 : 0 ≤ z35057 ∧ z35057 ≤ 0 := (vc_X12_pick_99 h35061 h35060)
                  refine sv_goto (pc := 181) (tgt := 238) dX12_pick_181 (by decide) ?_
                  refine mr_iinc (pc := 238) (lv' := [(9, iv (z34069 + 1)), (0, .ref 106), (1, iv p1), (2, iv p2), (3, iv z30673), (4, iv z30672), (5, iv z30671), (7, iv z34071), (8, iv z34070)]) dX12_pick_238 rfl (by decide) rfl ?_
                  refine sv_goto (pc := 241) (tgt := 144) dX12_pick_241 (by decide) ?_
                  refine mr_lvS (lv' := [(0, .ref 106), (1, iv p1), (2, iv p2), (3, iv z30673), (4, iv z30672), (5, iv z30671), (7, iv z34071), (8, iv z34070), (9, iv (z34069 + 1))]) (List.forall_mem_cons.mpr ⟨rfl, List.forall_mem_cons.mpr ⟨rfl, List.forall_mem_cons.mpr ⟨rfl, List.forall_mem_cons.mpr ⟨rfl, List.forall_mem_cons.mpr ⟨rfl, List.forall_mem_cons.mpr ⟨rfl, List.forall_mem_cons.mpr ⟨rfl, List.forall_mem_cons.mpr ⟨rfl, List.forall_mem_cons.mpr ⟨rfl, fun _ h => absurd h List.not_mem_nil⟩⟩⟩⟩⟩⟩⟩⟩⟩) ?_
                  exact ih34083 z34071 z34070 (z34069 + 1) trivial h34073 h34074 (rW (c := 0) (d := 20) (rAdd (e := 1) (f := 20) h35039 (rR (x := 1)) rfl) rfl) (vc_X12_pick_59 h29601 h29638 h34079 h34143 h35040 h29597 h35039) (vc_X12_pick_60 h34080 h30678 h30677 h34074 h34073) (hit.or R34081 (vc_X12_pick_62 h34079 h34143 h29601 h29638 h35040 h29597 h35039)) (vc_X12_pick_61 (nS h34082) h34079 h34143 h29601 h29638 h35040 h29597 h35039)
              refine mr_lvS (lv' := [(0, .ref 106), (1, iv p1), (2, iv p2), (3, iv z30673), (4, iv z30672), (5, iv z30671), (7, iv 0), (8, iv 0), (9, iv 0)]) (List.forall_mem_cons.mpr ⟨rfl, List.forall_mem_cons.mpr ⟨rfl, List.forall_mem_cons.mpr ⟨rfl, List.forall_mem_cons.mpr ⟨rfl, List.forall_mem_cons.mpr ⟨rfl, List.forall_mem_cons.mpr ⟨rfl, List.forall_mem_cons.mpr ⟨rfl, List.forall_mem_cons.mpr ⟨rfl, List.forall_mem_cons.mpr ⟨rfl, fun _ h => absurd h List.not_mem_nil⟩⟩⟩⟩⟩⟩⟩⟩⟩) ?_
              exact L34072 22 0 0 0 trivial (rW (c := 0) (d := 1) (rR (x := 0)) rfl) (rW (c := (-2147483648)) (d := 2147483647) (rR (x := 0)) rfl) (rW (c := 0) (d := 20) (rR (x := 0)) rfl) (vc_X12_pick_100 h29601 h29638 ht_f_ties h29597) (vc_X12_pick_101 h30678 h30677) (Or.inl rfl) vc_X12_pick_48
          refine mr_lvS (lv' := [(0, .ref 106), (1, iv p1), (2, iv p2), (3, iv z29594), (4, iv 0), (5, iv 0), (6, iv 1)]) (List.forall_mem_cons.mpr ⟨rfl, List.forall_mem_cons.mpr ⟨rfl, List.forall_mem_cons.mpr ⟨rfl, List.forall_mem_cons.mpr ⟨rfl, List.forall_mem_cons.mpr ⟨rfl, List.forall_mem_cons.mpr ⟨rfl, List.forall_mem_cons.mpr ⟨rfl, fun _ h => absurd h List.not_mem_nil⟩⟩⟩⟩⟩⟩⟩) ?_
          exact L30675 8589934594 z29594 0 0 1 μ16647 T16648 mF.refl h29596 (rW (c := 0) (d := 1) (rR (x := 0)) rfl) (rW (c := (-2147483648)) (d := 2147483647) (rR (x := 0)) rfl) (rW (c := 0) (d := 1) (rR (x := 1)) rfl) (PK.keep hIPK hw ((mF.call mF.refl F16649 rfl) : mF [106026, 106027, 106028, 106029, 106030, 106031, 126999, 151999, 152999, 153999] w μ μ16647) rfl) R29602 (vc_X12_pick_103 h29596 h29603) vc_X12_pick_102
        have h35106 : 0 ≤ z29593 ∧ z29593 ≤ 19 := (vc_X12_pick_104 h29638 h29601 ht_f_ties h29597)
        have h35107 : 1 ≤ f_ties ∧ f_ties ≤ 20 := (vc_X12_pick_105 h29638 h29601 ht_f_ties h35106)
        refine sv_aload_n (pc := 66) dX12_pick_66 rfl rfl ?_
        refine mr_iconst (pc := 67) (z := 4) dX12_pick_67 ?_
        refine mr_iload (pc := 68) (z := z29593) dX12_pick_68 rfl ?_
        refine mr_iadd (pc := 70) (x := 4) (y := z29593) dX12_pick_70 ?_
        obtain ⟨z35108, q35109⟩ : ∃ z, μ16647 126 ((40 * (4 + z29593)).toNat) = z := ⟨_, rfl⟩
        have h35110 := rt7 T16648 (A_126 hw) (vc_X12_pick_106 h29601 h29638 h35107 h35106) q35109
        have h35111 : (-1) ≤ z35108 ∧ z35108 ≤ 9 := h35110.2.1 (vc_X12_pick_107 h29601 h29638 h35107 h35106)
        refine mr_cVP (pc := 71) (c_X12_isThere hw T16648 (rW (c := 0) (d := 2099) (rAdd (e := 4) (f := 23) (rR (x := 4)) h35106 rfl) rfl) q35109) (gOk _ _ _ _ _) dX12_pick_71 (tX12_isThere _ _ _ _ _) ⟨wV_X12_isThere, wL_X12_isThere⟩ wM_X12_151 (gCX12 _ _ _ _ _) rfl (A_106 hw) rfl ⟨le_t rfl, le_t rfl⟩ ⟨le_t rfl, le_t rfl⟩ rfl (le_t rfl) fun z35116 h35115 => ?_
        refine mr_if_eq (pc := 74) (tgt := 115) dX12_pick_74 (by decide) (r32 h35115.1 rfl) (fun h35117 => ?_) (fun h35117 => ?_)
        · have h35118 : 0 ≤ z35116 ∧ z35116 ≤ 0 := (vc_X12_pick_108 h35117 h35115.2.1 h35115.2.2.1 h35111 h35115.1)
          have h35119 : z35108 < 0 := (h35115.2.2.1 (vc_X12_pick_109 h35115.2.1 h35115.2.2.1 h35117 h35111 h35118))
          have h35120 : (-1) ≤ z35108 ∧ z35108 ≤ (-1) := (vc_X12_pick_110 h35119 h35115.2.1 h35115.2.2.1 h35111 h35118)
          refine mr_iinc (pc := 115) (lv' := [(4, iv (z29593 + 1)), (0, .ref 106), (1, iv p1), (2, iv p2), (3, iv z29594)]) dX12_pick_115 rfl (by decide) rfl ?_
          refine sv_goto (pc := 118) (tgt := 57) dX12_pick_118 (by decide) ?_
          refine mr_lvS (lv' := [(0, .ref 106), (1, iv p1), (2, iv p2), (3, iv z29594), (4, iv (z29593 + 1))]) (List.forall_mem_cons.mpr ⟨rfl, List.forall_mem_cons.mpr ⟨rfl, List.forall_mem_cons.mpr ⟨rfl, List.forall_mem_cons.mpr ⟨rfl, List.forall_mem_cons.mpr ⟨rfl, fun _ h => absurd h List.not_mem_nil⟩⟩⟩⟩⟩) ?_
          exact ih29605 z29594 (z29593 + 1) trivial h29596 (rW (c := 0) (d := 20) (rAdd (e := 1) (f := 20) h35106 (rR (x := 1)) rfl) rfl) (vc_X12_pick_111 h29601 h29638 h35107 h35106) R29602 (vc_X12_pick_103 h29596 h29603) (vc_X12_pick_112 (nS h29604) h29601 h29638 h35107 h35106)
        have h35121 : 1 ≤ z35116 ∧ z35116 ≤ 1 := (vc_X12_pick_113 h35117 h35115.2.1 h35115.2.2.1 h35111 h35115.1)
        have h35122 : 0 ≤ z35108 := (h35115.2.1 (vc_X12_pick_114 h35115.2.1 h35115.2.2.1 h35117 h35111 h35121))
        have h35123 : 0 ≤ z35108 ∧ z35108 ≤ 9 := (vc_X12_pick_115 h35122 h35115.2.1 h35115.2.2.1 h35111 h35121)
        refine sv_aload_n (pc := 77) dX12_pick_77 rfl rfl ?_
        refine gf_X12_32 (pc := 78) dX12_pick_78 wF_X12_148 (A_106 hw) T16648 ?_
        refine mr_bipush (pc := 81) (z := 40) dX12_pick_81 (by decide) ?_
        refine mr_iconst (pc := 83) (z := 4) dX12_pick_83 ?_
        refine mr_iload (pc := 84) (z := z29593) dX12_pick_84 rfl ?_
        refine mr_iadd (pc := 86) (x := 4) (y := z29593) dX12_pick_86 ?_
        refine mr_imul (pc := 87) (x := 40) (y := (4 + z29593)) dX12_pick_87 ?_
        refine mr_iconst (pc := 88) (z := 4) dX12_pick_88 ?_
        refine mr_iadd (pc := 89) (x := (40 * (4 + z29593))) (y := 4) dX12_pick_89 ?_
        refine la_126 (pc := 90) dX12_pick_90 (A_126 hw) T16648 (rIx (n := 84000) (rAdd (e := 164) (f := 924) (rMulL (n := 40) (e := 160) (f := 920) (rAdd (e := 4) (f := 23) (rR (x := 4)) h35106 rfl) rfl) (rR (x := 4)) rfl) rfl) fun z35124 q35125 h35126 => ?_
        have h35127 : 0 ≤ z35124 ∧ z35124 ≤ 20 := h35126.2.2.1 (vc_X12_pick_116 h29601 h29638 h35107 h35106)
        refine mr_if_ne (pc := 91) (tgt := 115) dX12_pick_91 (by decide) (r32 h35127 rfl) (fun h35128 => ?_) (fun h35128 => ?_)
        · have h35129 : 1 ≤ z35124 ∧ z35124 ≤ 20 := (vc_X12_pick_117 h35128 h35127)
          refine mr_iinc (pc := 115) (lv' := [(4, iv (z29593 + 1)), (0, .ref 106), (1, iv p1), (2, iv p2), (3, iv z29594)]) dX12_pick_115 rfl (by decide) rfl ?_
          refine sv_goto (pc := 118) (tgt := 57) dX12_pick_118 (by decide) ?_
          refine mr_lvS (lv' := [(0, .ref 106), (1, iv p1), (2, iv p2), (3, iv z29594), (4, iv (z29593 + 1))]) (List.forall_mem_cons.mpr ⟨rfl, List.forall_mem_cons.mpr ⟨rfl, List.forall_mem_cons.mpr ⟨rfl, List.forall_mem_cons.mpr ⟨rfl, List.forall_mem_cons.mpr ⟨rfl, fun _ h => absurd h List.not_mem_nil⟩⟩⟩⟩⟩) ?_
          exact ih29605 z29594 (z29593 + 1) trivial h29596 (rW (c := 0) (d := 20) (rAdd (e := 1) (f := 20) h35106 (rR (x := 1)) rfl) rfl) (vc_X12_pick_111 h29601 h29638 h35107 h35106) R29602 (vc_X12_pick_103 h29596 h29603) (vc_X12_pick_112 (nS h29604) h29601 h29638 h35107 h35106)
        have h35130 : 0 ≤ z35124 ∧ z35124 ≤ 0 := (vc_X12_pick_118 h35128 h35127)
        refine mr_iload_n (pc := 94) (z := z29594) dX12_pick_94 rfl rfl ?_
        refine mr_ldc (pc := 95) (z := (-99999999)) dX12_pick_95 wG_X12_29 (by decide) ?_
        refine mr_icmp_eq (pc := 97) (tgt := 112) dX12_pick_97 (by decide) (r32 h29596 rfl) (r32 (rR (x := (-99999999))) rfl) (fun h35131 => ?_) (fun h35131 => ?_)
        · have h35132 : (-99999999) ≤ z29594 ∧ z29594 ≤ (-99999999) := (vc_X12_pick_119 h35131 h29596 h29603)
          refine mr_iload (pc := 112) (z := z29593) dX12_pick_112 rfl ?_
          refine mr_istore_n (pc := 114) (lv' := [(3, iv z29593), (0, .ref 106), (1, iv p1), (2, iv p2), (4, iv z29593)]) dX12_pick_114 rfl (by decide) rfl ?_
          refine mr_iinc (pc := 115) (lv' := [(4, iv (z29593 + 1)), (3, iv z29593), (0, .ref 106), (1, iv p1), (2, iv p2)]) dX12_pick_115 rfl (by decide) rfl ?_
          refine sv_goto (pc := 118) (tgt := 57) dX12_pick_118 (by decide) ?_
          refine mr_lvS (lv' := [(0, .ref 106), (1, iv p1), (2, iv p2), (3, iv z29593), (4, iv (z29593 + 1))]) (List.forall_mem_cons.mpr ⟨rfl, List.forall_mem_cons.mpr ⟨rfl, List.forall_mem_cons.mpr ⟨rfl, List.forall_mem_cons.mpr ⟨rfl, List.forall_mem_cons.mpr ⟨rfl, fun _ h => absurd h List.not_mem_nil⟩⟩⟩⟩⟩) ?_
          exact ih29605 z29593 (z29593 + 1) trivial (rW (c := (-99999999)) (d := 19) h35106 rfl) (rW (c := 0) (d := 20) (rAdd (e := 1) (f := 20) h35106 (rR (x := 1)) rfl) rfl) (vc_X12_pick_111 h29601 h29638 h35107 h35106) (wOK.of (vc_X12_pick_120 h29601 h29638 h35107 h35106) q35109 (vc_X12_pick_121 h35115.2.1 h35115.2.2.1 h35122 h35117 h35123 h35121)) (vc_X12_pick_122 h29601 h29638 h35107 h35106) (vc_X12_pick_112 (nS h29604) h29601 h29638 h35107 h35106)
        have h35133 : 0 ≤ z29594 ∧ z29594 ≤ 19 := (vc_X12_pick_123 h35131 h29596 h29603)
        refine sv_aload_n (pc := 100) dX12_pick_100 rfl rfl ?_
        refine mr_iload_n (pc := 101) (z := p1) dX12_pick_101 rfl rfl ?_
        refine mr_iload (pc := 102) (z := z29593) dX12_pick_102 rfl ?_
        refine mr_iload_n (pc := 104) (z := z29594) dX12_pick_104 rfl rfl ?_
        refine mr_iload_n (pc := 105) (z := p2) dX12_pick_105 rfl rfl ?_
        refine mr_cVP (pc := 106) (c_X12_beats hw T16648 hp1 h35106 h35133 hp2) (gOk _ _ _ _ _) dX12_pick_106 (tX12_beats _ _ _ _ _) ⟨wV_X12_beats, wL_X12_beats⟩ wM_X12_568 (gCX12 _ _ _ _ _) rfl (A_106 hw) rfl ⟨le_t rfl, le_t rfl⟩ ⟨le_t rfl, le_t rfl⟩ rfl (le_t rfl) fun z35138 h35137 => ?_
        refine mr_if_eq (pc := 109) (tgt := 115) dX12_pick_109 (by decide) (r32 h35137.1 rfl) (fun h35139 => ?_) (fun h35139 => ?_)
        · have h35140 : 0 ≤ z35138 ∧ z35138 ≤ 0 := (vc_X12_pick_124 h35139 h35137.1)
          refine mr_iinc (pc := 115) (lv' := [(4, iv (z29593 + 1)), (0, .ref 106), (1, iv p1), (2, iv p2), (3, iv z29594)]) dX12_pick_115 rfl (by decide) rfl ?_
          refine sv_goto (pc := 118) (tgt := 57) dX12_pick_118 (by decide) ?_
          refine mr_lvS (lv' := [(0, .ref 106), (1, iv p1), (2, iv p2), (3, iv z29594), (4, iv (z29593 + 1))]) (List.forall_mem_cons.mpr ⟨rfl, List.forall_mem_cons.mpr ⟨rfl, List.forall_mem_cons.mpr ⟨rfl, List.forall_mem_cons.mpr ⟨rfl, List.forall_mem_cons.mpr ⟨rfl, fun _ h => absurd h List.not_mem_nil⟩⟩⟩⟩⟩) ?_
          exact ih29605 z29594 (z29593 + 1) trivial (rW (c := (-99999999)) (d := 19) h35133 rfl) (rW (c := 0) (d := 20) (rAdd (e := 1) (f := 20) h35106 (rR (x := 1)) rfl) rfl) (vc_X12_pick_111 h29601 h29638 h35107 h35106) R29602 (vc_X12_pick_125 h35131 h35133 h29603) (vc_X12_pick_112 (nS h29604) h29601 h29638 h35107 h35106)
        have h35141 : 1 ≤ z35138 ∧ z35138 ≤ 1 := (vc_X12_pick_126 h35139 h35137.1)
        refine mr_iload (pc := 112) (z := z29593) dX12_pick_112 rfl ?_
        refine mr_istore_n (pc := 114) (lv' := [(3, iv z29593), (0, .ref 106), (1, iv p1), (2, iv p2), (4, iv z29593)]) dX12_pick_114 rfl (by decide) rfl ?_
        refine mr_iinc (pc := 115) (lv' := [(4, iv (z29593 + 1)), (3, iv z29593), (0, .ref 106), (1, iv p1), (2, iv p2)]) dX12_pick_115 rfl (by decide) rfl ?_
        refine sv_goto (pc := 118) (tgt := 57) dX12_pick_118 (by decide) ?_
        refine mr_lvS (lv' := [(0, .ref 106), (1, iv p1), (2, iv p2), (3, iv z29593), (4, iv (z29593 + 1))]) (List.forall_mem_cons.mpr ⟨rfl, List.forall_mem_cons.mpr ⟨rfl, List.forall_mem_cons.mpr ⟨rfl, List.forall_mem_cons.mpr ⟨rfl, List.forall_mem_cons.mpr ⟨rfl, fun _ h => absurd h List.not_mem_nil⟩⟩⟩⟩⟩) ?_
        exact ih29605 z29593 (z29593 + 1) trivial (rW (c := (-99999999)) (d := 19) h35106 rfl) (rW (c := 0) (d := 20) (rAdd (e := 1) (f := 20) h35106 (rR (x := 1)) rfl) rfl) (vc_X12_pick_111 h29601 h29638 h35107 h35106) (wOK.of (vc_X12_pick_120 h29601 h29638 h35107 h35106) q35109 (vc_X12_pick_121 h35115.2.1 h35115.2.2.1 h35122 h35117 h35123 h35121)) (vc_X12_pick_122 h29601 h29638 h35107 h35106) (vc_X12_pick_112 (nS h29604) h29601 h29638 h35107 h35106)
    refine mr_lvS (lv' := [(0, .ref 106), (1, iv p1), (2, iv p2), (3, iv (-99999999)), (4, iv 0)]) (List.forall_mem_cons.mpr ⟨rfl, List.forall_mem_cons.mpr ⟨rfl, List.forall_mem_cons.mpr ⟨rfl, List.forall_mem_cons.mpr ⟨rfl, List.forall_mem_cons.mpr ⟨rfl, fun _ h => absurd h List.not_mem_nil⟩⟩⟩⟩⟩) ?_
    exact L29595 22 (-99999999) 0 trivial (rW (c := (-99999999)) (d := 19) (rR (x := (-99999999))) rfl) (rW (c := 0) (d := 20) (rR (x := 0)) rfl) (vc_X12_pick_127 ht_f_ties) (Or.inl rfl) vc_X12_pick_128 vc_X12_pick_48
  have h35142 : 0 ≤ z16651 ∧ z16651 ≤ 0 := (vc_X12_pick_129 h16654 h16653)
  refine mr_iconst (pc := 15) (z := 0) dX12_pick_15 ?_
  refine mr_istore_n (pc := 16) (lv' := [(3, iv 0), (0, .ref 106), (1, iv p1), (2, iv p2)]) dX12_pick_16 rfl (by decide) rfl ?_
  have L35465 : ∀ (nL35465 : Nat) (z35463 : Int) (μ35464 : mM), mT w μ35464 → mF [165999] w μ16647 μ35464 → (0 ≤ z35463 ∧ z35463 ≤ 20) → (z35463 ≤ f_ties) → PK μ35464 → leftOK μ35464 z35463 → (21 - z35463) < (nL35465 : Int) → sV (gG l D c H0 sa) mX12_pick (sRm 9 0 0) (sZ (gG l D c H0 sa) 0 0 (qI w [106026, 106027, 106028, 106029, 106030, 106031, 126999, 151999, 152999, 153999, 165999] μ (fun z μ1 => ((-99999999) ≤ z ∧ z ≤ 19) ∧ mG [(160, 960)] μ μ1 ∧ (z = -99999999 ∨ (0 ≤ z ∧ z ≤ 19)) ∧ (z = -99999999 ∨ 0 ≤ μ1 126 (160 + 40 * z).toNat) ∧ True))) 17 [(0, .ref 106), (1, iv p1), (2, iv p2), (3, iv z35463)] [] (mk w μ35464) 0 0 := by
    intro nL35465
    induction nL35465 with
    | zero => intro z35463 μ35464 T35467 F35468 h35466 h35470 I35471 R35472 h35473; exact ((vc_X12_pick_130 h35473 h35470 ht_f_ties h35466)).elim
    | succ nL35465 ih35474 =>
      intro z35463 μ35464 T35467 F35468 h35466 h35470 I35471 R35472 h35473
      refine mr_iload_n (pc := 17) (z := z35463) dX12_pick_17 rfl rfl ?_
      refine sv_aload_n (pc := 18) dX12_pick_18 rfl rfl ?_
      refine gk_X12_6 (pc := 19) dX12_pick_19 wF_X12_37 (A_106 hw) (F35468.f (A_106 hw) rfl (F16649.f (A_106 hw) rfl q_f_ties)) ?_
      refine mr_icmp_ge (pc := 22) (tgt := 44) dX12_pick_22 (by decide) (r32 h35466 rfl) (r32 ht_f_ties rfl) (fun h35489 => ?_) (fun h35489 => ?_)
      · refine sv_aload_n (pc := 44) dX12_pick_44 rfl rfl ?_
        refine mr_iload_n (pc := 45) (z := p1) dX12_pick_45 rfl rfl ?_
        refine mr_iload_n (pc := 46) (z := p2) dX12_pick_46 rfl rfl ?_
        refine mr_cVP (pc := 47) (c_X12_best_l hw T35467 hp1 hp2 (F35468.f (A_106 hw) rfl (F16649.f (A_106 hw) rfl q_f_ties))) (gOk _ _ _ _ _) dX12_pick_47 (tX12_best _ _ _ _ _) ⟨wV_X12_best, wL_X12_best⟩ wM_X12_575 (gCX12 _ _ _ _ _) rfl (A_106 hw) rfl ⟨le_t rfl, le_t rfl⟩ ⟨le_t rfl, le_t rfl⟩ rfl (le_t rfl) fun z35494 h35493 => ?_
        exact mr_iret dX12_pick_50 rfl (le_t rfl) (le_t rfl) T35467 (mF.call (mF.call mF.refl F16649 rfl) F35468 rfl) ⟨h35493.1, (mG.fr (mG.call mG.refl h16650.1 (List.forall_mem_cons.mpr ⟨⟨_, List.mem_cons_self, vc_X12_pick_5⟩, (fun _ h => absurd h List.not_mem_nil)⟩)) F35468 (A_126 hw) rfl), (vc_X12_pick_131 h35493.2.1 h35493.2.2.1 h35470 h35489 ht_f_ties h35466 h35493.1), (leftOK.best (n := f_ties) (fun j j0 j1 => R35472 j j0 (Int.lt_of_lt_of_le j1 (vc_X12_pick_132 h35470 h35489 h35493.2.2.1 h35493.2.1 ht_f_ties h35466 h35493.1))) h35493.2.2.2.1 (vc_X12_pick_133 h35470 h35489 h35493.2.1 h35493.2.2.1 ht_f_ties h35466 h35493.1) (vc_X12_pick_131 h35493.2.1 h35493.2.2.1 h35470 h35489 ht_f_ties h35466 h35493.1)), trivial⟩
      have h35495 : 0 ≤ z35463 ∧ z35463 ≤ 19 := (vc_X12_pick_134 h35489 h35470 ht_f_ties h35466)
      have h35496 : 1 ≤ f_ties ∧ f_ties ≤ 20 := (vc_X12_pick_135 h35489 h35470 ht_f_ties h35495)
      refine sv_aload_n (pc := 25) dX12_pick_25 rfl rfl ?_
      refine gf_X12_85 (pc := 26) dX12_pick_26 wF_X12_457 (A_106 hw) T35467 ?_
      refine mr_iload_n (pc := 29) (z := z35463) dX12_pick_29 rfl rfl ?_
      refine sv_aload_n (pc := 30) dX12_pick_30 rfl rfl ?_
      refine mr_iconst (pc := 31) (z := 4) dX12_pick_31 ?_
      refine mr_iload_n (pc := 32) (z := z35463) dX12_pick_32 rfl rfl ?_
      refine mr_iadd (pc := 33) (x := 4) (y := z35463) dX12_pick_33 ?_
      obtain ⟨z35497, q35498⟩ : ∃ z, μ35464 126 ((40 * (4 + z35463)).toNat) = z := ⟨_, rfl⟩
      have h35499 := rt7 T35467 (A_126 hw) (vc_X12_pick_136 h35470 h35489 h35496 h35495) q35498
      have h35500 : (-1) ≤ z35497 ∧ z35497 ≤ 9 := h35499.2.1 (vc_X12_pick_137 h35470 h35489 h35496 h35495)
      refine mr_cVP (pc := 34) (c_X12_isThere hw T35467 (rW (c := 0) (d := 2099) (rAdd (e := 4) (f := 23) (rR (x := 4)) h35495 rfl) rfl) q35498) (gOk _ _ _ _ _) dX12_pick_34 (tX12_isThere _ _ _ _ _) ⟨wV_X12_isThere, wL_X12_isThere⟩ wM_X12_151 (gCX12 _ _ _ _ _) rfl (A_106 hw) rfl ⟨le_t rfl, le_t rfl⟩ ⟨le_t rfl, le_t rfl⟩ rfl (le_t rfl) fun z35505 h35504 => ?_
      refine ss_165 (pc := 37) dX12_pick_37 (A_165 hw) T35467 (rIx (n := 20) h35495 rfl) h35504.1 fun μ35506 u35507 T35508 => ?_
      refine mr_iinc (pc := 38) (lv' := [(3, iv (z35463 + 1)), (0, .ref 106), (1, iv p1), (2, iv p2)]) dX12_pick_38 rfl (by decide) rfl ?_
      refine sv_goto (pc := 41) (tgt := 17) dX12_pick_41 (by decide) ?_
      refine mr_lvS (lv' := [(0, .ref 106), (1, iv p1), (2, iv p2), (3, iv (z35463 + 1))]) (List.forall_mem_cons.mpr ⟨rfl, List.forall_mem_cons.mpr ⟨rfl, List.forall_mem_cons.mpr ⟨rfl, List.forall_mem_cons.mpr ⟨rfl, fun _ h => absurd h List.not_mem_nil⟩⟩⟩⟩) ?_
      exact ih35474 (z35463 + 1) μ35506 T35508 (mF.up (mF.call mF.refl F35468 rfl) (A_165 hw) u35507 rfl) (rW (c := 0) (d := 20) (rAdd (e := 1) (f := 20) h35495 (rR (x := 1)) rfl) rfl) (vc_X12_pick_138 h35470 h35489 h35496 h35495) (PK.keep I35471 hw ((mF.up mF.refl (A_165 hw) u35507 rfl) : mF [165999] w μ35464 μ35506) rfl) (leftOK.put R35472 (vc_X12_pick_140 h35470 h35489 h35496 h35495) u35507 (vc_X12_pick_141 h35470 h35489 h35496 h35495) (u35507.f (Or.inl (mAt.ne (A_165 hw) (A_126 hw) rfl)) q35498) (vc_X12_pick_142 h35504.2.1 h35504.2.2.1 h35500 h35504.1)) (vc_X12_pick_139 (nS h35473) h35470 h35489 h35496 h35495)
  refine mr_lvS (lv' := [(0, .ref 106), (1, iv p1), (2, iv p2), (3, iv 0)]) (List.forall_mem_cons.mpr ⟨rfl, List.forall_mem_cons.mpr ⟨rfl, List.forall_mem_cons.mpr ⟨rfl, List.forall_mem_cons.mpr ⟨rfl, fun _ h => absurd h List.not_mem_nil⟩⟩⟩⟩) ?_
  exact L35465 22 0 μ16647 T16648 mF.refl (rW (c := 0) (d := 20) (rR (x := 0)) rfl) (vc_X12_pick_127 ht_f_ties) (PK.keep hIPK hw ((mF.call mF.refl F16649 rfl) : mF [106026, 106027, 106028, 106029, 106030, 106031, 126999, 151999, 152999, 153999] w μ μ16647) rfl) leftOK.zero vc_X12_pick_48
theorem vc_X12_look_1  : (0 : Int) ≤ (120 : Int) := by omega
theorem vc_X12_look_2  : ((120 : Int) : Int) % (40 : Int) = (0 : Int) := by omega
theorem vc_X12_look_3 {z77 : Int} (h0 : z77 = -99999999 ∨ z77 = -4 ∨ (0 ≤ z77 ∧ z77 ≤ 19)) : -99999999 ≤ z77 ∧ z77 ≤ 19 := by omega
theorem vc_X12_look_4 {z60 z72 z77 : Int} (h0 : z60 = -99999999 ∨ 0 ≤ z72) (h1 : ¬ z60 = z77) (h2 : (-99999999) ≤ z60 ∧ z60 ≤ 19) (h3 : z60 = (-99999999) ∨ z60 = (-4) ∨ (0 ≤ z60 ∧ z60 ≤ 19)) (h4 : (-1) ≤ z72 ∧ z72 ≤ 9) (h5 : (-99999999) ≤ z77 ∧ z77 ≤ 19) (h6 : z77 = -99999999 ∨ z77 = -4 ∨ (0 ≤ z77 ∧ z77 ≤ 19)) : z60 = -99999999 ∨ z60 = -4 ∨ (0 ≤ z60 ∧ z60 ≤ 19) := by omega
theorem vc_X12_look_5  : ((40 : Int) * (3 : Int)) = (120 : Int) := by omega
theorem vc_X12_look_6 {p1 p2 : Int} (h0 : 0 ≤ p1 ∧ p1 ≤ 9) (h1 : 0 ≤ p2 ∧ p2 ≤ 9) : (3 : Int) < (30 + ((10 * p1) + p2)) ∨ (30 + ((10 * p1) + p2)) < (3 : Int) := by omega
theorem vc_X12_look_7 {p1 p2 : Int} (h0 : 0 ≤ p1 ∧ p1 ≤ 9) (h1 : 0 ≤ p2 ∧ p2 ≤ 9) : 0 ≤ (40 * (30 + ((10 * p1) + p2))) := by omega
theorem vc_X12_look_8 {p1 p2 : Int} (h0 : 0 ≤ p1 ∧ p1 ≤ 9) (h1 : 0 ≤ p2 ∧ p2 ≤ 9) : (40 * (30 + ((10 * p1) + p2))) % 40 = 0 := by omega
theorem vc_X12_look_9 {z60 z72 z77 z89 : Int} (h0 : z60 = -99999999 ∨ 0 ≤ z72) (h1 : ¬ z60 = z77) (h2 : z89 = z72) (h3 : (-99999999) ≤ z60 ∧ z60 ≤ 19) (h4 : z60 = (-99999999) ∨ z60 = (-4) ∨ (0 ≤ z60 ∧ z60 ≤ 19)) (h5 : (-1) ≤ z72 ∧ z72 ≤ 9) (h6 : (-99999999) ≤ z77 ∧ z77 ≤ 19) (h7 : z77 = -99999999 ∨ z77 = -4 ∨ (0 ≤ z77 ∧ z77 ≤ 19)) (h8 : (-1) ≤ z89 ∧ z89 ≤ 9) : z60 = -99999999 ∨ 0 ≤ z72 := by omega
theorem vc_X12_look_10 {p1 p2 : Int} (h0 : 0 ≤ p1 ∧ p1 ≤ 9) (h1 : 0 ≤ p2 ∧ p2 ≤ 9) : (40 * (30 + ((10 * p1) + p2))) = 1200 + 40 * ((10 * p1) + p2) := by omega
theorem vc_X12_look_11 {z530 : Int} (h0 : (21 - z530) < ((0 : Nat) : Int)) (h1 : 0 ≤ z530 ∧ z530 ≤ 20) : False := by omega
theorem vc_X12_look_12  : (80 : Int) ≤ (80 : Int) ∧ (960 : Int) ≤ (960 : Int) := by omega
theorem vc_X12_look_13 {p1 p2 : Int} (h0 : 0 ≤ p1 ∧ p1 ≤ 9) (h1 : 0 ≤ p2 ∧ p2 ≤ 9) : (40 * (30 + ((10 * p1) + p2))) ≤ (40 * (30 + ((10 * p1) + p2))) ∧ ((40 * (30 + ((10 * p1) + p2))) + 40) ≤ ((40 * (30 + ((10 * p1) + p2))) + 40) := by omega
theorem vc_X12_look_14  : (21200 : Int) ≤ (21200 : Int) ∧ (53200 : Int) ≤ (53200 : Int) := by omega
theorem vc_X12_look_15 {z530 z542 : Int} (h0 : z530 < z542) (h1 : 0 ≤ z530 ∧ z530 ≤ 20) (h2 : 0 ≤ z542 ∧ z542 ≤ 20) : 0 ≤ z530 ∧ z530 ≤ 19 := by omega
theorem vc_X12_look_16 {z530 z542 : Int} (h0 : z530 < z542) (h1 : 0 ≤ z530 ∧ z530 ≤ 19) (h2 : 0 ≤ z542 ∧ z542 ≤ 20) : 1 ≤ z542 ∧ z542 ≤ 20 := by omega
theorem vc_X12_look_17 {p1 z574 z577 z584 : Int} (h0 : z584 = 0) (h1 : (z584 = 1 → z574 = p1 ∨ z577 = p1)) (h2 : (z584 = 0 → ¬ z574 = p1 ∧ ¬ z577 = p1)) (h3 : 0 ≤ p1 ∧ p1 ≤ 9) (h4 : 0 ≤ z574 ∧ z574 ≤ 9) (h5 : 0 ≤ z577 ∧ z577 ≤ 9) (h6 : 0 ≤ z584 ∧ z584 ≤ 1) : 0 ≤ z584 ∧ z584 ≤ 0 := by omega
theorem vc_X12_look_18 {p1 z574 z577 z584 : Int} (h0 : (z584 = 1 → z574 = p1 ∨ z577 = p1)) (h1 : (z584 = 0 → ¬ z574 = p1 ∧ ¬ z577 = p1)) (h2 : z584 = 0) (h3 : 0 ≤ p1 ∧ p1 ≤ 9) (h4 : 0 ≤ z574 ∧ z574 ≤ 9) (h5 : 0 ≤ z577 ∧ z577 ≤ 9) (h6 : 0 ≤ z584 ∧ z584 ≤ 0) : z584 = 0 := by omega
theorem vc_X12_look_19 {N z530 z542 : Int} (h0 : (21 - z530) < N + 1) (h1 : z530 < z542) (h2 : 0 ≤ z530 ∧ z530 ≤ 19) (h3 : 1 ≤ z542 ∧ z542 ≤ 20) : (21 - (z530 + 1)) < N := by omega
theorem vc_X12_look_20 {p1 p2 z574 z577 z584 : Int} (h0 : (z584 = 1 → z574 = p1 ∨ z577 = p1)) (h1 : (z584 = 0 → ¬ z574 = p1 ∧ ¬ z577 = p1)) (h2 : ¬ z574 = p1 ∧ ¬ z577 = p1) (h3 : z584 = 0) (h4 : 0 ≤ p1 ∧ p1 ≤ 9) (h5 : 0 ≤ p2 ∧ p2 ≤ 9) (h6 : 0 ≤ z574 ∧ z574 ≤ 9) (h7 : 0 ≤ z577 ∧ z577 ≤ 9) (h8 : 0 ≤ z584 ∧ z584 ≤ 0) : (40 * (30 + ((10 * p1) + p2))) ≤ (40 * (30 + ((10 * p1) + p2))) ∧ ((40 * (30 + ((10 * p1) + p2))) + 40) ≤ ((40 * (30 + ((10 * p1) + p2))) + 40) := by omega
theorem vc_X12_look_21 {p1 z574 z577 z584 : Int} (h0 : ¬ z584 = 0) (h1 : (z584 = 1 → z574 = p1 ∨ z577 = p1)) (h2 : (z584 = 0 → ¬ z574 = p1 ∧ ¬ z577 = p1)) (h3 : 0 ≤ p1 ∧ p1 ≤ 9) (h4 : 0 ≤ z574 ∧ z574 ≤ 9) (h5 : 0 ≤ z577 ∧ z577 ≤ 9) (h6 : 0 ≤ z584 ∧ z584 ≤ 1) : 1 ≤ z584 ∧ z584 ≤ 1 := by omega
theorem vc_X12_look_22 {p1 z574 z577 z584 : Int} (h0 : (z584 = 1 → z574 = p1 ∨ z577 = p1)) (h1 : (z584 = 0 → ¬ z574 = p1 ∧ ¬ z577 = p1)) (h2 : ¬ z584 = 0) (h3 : 0 ≤ p1 ∧ p1 ≤ 9) (h4 : 0 ≤ z574 ∧ z574 ≤ 9) (h5 : 0 ≤ z577 ∧ z577 ≤ 9) (h6 : 1 ≤ z584 ∧ z584 ≤ 1) : z584 = 1 := by omega
theorem vc_X12_look_23 {z603 : Int} (h0 : z603 = 0) (h1 : 0 ≤ z603 ∧ z603 ≤ 1) : 0 ≤ z603 ∧ z603 ≤ 0 := by omega
theorem vc_X12_look_24 {p1 p2 z574 z577 z584 : Int} (h0 : (z584 = 1 → z574 = p1 ∨ z577 = p1)) (h1 : (z584 = 0 → ¬ z574 = p1 ∧ ¬ z577 = p1)) (h2 : z574 = p1 ∨ z577 = p1) (h3 : ¬ z584 = 0) (h4 : 0 ≤ p1 ∧ p1 ≤ 9) (h5 : 0 ≤ p2 ∧ p2 ≤ 9) (h6 : 0 ≤ z574 ∧ z574 ≤ 9) (h7 : 0 ≤ z577 ∧ z577 ≤ 9) (h8 : 1 ≤ z584 ∧ z584 ≤ 1) : (40 * (30 + ((10 * p1) + p2))) ≤ (40 * (30 + ((10 * p1) + p2))) ∧ ((40 * (30 + ((10 * p1) + p2))) + 40) ≤ ((40 * (30 + ((10 * p1) + p2))) + 40) := by omega
theorem vc_X12_look_25 {z603 : Int} (h0 : ¬ z603 = 0) (h1 : 0 ≤ z603 ∧ z603 ≤ 1) : 1 ≤ z603 ∧ z603 ≤ 1 := by omega
theorem vc_X12_look_26 {z530 z542 : Int} (h0 : z530 < z542) (h1 : 0 ≤ z530 ∧ z530 ≤ 19) (h2 : 1 ≤ z542 ∧ z542 ≤ 20) : z530 < z542 := by omega
theorem vc_X12_look_27 {p1 z574 z577 z584 : Int} (h0 : (z584 = 1 → z574 = p1 ∨ z577 = p1)) (h1 : (z584 = 0 → ¬ z574 = p1 ∧ ¬ z577 = p1)) (h2 : z574 = p1 ∨ z577 = p1) (h3 : ¬ z584 = 0) (h4 : 0 ≤ p1 ∧ p1 ≤ 9) (h5 : 0 ≤ z574 ∧ z574 ≤ 9) (h6 : 0 ≤ z577 ∧ z577 ≤ 9) (h7 : 1 ≤ z584 ∧ z584 ≤ 1) : z574 = p1 ∨ z577 = p1 := by omega
theorem vc_X12_look_28  : (80 : Int) ≤ (80 : Int) ∧ (120 : Int) ≤ (960 : Int) := by omega
theorem vc_X12_look_29  : (21 - 0) < ((22 : Nat) : Int) := by omega
theorem vc_X12_look_30 {z623 : Int} (h0 : z623 = 0) (h1 : 0 ≤ z623 ∧ z623 ≤ 1) : 0 ≤ z623 ∧ z623 ≤ 0 := by omega
theorem vc_X12_look_31 {z60 z72 z77 : Int} (h0 : z60 = -99999999 ∨ 0 ≤ z72) (h1 : z60 = z77) (h2 : (-99999999) ≤ z60 ∧ z60 ≤ 19) (h3 : z60 = (-99999999) ∨ z60 = (-4) ∨ (0 ≤ z60 ∧ z60 ≤ 19)) (h4 : (-1) ≤ z72 ∧ z72 ≤ 9) (h5 : (-99999999) ≤ z77 ∧ z77 ≤ 19) (h6 : z77 = -99999999 ∨ z77 = -4 ∨ (0 ≤ z77 ∧ z77 ≤ 19)) : z60 = -99999999 ∨ z60 = -4 ∨ (0 ≤ z60 ∧ z60 ≤ 19) := by omega
theorem vc_X12_look_32 {z60 z633 z72 z77 : Int} (h0 : z60 = -99999999 ∨ 0 ≤ z72) (h1 : z60 = z77) (h2 : z633 = z72) (h3 : (-99999999) ≤ z60 ∧ z60 ≤ 19) (h4 : z60 = (-99999999) ∨ z60 = (-4) ∨ (0 ≤ z60 ∧ z60 ≤ 19)) (h5 : (-1) ≤ z633 ∧ z633 ≤ 9) (h6 : (-1) ≤ z72 ∧ z72 ≤ 9) (h7 : (-99999999) ≤ z77 ∧ z77 ≤ 19) (h8 : z77 = -99999999 ∨ z77 = -4 ∨ (0 ≤ z77 ∧ z77 ≤ 19)) : z60 = -99999999 ∨ 0 ≤ z72 := by omega
theorem vc_X12_look_33 {z1074 : Int} (h0 : (21 - z1074) < ((0 : Nat) : Int)) (h1 : 0 ≤ z1074 ∧ z1074 ≤ 20) : False := by omega
theorem vc_X12_look_34 {z1074 z1086 : Int} (h0 : z1074 < z1086) (h1 : 0 ≤ z1074 ∧ z1074 ≤ 20) (h2 : 0 ≤ z1086 ∧ z1086 ≤ 20) : 0 ≤ z1074 ∧ z1074 ≤ 19 := by omega
theorem vc_X12_look_35 {z1074 z1086 : Int} (h0 : z1074 < z1086) (h1 : 0 ≤ z1074 ∧ z1074 ≤ 19) (h2 : 0 ≤ z1086 ∧ z1086 ≤ 20) : 1 ≤ z1086 ∧ z1086 ≤ 20 := by omega
theorem vc_X12_look_36 {p1 z1118 z1121 z1128 : Int} (h0 : z1128 = 0) (h1 : (z1128 = 1 → z1118 = p1 ∨ z1121 = p1)) (h2 : (z1128 = 0 → ¬ z1118 = p1 ∧ ¬ z1121 = p1)) (h3 : 0 ≤ p1 ∧ p1 ≤ 9) (h4 : 0 ≤ z1118 ∧ z1118 ≤ 9) (h5 : 0 ≤ z1121 ∧ z1121 ≤ 9) (h6 : 0 ≤ z1128 ∧ z1128 ≤ 1) : 0 ≤ z1128 ∧ z1128 ≤ 0 := by omega
theorem vc_X12_look_37 {p1 z1118 z1121 z1128 : Int} (h0 : (z1128 = 1 → z1118 = p1 ∨ z1121 = p1)) (h1 : (z1128 = 0 → ¬ z1118 = p1 ∧ ¬ z1121 = p1)) (h2 : z1128 = 0) (h3 : 0 ≤ p1 ∧ p1 ≤ 9) (h4 : 0 ≤ z1118 ∧ z1118 ≤ 9) (h5 : 0 ≤ z1121 ∧ z1121 ≤ 9) (h6 : 0 ≤ z1128 ∧ z1128 ≤ 0) : z1128 = 0 := by omega
theorem vc_X12_look_38 {N z1074 z1086 : Int} (h0 : (21 - z1074) < N + 1) (h1 : z1074 < z1086) (h2 : 0 ≤ z1074 ∧ z1074 ≤ 19) (h3 : 1 ≤ z1086 ∧ z1086 ≤ 20) : (21 - (z1074 + 1)) < N := by omega
theorem vc_X12_look_39 {p1 p2 z1118 z1121 z1128 : Int} (h0 : (z1128 = 1 → z1118 = p1 ∨ z1121 = p1)) (h1 : (z1128 = 0 → ¬ z1118 = p1 ∧ ¬ z1121 = p1)) (h2 : ¬ z1118 = p1 ∧ ¬ z1121 = p1) (h3 : z1128 = 0) (h4 : 0 ≤ p1 ∧ p1 ≤ 9) (h5 : 0 ≤ p2 ∧ p2 ≤ 9) (h6 : 0 ≤ z1118 ∧ z1118 ≤ 9) (h7 : 0 ≤ z1121 ∧ z1121 ≤ 9) (h8 : 0 ≤ z1128 ∧ z1128 ≤ 0) : (40 * (30 + ((10 * p1) + p2))) ≤ (40 * (30 + ((10 * p1) + p2))) ∧ ((40 * (30 + ((10 * p1) + p2))) + 40) ≤ ((40 * (30 + ((10 * p1) + p2))) + 40) := by omega
theorem vc_X12_look_40 {p1 z1118 z1121 z1128 : Int} (h0 : ¬ z1128 = 0) (h1 : (z1128 = 1 → z1118 = p1 ∨ z1121 = p1)) (h2 : (z1128 = 0 → ¬ z1118 = p1 ∧ ¬ z1121 = p1)) (h3 : 0 ≤ p1 ∧ p1 ≤ 9) (h4 : 0 ≤ z1118 ∧ z1118 ≤ 9) (h5 : 0 ≤ z1121 ∧ z1121 ≤ 9) (h6 : 0 ≤ z1128 ∧ z1128 ≤ 1) : 1 ≤ z1128 ∧ z1128 ≤ 1 := by omega
theorem vc_X12_look_41 {p1 z1118 z1121 z1128 : Int} (h0 : (z1128 = 1 → z1118 = p1 ∨ z1121 = p1)) (h1 : (z1128 = 0 → ¬ z1118 = p1 ∧ ¬ z1121 = p1)) (h2 : ¬ z1128 = 0) (h3 : 0 ≤ p1 ∧ p1 ≤ 9) (h4 : 0 ≤ z1118 ∧ z1118 ≤ 9) (h5 : 0 ≤ z1121 ∧ z1121 ≤ 9) (h6 : 1 ≤ z1128 ∧ z1128 ≤ 1) : z1128 = 1 := by omega
theorem vc_X12_look_42 {z1147 : Int} (h0 : z1147 = 0) (h1 : 0 ≤ z1147 ∧ z1147 ≤ 1) : 0 ≤ z1147 ∧ z1147 ≤ 0 := by omega
theorem vc_X12_look_43 {p1 p2 z1118 z1121 z1128 : Int} (h0 : (z1128 = 1 → z1118 = p1 ∨ z1121 = p1)) (h1 : (z1128 = 0 → ¬ z1118 = p1 ∧ ¬ z1121 = p1)) (h2 : z1118 = p1 ∨ z1121 = p1) (h3 : ¬ z1128 = 0) (h4 : 0 ≤ p1 ∧ p1 ≤ 9) (h5 : 0 ≤ p2 ∧ p2 ≤ 9) (h6 : 0 ≤ z1118 ∧ z1118 ≤ 9) (h7 : 0 ≤ z1121 ∧ z1121 ≤ 9) (h8 : 1 ≤ z1128 ∧ z1128 ≤ 1) : (40 * (30 + ((10 * p1) + p2))) ≤ (40 * (30 + ((10 * p1) + p2))) ∧ ((40 * (30 + ((10 * p1) + p2))) + 40) ≤ ((40 * (30 + ((10 * p1) + p2))) + 40) := by omega
theorem vc_X12_look_44 {z1147 : Int} (h0 : ¬ z1147 = 0) (h1 : 0 ≤ z1147 ∧ z1147 ≤ 1) : 1 ≤ z1147 ∧ z1147 ≤ 1 := by omega
theorem vc_X12_look_45 {z1074 z1086 : Int} (h0 : z1074 < z1086) (h1 : 0 ≤ z1074 ∧ z1074 ≤ 19) (h2 : 1 ≤ z1086 ∧ z1086 ≤ 20) : z1074 < z1086 := by omega
theorem vc_X12_look_46 {p1 z1118 z1121 z1128 : Int} (h0 : (z1128 = 1 → z1118 = p1 ∨ z1121 = p1)) (h1 : (z1128 = 0 → ¬ z1118 = p1 ∧ ¬ z1121 = p1)) (h2 : z1118 = p1 ∨ z1121 = p1) (h3 : ¬ z1128 = 0) (h4 : 0 ≤ p1 ∧ p1 ≤ 9) (h5 : 0 ≤ z1118 ∧ z1118 ≤ 9) (h6 : 0 ≤ z1121 ∧ z1121 ≤ 9) (h7 : 1 ≤ z1128 ∧ z1128 ≤ 1) : z1118 = p1 ∨ z1121 = p1 := by omega
theorem vc_X12_look_47 {z623 : Int} (h0 : ¬ z623 = 0) (h1 : 0 ≤ z623 ∧ z623 ≤ 1) : 1 ≤ z623 ∧ z623 ≤ 1 := by omega
theorem vc_X12_look_48 {z1 : Int} (h0 : z1 < 0) (h1 : (-1) ≤ z1 ∧ z1 ≤ 2) : (-1) ≤ z1 ∧ z1 ≤ (-1) := by omega
theorem vc_X12_look_49 {z1173 : Int} (h0 : ¬ z1173 = (-99999999)) (h1 : z1173 = -99999999 ∨ (0 ≤ z1173 ∧ z1173 ≤ 19)) (h2 : (-99999999) ≤ z1173 ∧ z1173 ≤ 19) : 0 ≤ z1173 ∧ z1173 ≤ 19 := by omega
theorem vc_X12_look_50 {z1173 : Int} (h0 : z1173 = -99999999 ∨ (0 ≤ z1173 ∧ z1173 ≤ 19)) (h1 : ¬ z1173 = (-99999999)) (h2 : 0 ≤ z1173 ∧ z1173 ≤ 19) : 0 ≤ (40 * (4 + z1173)) := by omega
theorem vc_X12_look_51 {z1173 : Int} (h0 : z1173 = -99999999 ∨ (0 ≤ z1173 ∧ z1173 ≤ 19)) (h1 : ¬ z1173 = (-99999999)) (h2 : 0 ≤ z1173 ∧ z1173 ≤ 19) : (40 * (4 + z1173)) % 40 = 0 := by omega
theorem vc_X12_look_52 {z1173 : Int} (h0 : z1173 = -99999999 ∨ (0 ≤ z1173 ∧ z1173 ≤ 19)) (h1 : ¬ z1173 = (-99999999)) (h2 : 0 ≤ z1173 ∧ z1173 ≤ 19) : ¬ z1173 = -99999999 := by omega
theorem vc_X12_look_53 {z1173 : Int} (h0 : z1173 = -99999999 ∨ (0 ≤ z1173 ∧ z1173 ≤ 19)) (h1 : ¬ z1173 = (-99999999)) (h2 : 0 ≤ z1173 ∧ z1173 ≤ 19) : 160 + 40 * z1173 = (40 * (4 + z1173)) := by omega
theorem vc_X12_look_54 {z1176 : Int} (h0 : 0 ≤ z1176) (h1 : (-1) ≤ z1176 ∧ z1176 ≤ 9) : 0 ≤ z1176 ∧ z1176 ≤ 9 := by omega
theorem vc_X12_look_55 {z1173 : Int} (h0 : z1173 = -99999999 ∨ (0 ≤ z1173 ∧ z1173 ≤ 19)) (h1 : ¬ z1173 = (-99999999)) (h2 : 0 ≤ z1173 ∧ z1173 ≤ 19) : (4 + z1173) < (3 : Int) ∨ (3 : Int) < (4 + z1173) := by omega
theorem vc_X12_look_56  : (0 : Int) ≤ ((40 : Int) * (3 : Int)) := by omega
theorem vc_X12_look_57  : (((40 : Int) * (3 : Int)) : Int) % (40 : Int) = (0 : Int) := by omega
theorem vc_X12_look_58 {z1176 z1186 : Int} (h0 : z1186 = z1176) (h1 : 0 ≤ z1176) (h2 : 0 ≤ z1176 ∧ z1176 ≤ 9) (h3 : (-1) ≤ z1186 ∧ z1186 ≤ 9) : 0 ≤ z1186 ∧ z1186 ≤ 9 := by omega
theorem vc_X12_look_59  : (80 : Int) ≤ (160 : Int) ∧ (960 : Int) ≤ (960 : Int) := by omega
theorem vc_X12_look_60  : (80 : Int) ≤ ((40 : Int) * (3 : Int)) ∧ (((40 : Int) * (3 : Int)) + (40 : Int)) ≤ (960 : Int) := by omega
theorem vc_X12_look_61 {z1173 : Int} (h0 : z1173 = -99999999 ∨ (0 ≤ z1173 ∧ z1173 ≤ 19)) (h1 : ¬ z1173 = (-99999999)) (h2 : 0 ≤ z1173 ∧ z1173 ≤ 19) : z1173 = (-99999999) ∨ z1173 = (-4) ∨ (0 ≤ z1173 ∧ z1173 ≤ 19) := by omega
theorem vc_X12_look_62  : (160 : Int) ≤ (160 : Int) ∧ (960 : Int) ≤ (960 : Int) := by omega
theorem vc_X12_look_63  : ((40 : Int) * (3 : Int)) ≤ ((40 : Int) * (3 : Int)) ∧ (((40 : Int) * (3 : Int)) + (40 : Int)) ≤ (((40 : Int) * (3 : Int)) + (40 : Int)) := by omega
theorem vc_X12_look_64  : ((1 : Int) ≤ (((40 : Int) * (3 : Int)) : Int) ∧ ((((40 : Int) * (3 : Int)) + (40 : Int)) : Int) ≤ (1200 : Int)) ∨ (5200 : Int) ≤ (((40 : Int) * (3 : Int)) : Int) := by omega
theorem vc_X12_look_65  : ((1 : Int) ≤ ((160 : Int) : Int) ∧ ((960 : Int) : Int) ≤ (1200 : Int)) ∨ (5200 : Int) ≤ ((160 : Int) : Int) := by omega
theorem vc_X12_look_66  : (120 : Int) = ((40 : Int) * (3 : Int)) := by omega
theorem vc_X12_look_67 {z1173 z1176 z1186 : Int} (h0 : z1173 = -99999999 ∨ (0 ≤ z1173 ∧ z1173 ≤ 19)) (h1 : ¬ z1173 = (-99999999)) (h2 : 0 ≤ z1176) (h3 : z1186 = z1176) (h4 : 0 ≤ z1173 ∧ z1173 ≤ 19) (h5 : 0 ≤ z1176 ∧ z1176 ≤ 9) (h6 : 0 ≤ z1186 ∧ z1186 ≤ 9) : z1173 = -99999999 ∨ 0 ≤ z1176 := by omega
theorem vc_X12_look_68 {z1173 : Int} (h0 : z1173 = (-99999999)) (h1 : z1173 = -99999999 ∨ (0 ≤ z1173 ∧ z1173 ≤ 19)) (h2 : (-99999999) ≤ z1173 ∧ z1173 ≤ 19) : (-99999999) ≤ z1173 ∧ z1173 ≤ (-99999999) := by omega
theorem vc_X12_look_69 {z1198 : Int} (h0 : z1198 = -1) (h1 : (-1) ≤ z1198 ∧ z1198 ≤ 9) : (-1) ≤ z1198 ∧ z1198 ≤ (-1) := by omega
theorem vc_X12_look_70  : (80 : Int) ≤ ((40 : Int) * (3 : Int)) ∧ (((40 : Int) * (3 : Int)) + (1 : Int)) ≤ (960 : Int) := by omega
theorem vc_X12_look_71 {z1173 : Int} (h0 : z1173 = -99999999 ∨ (0 ≤ z1173 ∧ z1173 ≤ 19)) (h1 : z1173 = (-99999999)) (h2 : (-99999999) ≤ z1173 ∧ z1173 ≤ (-99999999)) : z1173 = (-99999999) ∨ z1173 = (-4) ∨ (0 ≤ z1173 ∧ z1173 ≤ 19) := by omega
theorem vc_X12_look_72  : ((40 : Int) * (3 : Int)) ≤ ((40 : Int) * (3 : Int)) ∧ (((40 : Int) * (3 : Int)) + (1 : Int)) ≤ (((40 : Int) * (3 : Int)) + (1 : Int)) := by omega
theorem vc_X12_look_73  : ((1 : Int) ≤ (((40 : Int) * (3 : Int)) : Int) ∧ ((((40 : Int) * (3 : Int)) + (1 : Int)) : Int) ≤ (1200 : Int)) ∨ (5200 : Int) ≤ (((40 : Int) * (3 : Int)) : Int) := by omega
theorem vc_X12_look_74 {z1173 : Int} (h0 : z1173 = -99999999 ∨ (0 ≤ z1173 ∧ z1173 ≤ 19)) (h1 : z1173 = (-99999999)) (h2 : (-99999999) ≤ z1173 ∧ z1173 ≤ (-99999999)) : z1173 = -99999999 ∨ 0 ≤ ((-1) : Int) := by omega
theorem vc_X12_look_75 {z1 : Int} (h0 : 0 ≤ z1) (h1 : (-1) ≤ z1 ∧ z1 ≤ 2) : 0 ≤ z1 ∧ z1 ≤ 2 := by omega
theorem vc_X12_look_76 {p2 : Int} (h0 : 0 ≤ p2 ∧ p2 ≤ 9) : (-2147483648 ≤ p2 ∧ p2 ≤ 2147483647) ∧ ((120 : Int) % 40 = 0 → -1 ≤ p2 ∧ p2 ≤ 9) ∧ ((120 : Int) % 40 = 4 → 0 ≤ p2 ∧ p2 ≤ 20) ∧ ((120 : Int) % 40 = 5 → 0 ≤ p2 ∧ p2 ≤ 8) := by omega
theorem vc_X12_look_77  : (-(2147483648 : Int) ≤ ((100 : Int) : Int) ∧ ((100 : Int) : Int) ≤ (2147483647 : Int)) ∧ ((((120 : Int) + (1 : Int)) : Int) % (40 : Int) = (0 : Int) → -(1 : Int) ≤ ((100 : Int) : Int) ∧ ((100 : Int) : Int) ≤ (9 : Int)) ∧ ((((120 : Int) + (1 : Int)) : Int) % (40 : Int) = (4 : Int) → (0 : Int) ≤ ((100 : Int) : Int) ∧ ((100 : Int) : Int) ≤ (20 : Int)) ∧ ((((120 : Int) + (1 : Int)) : Int) % (40 : Int) = (5 : Int) → (0 : Int) ≤ ((100 : Int) : Int) ∧ ((100 : Int) : Int) ≤ (8 : Int)) := by omega
theorem vc_X12_look_78 {z1 : Int} (h0 : 0 ≤ z1) (h1 : 0 ≤ z1 ∧ z1 ≤ 2) : (-2147483648 ≤ z1 ∧ z1 ≤ 2147483647) ∧ (((120 + 2) : Int) % 40 = 0 → -1 ≤ z1 ∧ z1 ≤ 9) ∧ (((120 + 2) : Int) % 40 = 4 → 0 ≤ z1 ∧ z1 ≤ 20) ∧ (((120 + 2) : Int) % 40 = 5 → 0 ≤ z1 ∧ z1 ≤ 8) := by omega
theorem vc_X12_look_79  : (-(2147483648 : Int) ≤ ((0 : Int) : Int) ∧ ((0 : Int) : Int) ≤ (2147483647 : Int)) ∧ ((((120 : Int) + (3 : Int)) : Int) % (40 : Int) = (0 : Int) → -(1 : Int) ≤ ((0 : Int) : Int) ∧ ((0 : Int) : Int) ≤ (9 : Int)) ∧ ((((120 : Int) + (3 : Int)) : Int) % (40 : Int) = (4 : Int) → (0 : Int) ≤ ((0 : Int) : Int) ∧ ((0 : Int) : Int) ≤ (20 : Int)) ∧ ((((120 : Int) + (3 : Int)) : Int) % (40 : Int) = (5 : Int) → (0 : Int) ≤ ((0 : Int) : Int) ∧ ((0 : Int) : Int) ≤ (8 : Int)) := by omega
theorem vc_X12_look_80  : (-(2147483648 : Int) ≤ ((0 : Int) : Int) ∧ ((0 : Int) : Int) ≤ (2147483647 : Int)) ∧ ((((120 : Int) + (4 : Int)) : Int) % (40 : Int) = (0 : Int) → -(1 : Int) ≤ ((0 : Int) : Int) ∧ ((0 : Int) : Int) ≤ (9 : Int)) ∧ ((((120 : Int) + (4 : Int)) : Int) % (40 : Int) = (4 : Int) → (0 : Int) ≤ ((0 : Int) : Int) ∧ ((0 : Int) : Int) ≤ (20 : Int)) ∧ ((((120 : Int) + (4 : Int)) : Int) % (40 : Int) = (5 : Int) → (0 : Int) ≤ ((0 : Int) : Int) ∧ ((0 : Int) : Int) ≤ (8 : Int)) := by omega
theorem vc_X12_look_81  : (-(2147483648 : Int) ≤ ((0 : Int) : Int) ∧ ((0 : Int) : Int) ≤ (2147483647 : Int)) ∧ ((((120 : Int) + (5 : Int)) : Int) % (40 : Int) = (0 : Int) → -(1 : Int) ≤ ((0 : Int) : Int) ∧ ((0 : Int) : Int) ≤ (9 : Int)) ∧ ((((120 : Int) + (5 : Int)) : Int) % (40 : Int) = (4 : Int) → (0 : Int) ≤ ((0 : Int) : Int) ∧ ((0 : Int) : Int) ≤ (20 : Int)) ∧ ((((120 : Int) + (5 : Int)) : Int) % (40 : Int) = (5 : Int) → (0 : Int) ≤ ((0 : Int) : Int) ∧ ((0 : Int) : Int) ≤ (8 : Int)) := by omega
theorem vc_X12_look_82  : (0 : Int) ≤ (120 : Int) ∧ (80 : Int) ≤ (120 : Int) ∧ (120 : Int) < (960 : Int) := by omega
theorem vc_X12_look_83  : (0 : Int) ≤ ((120 : Int) + (1 : Int)) ∧ (80 : Int) ≤ ((120 : Int) + (1 : Int)) ∧ ((120 : Int) + (1 : Int)) < (960 : Int) := by omega
theorem vc_X12_look_84  : (0 : Int) ≤ ((120 : Int) + (2 : Int)) ∧ (80 : Int) ≤ ((120 : Int) + (2 : Int)) ∧ ((120 : Int) + (2 : Int)) < (960 : Int) := by omega
theorem vc_X12_look_85  : (0 : Int) ≤ ((120 : Int) + (3 : Int)) ∧ (80 : Int) ≤ ((120 : Int) + (3 : Int)) ∧ ((120 : Int) + (3 : Int)) < (960 : Int) := by omega
theorem vc_X12_look_86  : (0 : Int) ≤ ((120 : Int) + (4 : Int)) ∧ (80 : Int) ≤ ((120 : Int) + (4 : Int)) ∧ ((120 : Int) + (4 : Int)) < (960 : Int) := by omega
theorem vc_X12_look_87  : (0 : Int) ≤ ((120 : Int) + (5 : Int)) ∧ (80 : Int) ≤ ((120 : Int) + (5 : Int)) ∧ ((120 : Int) + (5 : Int)) < (960 : Int) := by omega
theorem vc_X12_look_88  : (((-4) : Int) : Int) = ((-99999999) : Int) ∨ (((-4) : Int) : Int) = ((-4) : Int) ∨ ((0 : Int) ≤ (((-4) : Int) : Int) ∧ (((-4) : Int) : Int) ≤ (19 : Int)) := by omega
theorem vc_X12_look_89  : (0 : Int) ≤ (120 : Int) ∧ (120 : Int) ≤ (120 : Int) ∧ (120 : Int) < ((120 : Int) + (1 : Int)) := by omega
theorem vc_X12_look_90  : (0 : Int) ≤ ((120 : Int) + (1 : Int)) ∧ ((120 : Int) + (1 : Int)) ≤ ((120 : Int) + (1 : Int)) ∧ ((120 : Int) + (1 : Int)) < (((120 : Int) + (1 : Int)) + (1 : Int)) := by omega
theorem vc_X12_look_91  : (0 : Int) ≤ ((120 : Int) + (2 : Int)) ∧ ((120 : Int) + (2 : Int)) ≤ ((120 : Int) + (2 : Int)) ∧ ((120 : Int) + (2 : Int)) < (((120 : Int) + (2 : Int)) + (1 : Int)) := by omega
theorem vc_X12_look_92  : (0 : Int) ≤ ((120 : Int) + (3 : Int)) ∧ ((120 : Int) + (3 : Int)) ≤ ((120 : Int) + (3 : Int)) ∧ ((120 : Int) + (3 : Int)) < (((120 : Int) + (3 : Int)) + (1 : Int)) := by omega
theorem vc_X12_look_93  : (0 : Int) ≤ ((120 : Int) + (4 : Int)) ∧ ((120 : Int) + (4 : Int)) ≤ ((120 : Int) + (4 : Int)) ∧ ((120 : Int) + (4 : Int)) < (((120 : Int) + (4 : Int)) + (1 : Int)) := by omega
theorem vc_X12_look_94  : (0 : Int) ≤ ((120 : Int) + (5 : Int)) ∧ ((120 : Int) + (5 : Int)) ≤ ((120 : Int) + (5 : Int)) ∧ ((120 : Int) + (5 : Int)) < (((120 : Int) + (5 : Int)) + (1 : Int)) := by omega
theorem vc_X12_look_95  : ((1 : Int) ≤ (((120 : Int) + (5 : Int)) : Int) ∧ ((((120 : Int) + (5 : Int)) + (1 : Int)) : Int) ≤ (1200 : Int)) ∨ (5200 : Int) ≤ (((120 : Int) + (5 : Int)) : Int) := by omega
theorem vc_X12_look_96  : ((1 : Int) ≤ (((120 : Int) + (4 : Int)) : Int) ∧ ((((120 : Int) + (4 : Int)) + (1 : Int)) : Int) ≤ (1200 : Int)) ∨ (5200 : Int) ≤ (((120 : Int) + (4 : Int)) : Int) := by omega
theorem vc_X12_look_97  : ((1 : Int) ≤ (((120 : Int) + (3 : Int)) : Int) ∧ ((((120 : Int) + (3 : Int)) + (1 : Int)) : Int) ≤ (1200 : Int)) ∨ (5200 : Int) ≤ (((120 : Int) + (3 : Int)) : Int) := by omega
theorem vc_X12_look_98  : ((1 : Int) ≤ (((120 : Int) + (2 : Int)) : Int) ∧ ((((120 : Int) + (2 : Int)) + (1 : Int)) : Int) ≤ (1200 : Int)) ∨ (5200 : Int) ≤ (((120 : Int) + (2 : Int)) : Int) := by omega
theorem vc_X12_look_99  : ((1 : Int) ≤ (((120 : Int) + (1 : Int)) : Int) ∧ ((((120 : Int) + (1 : Int)) + (1 : Int)) : Int) ≤ (1200 : Int)) ∨ (5200 : Int) ≤ (((120 : Int) + (1 : Int)) : Int) := by omega
theorem vc_X12_look_100  : ((1 : Int) ≤ ((120 : Int) : Int) ∧ (((120 : Int) + (1 : Int)) : Int) ≤ (1200 : Int)) ∨ (5200 : Int) ≤ ((120 : Int) : Int) := by omega
theorem vc_X12_look_101  : (120 : Int).toNat ≠ ((120 + 1) : Int).toNat := by omega
theorem vc_X12_look_102  : (120 : Int).toNat ≠ ((120 + 2) : Int).toNat := by omega
theorem vc_X12_look_103  : (120 : Int).toNat ≠ ((120 + 3) : Int).toNat := by omega
theorem vc_X12_look_104  : (120 : Int).toNat ≠ ((120 + 4) : Int).toNat := by omega
theorem vc_X12_look_105  : (120 : Int).toNat ≠ ((120 + 5) : Int).toNat := by omega
theorem vc_X12_look_106 {p2 : Int} (h0 : 0 ≤ p2 ∧ p2 ≤ 9) : ((-4) : Int) = -99999999 ∨ 0 ≤ p2 := by omega
set_option maxRecDepth 4000 in
set_option maxHeartbeats 4000000 in
theorem c_X12_look {l : Launch} {D : va_G} {c : Nat → ClassId} {H0 : Heap} {sa : Nat × Nat × (Nat → Int32)} {w : mW} {μ : mM} (hw : mWF w) (hT : mT w μ) {p1 : Int} (hp1 : 0 ≤ p1 ∧ p1 ≤ 9) {p2 : Int} (hp2 : 0 ≤ p2 ∧ p2 ≤ 9) (hIG1 : G1 μ) (hIEV : EV μ) (hIPK : PK μ) : sC (gG l D c H0 sa) mX12_look 10 0 0 [.ref 106, iv p1, iv p2] (mk w μ) (qV w [106026, 106027, 106028, 106029, 106030, 106031, 106072, 126999, 151999, 152999, 153999, 155999, 156999, 157999, 158999, 159999, 160999, 161999, 165999] μ (fun μ1 => mG [(80, 960), ((40 * (30 + ((10 * p1) + p2))), ((40 * (30 + ((10 * p1) + p2))) + 40)), (21200, 53200)] μ μ1 ∧ G1 μ1 ∧ EV μ1 ∧ True)) := by
  refine sC.of rfl (by decide) (le_t rfl) ?_
  refine mr_lvE (lv' := [(0, .ref 106), (1, iv p1), (2, iv p2)]) rfl ?_
  refine mr_bipush (pc := 0) (z := 10) dX12_look_0 (by decide) ?_
  refine mr_iload_n (pc := 2) (z := p1) dX12_look_2 rfl rfl ?_
  refine mr_imul (pc := 3) (x := 10) (y := p1) dX12_look_3 ?_
  refine mr_iload_n (pc := 4) (z := p2) dX12_look_4 rfl rfl ?_
  refine mr_iadd (pc := 5) (x := (10 * p1)) (y := p2) dX12_look_5 ?_
  refine mr_istore_n (pc := 6) (lv' := [(3, iv ((10 * p1) + p2)), (0, .ref 106), (1, iv p1), (2, iv p2)]) dX12_look_6 rfl (by decide) rfl ?_
  refine sv_aload_n (pc := 7) dX12_look_7 rfl rfl ?_
  refine gf_X12_82 (pc := 8) dX12_look_8 wF_X12_448 (A_106 hw) hT ?_
  refine mr_iload_n (pc := 11) (z := ((10 * p1) + p2)) dX12_look_11 rfl rfl ?_
  refine la_162 (pc := 12) dX12_look_12 (A_162 hw) hT (rIx (n := 100) (rAdd (e := 0) (f := 99) (rMulL (n := 10) (e := 0) (f := 90) hp1 rfl) hp2 rfl) rfl) fun z1 q2 h3 => ?_
  have J71 : ∀ (z60 : Int) (μ63 : mM), (mT w μ63) → (mF [106026, 106027, 106028, 106029, 106030, 106031, 126999, 151999, 152999, 153999, 165999] w μ μ63) → (mG [(80, 960), ((40 * (30 + ((10 * p1) + p2))), ((40 * (30 + ((10 * p1) + p2))) + 40)), (21200, 53200)] μ μ63) → (((-99999999) ≤ z60 ∧ z60 ≤ 19)) → ((z60 = (-99999999) ∨ z60 = (-4) ∨ (0 ≤ z60 ∧ z60 ≤ 19))) → (G1 μ63) → (EV μ63) → (PK μ63) → ((z60 = -99999999 ∨ 0 ≤ μ63 126 ((120 : Int).toNat))) → sV (gG l D c H0 sa) mX12_look (sRm 10 0 0) (sZ (gG l D c H0 sa) 0 0 (qV w [106026, 106027, 106028, 106029, 106030, 106031, 106072, 126999, 151999, 152999, 153999, 155999, 156999, 157999, 158999, 159999, 160999, 161999, 165999] μ (fun μ1 => mG [(80, 960), ((40 * (30 + ((10 * p1) + p2))), ((40 * (30 + ((10 * p1) + p2))) + 40)), (21200, 53200)] μ μ1 ∧ G1 μ1 ∧ EV μ1 ∧ True))) 123 [(0, .ref 106), (1, iv p1), (2, iv p2), (3, iv ((10 * p1) + p2)), (4, iv z60)] [] (mk w μ63) 0 0 := by
    intro z60 μ63 T64 F65 G66 h61 h62 I67 I68 I69 h70
    obtain ⟨z72, q73⟩ : ∃ z, μ63 126 ((120 : Int).toNat) = z := ⟨_, rfl⟩
    have h74 := rt7 T64 (A_126 hw) vc_X12_look_1 q73
    have h75 : (-1) ≤ z72 ∧ z72 ≤ 9 := h74.2.1 vc_X12_look_2
    have h76 : z60 = -99999999 ∨ 0 ≤ z72 := q73 ▸ h70
    refine mr_iload (pc := 123) (z := z60) dX12_look_123 rfl ?_
    refine sv_aload_n (pc := 125) dX12_look_125 rfl rfl ?_
    refine gf_X12_81 (pc := 126) dX12_look_126 wF_X12_445 (A_106 hw) T64 ?_
    refine mr_iload_n (pc := 129) (z := ((10 * p1) + p2)) dX12_look_129 rfl rfl ?_
    refine la_161 (pc := 130) dX12_look_130 (A_161 hw) T64 (rIx (n := 100) (rAdd (e := 0) (f := 99) (rMulL (n := 10) (e := 0) (f := 90) hp1 rfl) hp2 rfl) rfl) fun z77 q78 h79 => ?_
    have h80 : (-99999999) ≤ z77 ∧ z77 ≤ 19 := (vc_X12_look_3 h79)
    refine mr_icmp_ne (pc := 131) (tgt := 147) dX12_look_131 (by decide) (r32 h61 rfl) (r32 h80 rfl) (fun h81 => ?_) (fun h81 => ?_)
    · refine sv_aload_n (pc := 147) dX12_look_147 rfl rfl ?_
      refine gf_X12_81 (pc := 148) dX12_look_148 wF_X12_445 (A_106 hw) T64 ?_
      refine mr_iload_n (pc := 151) (z := ((10 * p1) + p2)) dX12_look_151 rfl rfl ?_
      refine mr_iload (pc := 152) (z := z60) dX12_look_152 rfl ?_
      refine ss_161 (pc := 154) dX12_look_154 (A_161 hw) T64 (rIx (n := 100) (rAdd (e := 0) (f := 99) (rMulL (n := 10) (e := 0) (f := 90) hp1 rfl) hp2 rfl) rfl) (vc_X12_look_4 h76 h81 h61 h62 h75 h80 h79) fun μ82 u83 T84 => ?_
      refine sv_aload_n (pc := 155) dX12_look_155 rfl rfl ?_
      refine mr_iconst (pc := 156) (z := 3) dX12_look_156 ?_
      refine mr_bipush (pc := 157) (z := 30) dX12_look_157 (by decide) ?_
      refine mr_iload_n (pc := 159) (z := ((10 * p1) + p2)) dX12_look_159 rfl rfl ?_
      refine mr_iadd (pc := 160) (x := 30) (y := ((10 * p1) + p2)) dX12_look_160 ?_
      refine mr_cVV (pc := 161) (c_X12_copy hw T84 (rW (c := 0) (d := 2099) (rR (x := 3)) rfl) (rW (c := 0) (d := 2099) (rAdd (e := 30) (f := 129) (rR (x := 30)) (rAdd (e := 0) (f := 99) (rMulL (n := 10) (e := 0) (f := 90) hp1 rfl) hp2 rfl) rfl) rfl) (eqIx vc_X12_look_5 (u83.f (Or.inl (mAt.ne (A_161 hw) (A_126 hw) rfl)) q73)) (vc_X12_look_6 hp1 hp2)) (gOk _ _ _ _ _) dX12_look_161 (tX12_copy _ _ _ _ _) ⟨wV_X12_copy, wL_X12_copy⟩ wM_X12_559 (gCX12 _ _ _ _ _) rfl (A_106 hw) rfl ⟨le_t rfl, le_t rfl⟩ ⟨le_t rfl, le_t rfl⟩ rfl (le_t rfl) fun μ85 T86 F87 h88 => ?_
      obtain ⟨z89, q90, h91⟩ := h88
      have h92 := rt7 T86 (A_126 hw) (vc_X12_look_7 hp1 hp2) q90
      have h93 : (-1) ≤ z89 ∧ z89 ≤ 9 := h92.2.1 (vc_X12_look_8 hp1 hp2)
      have q94 : μ85 126 ((40 * (30 + ((10 * p1) + p2))).toNat) = z72 := q90.trans h91.2.1
      have I95 : G1 μ85 := G1.look I67 hw (rAdd (e := 0) (f := 99) (rMulL (n := 10) (e := 0) (f := 90) hp1 rfl) hp2 rfl) u83 F87 (vc_X12_look_10 hp1 hp2) h91.1 q94 (vc_X12_look_9 h76 h81 h91.2.1 h61 h62 h75 h80 h79 h93)
      refine mr_iconst (pc := 164) (z := 0) dX12_look_164 ?_
      refine mr_istore (pc := 165) (lv' := [(5, iv 0), (0, .ref 106), (1, iv p1), (2, iv p2), (3, iv ((10 * p1) + p2)), (4, iv z60)]) dX12_look_165 (by decide) rfl ?_
      have L532 : ∀ (nL532 : Nat) (z530 : Int) (μ531 : mM), mT w μ531 → mF [106026, 106027, 106028, 106029, 106030, 106031, 106072, 126999, 151999, 152999, 153999, 155999, 156999, 157999, 158999, 159999, 160999] w μ85 μ531 → mG [(80, 960), ((40 * (30 + ((10 * p1) + p2))), ((40 * (30 + ((10 * p1) + p2))) + 40)), (21200, 53200)] μ85 μ531 → (0 ≤ z530 ∧ z530 ≤ 20) → G1 μ531 → EV μ531 → PK μ531 → (21 - z530) < (nL532 : Int) → sV (gG l D c H0 sa) mX12_look (sRm 10 0 0) (sZ (gG l D c H0 sa) 0 0 (qV w [106026, 106027, 106028, 106029, 106030, 106031, 106072, 126999, 151999, 152999, 153999, 155999, 156999, 157999, 158999, 159999, 160999, 161999, 165999] μ (fun μ1 => mG [(80, 960), ((40 * (30 + ((10 * p1) + p2))), ((40 * (30 + ((10 * p1) + p2))) + 40)), (21200, 53200)] μ μ1 ∧ G1 μ1 ∧ EV μ1 ∧ True))) 167 [(0, .ref 106), (1, iv p1), (2, iv p2), (5, iv z530)] [] (mk w μ531) 0 0 := by
        intro nL532
        induction nL532 with
        | zero => intro z530 μ531 T534 F535 G536 h533 I537 I538 I539 h540; exact ((vc_X12_look_11 h540 h533)).elim
        | succ nL532 ih541 =>
          intro z530 μ531 T534 F535 G536 h533 I537 I538 I539 h540
          refine mr_iload (pc := 167) (z := z530) dX12_look_167 rfl ?_
          refine sv_aload_n (pc := 169) dX12_look_169 rfl rfl ?_
          refine gf_X12_6 (pc := 170) dX12_look_170 wF_X12_37 (A_106 hw) T534 fun z542 q543 h544 => ?_
          refine mr_icmp_ge (pc := 173) (tgt := 210) dX12_look_173 (by decide) (r32 h533 rfl) (r32 h544 rfl) (fun h571 => ?_) (fun h571 => ?_)
          · exact mr_vret dX12_look_210 rfl (le_t rfl) (le_t rfl) T534 (mF.call (mF.call (mF.up (mF.call mF.refl F65 rfl) (A_161 hw) u83 rfl) F87 rfl) F535 rfl) ⟨(mG.call (mG.call (mG.upO (mG.call mG.refl G66 (List.forall_mem_cons.mpr ⟨⟨_, List.mem_cons_self, vc_X12_look_12⟩, (List.forall_mem_cons.mpr ⟨⟨_, (List.mem_cons_of_mem _ List.mem_cons_self), (vc_X12_look_13 hp1 hp2)⟩, (List.forall_mem_cons.mpr ⟨⟨_, (List.mem_cons_of_mem _ (List.mem_cons_of_mem _ List.mem_cons_self)), vc_X12_look_14⟩, (fun _ h => absurd h List.not_mem_nil)⟩)⟩)⟩)) u83 rfl) h91.1 (List.forall_mem_cons.mpr ⟨⟨_, (List.mem_cons_of_mem _ List.mem_cons_self), (vc_X12_look_13 hp1 hp2)⟩, (fun _ h => absurd h List.not_mem_nil)⟩)) G536 (List.forall_mem_cons.mpr ⟨⟨_, List.mem_cons_self, vc_X12_look_12⟩, (List.forall_mem_cons.mpr ⟨⟨_, (List.mem_cons_of_mem _ List.mem_cons_self), (vc_X12_look_13 hp1 hp2)⟩, (List.forall_mem_cons.mpr ⟨⟨_, (List.mem_cons_of_mem _ (List.mem_cons_of_mem _ List.mem_cons_self)), vc_X12_look_14⟩, (fun _ h => absurd h List.not_mem_nil)⟩)⟩)⟩)), I537, I538, trivial⟩
          have h572 : 0 ≤ z530 ∧ z530 ≤ 19 := (vc_X12_look_15 h571 h533 h544)
          have h573 : 1 ≤ z542 ∧ z542 ≤ 20 := (vc_X12_look_16 h571 h572 h544)
          refine sv_aload_n (pc := 176) dX12_look_176 rfl rfl ?_
          refine mr_iload (pc := 177) (z := z530) dX12_look_177 rfl ?_
          refine mr_iload_n (pc := 179) (z := p1) dX12_look_179 rfl rfl ?_
          obtain ⟨z574, q575⟩ : ∃ z, μ531 110 ((2 * z530).toNat) = z := ⟨_, rfl⟩
          have h576 : (0 ≤ z574 ∧ z574 ≤ 9) := by rw [← q575]; exact T534 110 110 (A_110 hw) ((2 * z530).toNat)
          obtain ⟨z577, q578⟩ : ∃ z, μ531 110 (((2 * z530) + 1).toNat) = z := ⟨_, rfl⟩
          have h579 : (0 ≤ z577 ∧ z577 ≤ 9) := by rw [← q578]; exact T534 110 110 (A_110 hw) (((2 * z530) + 1).toNat)
          refine mr_cVP (pc := 180) (c_X12_isAt hw T534 h572 (rW (c := (-2147483648)) (d := 2147483647) hp1 rfl) q575 q578) (gOk _ _ _ _ _) dX12_look_180 (tX12_isAt _ _ _ _ _) ⟨wV_X12_isAt, wL_X12_isAt⟩ wM_X12_562 (gCX12 _ _ _ _ _) rfl (A_106 hw) rfl ⟨le_t rfl, le_t rfl⟩ ⟨le_t rfl, le_t rfl⟩ rfl (le_t rfl) fun z584 h583 => ?_
          refine mr_if_eq (pc := 183) (tgt := 204) dX12_look_183 (by decide) (r32 h583.1 rfl) (fun h598 => ?_) (fun h598 => ?_)
          · have h599 : 0 ≤ z584 ∧ z584 ≤ 0 := (vc_X12_look_17 h598 h583.2.1 h583.2.2.1 hp1 h576 h579 h583.1)
            have h600 : ¬ z574 = p1 ∧ ¬ z577 = p1 := (h583.2.2.1 (vc_X12_look_18 h583.2.1 h583.2.2.1 h598 hp1 h576 h579 h599))
            refine mr_iinc (pc := 204) (lv' := [(5, iv (z530 + 1)), (0, .ref 106), (1, iv p1), (2, iv p2)]) dX12_look_204 rfl (by decide) rfl ?_
            refine sv_goto (pc := 207) (tgt := 167) dX12_look_207 (by decide) ?_
            refine mr_lvS (lv' := [(0, .ref 106), (1, iv p1), (2, iv p2), (5, iv (z530 + 1))]) (List.forall_mem_cons.mpr ⟨rfl, List.forall_mem_cons.mpr ⟨rfl, List.forall_mem_cons.mpr ⟨rfl, List.forall_mem_cons.mpr ⟨rfl, fun _ h => absurd h List.not_mem_nil⟩⟩⟩⟩) ?_
            exact ih541 (z530 + 1) μ531 T534 (mF.call mF.refl F535 rfl) (mG.call mG.refl G536 (List.forall_mem_cons.mpr ⟨⟨_, List.mem_cons_self, vc_X12_look_12⟩, (List.forall_mem_cons.mpr ⟨⟨_, (List.mem_cons_of_mem _ List.mem_cons_self), (vc_X12_look_20 h583.2.1 h583.2.2.1 h600 h598 hp1 hp2 h576 h579 h599)⟩, (List.forall_mem_cons.mpr ⟨⟨_, (List.mem_cons_of_mem _ (List.mem_cons_of_mem _ List.mem_cons_self)), vc_X12_look_14⟩, (fun _ h => absurd h List.not_mem_nil)⟩)⟩)⟩)) (rW (c := 0) (d := 20) (rAdd (e := 1) (f := 20) h572 (rR (x := 1)) rfl) rfl) I537 I538 I539 (vc_X12_look_19 (nS h540) h571 h572 h573)
          have h601 : 1 ≤ z584 ∧ z584 ≤ 1 := (vc_X12_look_21 h598 h583.2.1 h583.2.2.1 hp1 h576 h579 h583.1)
          have h602 : z574 = p1 ∨ z577 = p1 := (h583.2.1 (vc_X12_look_22 h583.2.1 h583.2.2.1 h598 hp1 h576 h579 h601))
          refine sv_aload_n (pc := 186) dX12_look_186 rfl rfl ?_
          refine gf_X12_9 (pc := 187) dX12_look_187 wF_X12_53 (A_106 hw) T534 ?_
          refine mr_iload (pc := 190) (z := z530) dX12_look_190 rfl ?_
          refine la_112 (pc := 192) dX12_look_192 (A_112 hw) T534 (rIx (n := 20) h572 rfl) fun z603 q604 h605 => ?_
          refine mr_if_eq (pc := 193) (tgt := 204) dX12_look_193 (by decide) (r32 h605 rfl) (fun h612 => ?_) (fun h612 => ?_)
          · have h613 : 0 ≤ z603 ∧ z603 ≤ 0 := (vc_X12_look_23 h612 h605)
            refine mr_iinc (pc := 204) (lv' := [(5, iv (z530 + 1)), (0, .ref 106), (1, iv p1), (2, iv p2)]) dX12_look_204 rfl (by decide) rfl ?_
            refine sv_goto (pc := 207) (tgt := 167) dX12_look_207 (by decide) ?_
            refine mr_lvS (lv' := [(0, .ref 106), (1, iv p1), (2, iv p2), (5, iv (z530 + 1))]) (List.forall_mem_cons.mpr ⟨rfl, List.forall_mem_cons.mpr ⟨rfl, List.forall_mem_cons.mpr ⟨rfl, List.forall_mem_cons.mpr ⟨rfl, fun _ h => absurd h List.not_mem_nil⟩⟩⟩⟩) ?_
            exact ih541 (z530 + 1) μ531 T534 (mF.call mF.refl F535 rfl) (mG.call mG.refl G536 (List.forall_mem_cons.mpr ⟨⟨_, List.mem_cons_self, vc_X12_look_12⟩, (List.forall_mem_cons.mpr ⟨⟨_, (List.mem_cons_of_mem _ List.mem_cons_self), (vc_X12_look_24 h583.2.1 h583.2.2.1 h602 h598 hp1 hp2 h576 h579 h601)⟩, (List.forall_mem_cons.mpr ⟨⟨_, (List.mem_cons_of_mem _ (List.mem_cons_of_mem _ List.mem_cons_self)), vc_X12_look_14⟩, (fun _ h => absurd h List.not_mem_nil)⟩)⟩)⟩)) (rW (c := 0) (d := 20) (rAdd (e := 1) (f := 20) h572 (rR (x := 1)) rfl) rfl) I537 I538 I539 (vc_X12_look_19 (nS h540) h571 h572 h573)
          have h614 : 1 ≤ z603 ∧ z603 ≤ 1 := (vc_X12_look_25 h612 h605)
          refine sv_aload_n (pc := 196) dX12_look_196 rfl rfl ?_
          refine mr_iload_n (pc := 197) (z := p1) dX12_look_197 rfl rfl ?_
          refine mr_iload (pc := 198) (z := z530) dX12_look_198 rfl ?_
          refine mr_iload_n (pc := 200) (z := p2) dX12_look_200 rfl rfl ?_
          refine mr_cVV (pc := 201) (c_X12_say hw T534 hp1 h572 hp2 q575 q578 q543 (vc_X12_look_26 h571 h572 h573) (vc_X12_look_27 h583.2.1 h583.2.2.1 h602 h598 hp1 h576 h579 h601) I537 I538 I539) (gOk _ _ _ _ _) dX12_look_201 (tX12_say _ _ _ _ _) ⟨wV_X12_say, wL_X12_say⟩ wM_X12_587 (gCX12 _ _ _ _ _) rfl (A_106 hw) rfl ⟨le_t rfl, le_t rfl⟩ ⟨le_t rfl, le_t rfl⟩ rfl (le_t rfl) fun μ615 T616 F617 h618 => ?_
          refine mr_iinc (pc := 204) (lv' := [(5, iv (z530 + 1)), (0, .ref 106), (1, iv p1), (2, iv p2)]) dX12_look_204 rfl (by decide) rfl ?_
          refine sv_goto (pc := 207) (tgt := 167) dX12_look_207 (by decide) ?_
          refine mr_lvS (lv' := [(0, .ref 106), (1, iv p1), (2, iv p2), (5, iv (z530 + 1))]) (List.forall_mem_cons.mpr ⟨rfl, List.forall_mem_cons.mpr ⟨rfl, List.forall_mem_cons.mpr ⟨rfl, List.forall_mem_cons.mpr ⟨rfl, fun _ h => absurd h List.not_mem_nil⟩⟩⟩⟩) ?_
          exact ih541 (z530 + 1) μ615 T616 (mF.call (mF.call mF.refl F535 rfl) F617 rfl) (mG.call (mG.call mG.refl G536 (List.forall_mem_cons.mpr ⟨⟨_, List.mem_cons_self, vc_X12_look_12⟩, (List.forall_mem_cons.mpr ⟨⟨_, (List.mem_cons_of_mem _ List.mem_cons_self), (vc_X12_look_24 h583.2.1 h583.2.2.1 h602 h598 hp1 hp2 h576 h579 h601)⟩, (List.forall_mem_cons.mpr ⟨⟨_, (List.mem_cons_of_mem _ (List.mem_cons_of_mem _ List.mem_cons_self)), vc_X12_look_14⟩, (fun _ h => absurd h List.not_mem_nil)⟩)⟩)⟩)) h618.1 (List.forall_mem_cons.mpr ⟨⟨_, List.mem_cons_self, vc_X12_look_28⟩, (List.forall_mem_cons.mpr ⟨⟨_, (List.mem_cons_of_mem _ (List.mem_cons_of_mem _ List.mem_cons_self)), vc_X12_look_14⟩, (fun _ h => absurd h List.not_mem_nil)⟩)⟩)) (rW (c := 0) (d := 20) (rAdd (e := 1) (f := 20) h572 (rR (x := 1)) rfl) rfl) h618.2.1 h618.2.2.1 (PK.keep I539 hw ((mF.call mF.refl F617 rfl) : mF [106026, 106027, 106028, 106029, 106030, 106031, 106072, 126999, 151999, 152999, 153999, 155999, 156999, 157999, 158999, 159999, 160999] w μ531 μ615) rfl) (vc_X12_look_19 (nS h540) h571 h572 h573)
      refine mr_lvS (lv' := [(0, .ref 106), (1, iv p1), (2, iv p2), (5, iv 0)]) (List.forall_mem_cons.mpr ⟨rfl, List.forall_mem_cons.mpr ⟨rfl, List.forall_mem_cons.mpr ⟨rfl, List.forall_mem_cons.mpr ⟨rfl, fun _ h => absurd h List.not_mem_nil⟩⟩⟩⟩) ?_
      exact L532 22 0 μ85 T86 mF.refl mG.refl (rW (c := 0) (d := 20) (rR (x := 0)) rfl) I95 (EV.keep I68 hw ((mF.call (mF.up mF.refl (A_161 hw) u83 rfl) F87 rfl) : mF [126999, 161999] w μ63 μ85) rfl) (PK.keep I69 hw ((mF.call (mF.up mF.refl (A_161 hw) u83 rfl) F87 rfl) : mF [126999, 161999] w μ63 μ85) rfl) vc_X12_look_29
    refine sv_aload_n (pc := 134) dX12_look_134 rfl rfl ?_
    refine mr_iconst (pc := 135) (z := 3) dX12_look_135 ?_
    refine mr_bipush (pc := 136) (z := 30) dX12_look_136 (by decide) ?_
    refine mr_iload_n (pc := 138) (z := ((10 * p1) + p2)) dX12_look_138 rfl rfl ?_
    refine mr_iadd (pc := 139) (x := 30) (y := ((10 * p1) + p2)) dX12_look_139 ?_
    refine mr_cVP (pc := 140) (c_X12_same hw T64 (rW (c := 0) (d := 2099) (rR (x := 3)) rfl) (rW (c := 0) (d := 2099) (rAdd (e := 30) (f := 129) (rR (x := 30)) (rAdd (e := 0) (f := 99) (rMulL (n := 10) (e := 0) (f := 90) hp1 rfl) hp2 rfl) rfl) rfl)) (gOk _ _ _ _ _) dX12_look_140 (tX12_same _ _ _ _ _) ⟨wV_X12_same, wL_X12_same⟩ wM_X12_584 (gCX12 _ _ _ _ _) rfl (A_106 hw) rfl ⟨le_t rfl, le_t rfl⟩ ⟨le_t rfl, le_t rfl⟩ rfl (le_t rfl) fun z623 h622 => ?_
    refine mr_if_eq (pc := 143) (tgt := 147) dX12_look_143 (by decide) (r32 h622.1 rfl) (fun h624 => ?_) (fun h624 => ?_)
    · have h625 : 0 ≤ z623 ∧ z623 ≤ 0 := (vc_X12_look_30 h624 h622.1)
      refine sv_aload_n (pc := 147) dX12_look_147 rfl rfl ?_
      refine gf_X12_81 (pc := 148) dX12_look_148 wF_X12_445 (A_106 hw) T64 ?_
      refine mr_iload_n (pc := 151) (z := ((10 * p1) + p2)) dX12_look_151 rfl rfl ?_
      refine mr_iload (pc := 152) (z := z60) dX12_look_152 rfl ?_
      refine ss_161 (pc := 154) dX12_look_154 (A_161 hw) T64 (rIx (n := 100) (rAdd (e := 0) (f := 99) (rMulL (n := 10) (e := 0) (f := 90) hp1 rfl) hp2 rfl) rfl) (vc_X12_look_31 h76 h81 h61 h62 h75 h80 h79) fun μ626 u627 T628 => ?_
      refine sv_aload_n (pc := 155) dX12_look_155 rfl rfl ?_
      refine mr_iconst (pc := 156) (z := 3) dX12_look_156 ?_
      refine mr_bipush (pc := 157) (z := 30) dX12_look_157 (by decide) ?_
      refine mr_iload_n (pc := 159) (z := ((10 * p1) + p2)) dX12_look_159 rfl rfl ?_
      refine mr_iadd (pc := 160) (x := 30) (y := ((10 * p1) + p2)) dX12_look_160 ?_
      refine mr_cVV (pc := 161) (c_X12_copy hw T628 (rW (c := 0) (d := 2099) (rR (x := 3)) rfl) (rW (c := 0) (d := 2099) (rAdd (e := 30) (f := 129) (rR (x := 30)) (rAdd (e := 0) (f := 99) (rMulL (n := 10) (e := 0) (f := 90) hp1 rfl) hp2 rfl) rfl) rfl) (eqIx vc_X12_look_5 (u627.f (Or.inl (mAt.ne (A_161 hw) (A_126 hw) rfl)) q73)) (vc_X12_look_6 hp1 hp2)) (gOk _ _ _ _ _) dX12_look_161 (tX12_copy _ _ _ _ _) ⟨wV_X12_copy, wL_X12_copy⟩ wM_X12_559 (gCX12 _ _ _ _ _) rfl (A_106 hw) rfl ⟨le_t rfl, le_t rfl⟩ ⟨le_t rfl, le_t rfl⟩ rfl (le_t rfl) fun μ629 T630 F631 h632 => ?_
      obtain ⟨z633, q634, h635⟩ := h632
      have h636 := rt7 T630 (A_126 hw) (vc_X12_look_7 hp1 hp2) q634
      have h637 : (-1) ≤ z633 ∧ z633 ≤ 9 := h636.2.1 (vc_X12_look_8 hp1 hp2)
      have q638 : μ629 126 ((40 * (30 + ((10 * p1) + p2))).toNat) = z72 := q634.trans h635.2.1
      have I639 : G1 μ629 := G1.look I67 hw (rAdd (e := 0) (f := 99) (rMulL (n := 10) (e := 0) (f := 90) hp1 rfl) hp2 rfl) u627 F631 (vc_X12_look_10 hp1 hp2) h635.1 q638 (vc_X12_look_32 h76 h81 h635.2.1 h61 h62 h637 h75 h80 h79)
      refine mr_iconst (pc := 164) (z := 0) dX12_look_164 ?_
      refine mr_istore (pc := 165) (lv' := [(5, iv 0), (0, .ref 106), (1, iv p1), (2, iv p2), (3, iv ((10 * p1) + p2)), (4, iv z60)]) dX12_look_165 (by decide) rfl ?_
      have L1076 : ∀ (nL1076 : Nat) (z1074 : Int) (μ1075 : mM), mT w μ1075 → mF [106026, 106027, 106028, 106029, 106030, 106031, 106072, 126999, 151999, 152999, 153999, 155999, 156999, 157999, 158999, 159999, 160999] w μ629 μ1075 → mG [(80, 960), ((40 * (30 + ((10 * p1) + p2))), ((40 * (30 + ((10 * p1) + p2))) + 40)), (21200, 53200)] μ629 μ1075 → (0 ≤ z1074 ∧ z1074 ≤ 20) → G1 μ1075 → EV μ1075 → PK μ1075 → (21 - z1074) < (nL1076 : Int) → sV (gG l D c H0 sa) mX12_look (sRm 10 0 0) (sZ (gG l D c H0 sa) 0 0 (qV w [106026, 106027, 106028, 106029, 106030, 106031, 106072, 126999, 151999, 152999, 153999, 155999, 156999, 157999, 158999, 159999, 160999, 161999, 165999] μ (fun μ1 => mG [(80, 960), ((40 * (30 + ((10 * p1) + p2))), ((40 * (30 + ((10 * p1) + p2))) + 40)), (21200, 53200)] μ μ1 ∧ G1 μ1 ∧ EV μ1 ∧ True))) 167 [(0, .ref 106), (1, iv p1), (2, iv p2), (5, iv z1074)] [] (mk w μ1075) 0 0 := by
        intro nL1076
        induction nL1076 with
        | zero => intro z1074 μ1075 T1078 F1079 G1080 h1077 I1081 I1082 I1083 h1084; exact ((vc_X12_look_33 h1084 h1077)).elim
        | succ nL1076 ih1085 =>
          intro z1074 μ1075 T1078 F1079 G1080 h1077 I1081 I1082 I1083 h1084
          refine mr_iload (pc := 167) (z := z1074) dX12_look_167 rfl ?_
          refine sv_aload_n (pc := 169) dX12_look_169 rfl rfl ?_
          refine gf_X12_6 (pc := 170) dX12_look_170 wF_X12_37 (A_106 hw) T1078 fun z1086 q1087 h1088 => ?_
          refine mr_icmp_ge (pc := 173) (tgt := 210) dX12_look_173 (by decide) (r32 h1077 rfl) (r32 h1088 rfl) (fun h1115 => ?_) (fun h1115 => ?_)
          · exact mr_vret dX12_look_210 rfl (le_t rfl) (le_t rfl) T1078 (mF.call (mF.call (mF.up (mF.call mF.refl F65 rfl) (A_161 hw) u627 rfl) F631 rfl) F1079 rfl) ⟨(mG.call (mG.call (mG.upO (mG.call mG.refl G66 (List.forall_mem_cons.mpr ⟨⟨_, List.mem_cons_self, vc_X12_look_12⟩, (List.forall_mem_cons.mpr ⟨⟨_, (List.mem_cons_of_mem _ List.mem_cons_self), (vc_X12_look_13 hp1 hp2)⟩, (List.forall_mem_cons.mpr ⟨⟨_, (List.mem_cons_of_mem _ (List.mem_cons_of_mem _ List.mem_cons_self)), vc_X12_look_14⟩, (fun _ h => absurd h List.not_mem_nil)⟩)⟩)⟩)) u627 rfl) h635.1 (List.forall_mem_cons.mpr ⟨⟨_, (List.mem_cons_of_mem _ List.mem_cons_self), (vc_X12_look_13 hp1 hp2)⟩, (fun _ h => absurd h List.not_mem_nil)⟩)) G1080 (List.forall_mem_cons.mpr ⟨⟨_, List.mem_cons_self, vc_X12_look_12⟩, (List.forall_mem_cons.mpr ⟨⟨_, (List.mem_cons_of_mem _ List.mem_cons_self), (vc_X12_look_13 hp1 hp2)⟩, (List.forall_mem_cons.mpr ⟨⟨_, (List.mem_cons_of_mem _ (List.mem_cons_of_mem _ List.mem_cons_self)), vc_X12_look_14⟩, (fun _ h => absurd h List.not_mem_nil)⟩)⟩)⟩)), I1081, I1082, trivial⟩
          have h1116 : 0 ≤ z1074 ∧ z1074 ≤ 19 := (vc_X12_look_34 h1115 h1077 h1088)
          have h1117 : 1 ≤ z1086 ∧ z1086 ≤ 20 := (vc_X12_look_35 h1115 h1116 h1088)
          refine sv_aload_n (pc := 176) dX12_look_176 rfl rfl ?_
          refine mr_iload (pc := 177) (z := z1074) dX12_look_177 rfl ?_
          refine mr_iload_n (pc := 179) (z := p1) dX12_look_179 rfl rfl ?_
          obtain ⟨z1118, q1119⟩ : ∃ z, μ1075 110 ((2 * z1074).toNat) = z := ⟨_, rfl⟩
          have h1120 : (0 ≤ z1118 ∧ z1118 ≤ 9) := by rw [← q1119]; exact T1078 110 110 (A_110 hw) ((2 * z1074).toNat)
          obtain ⟨z1121, q1122⟩ : ∃ z, μ1075 110 (((2 * z1074) + 1).toNat) = z := ⟨_, rfl⟩
          have h1123 : (0 ≤ z1121 ∧ z1121 ≤ 9) := by rw [← q1122]; exact T1078 110 110 (A_110 hw) (((2 * z1074) + 1).toNat)
          refine mr_cVP (pc := 180) (c_X12_isAt hw T1078 h1116 (rW (c := (-2147483648)) (d := 2147483647) hp1 rfl) q1119 q1122) (gOk _ _ _ _ _) dX12_look_180 (tX12_isAt _ _ _ _ _) ⟨wV_X12_isAt, wL_X12_isAt⟩ wM_X12_562 (gCX12 _ _ _ _ _) rfl (A_106 hw) rfl ⟨le_t rfl, le_t rfl⟩ ⟨le_t rfl, le_t rfl⟩ rfl (le_t rfl) fun z1128 h1127 => ?_
          refine mr_if_eq (pc := 183) (tgt := 204) dX12_look_183 (by decide) (r32 h1127.1 rfl) (fun h1142 => ?_) (fun h1142 => ?_)
          · have h1143 : 0 ≤ z1128 ∧ z1128 ≤ 0 := (vc_X12_look_36 h1142 h1127.2.1 h1127.2.2.1 hp1 h1120 h1123 h1127.1)
            have h1144 : ¬ z1118 = p1 ∧ ¬ z1121 = p1 := (h1127.2.2.1 (vc_X12_look_37 h1127.2.1 h1127.2.2.1 h1142 hp1 h1120 h1123 h1143))
            refine mr_iinc (pc := 204) (lv' := [(5, iv (z1074 + 1)), (0, .ref 106), (1, iv p1), (2, iv p2)]) dX12_look_204 rfl (by decide) rfl ?_
            refine sv_goto (pc := 207) (tgt := 167) dX12_look_207 (by decide) ?_
            refine mr_lvS (lv' := [(0, .ref 106), (1, iv p1), (2, iv p2), (5, iv (z1074 + 1))]) (List.forall_mem_cons.mpr ⟨rfl, List.forall_mem_cons.mpr ⟨rfl, List.forall_mem_cons.mpr ⟨rfl, List.forall_mem_cons.mpr ⟨rfl, fun _ h => absurd h List.not_mem_nil⟩⟩⟩⟩) ?_
            exact ih1085 (z1074 + 1) μ1075 T1078 (mF.call mF.refl F1079 rfl) (mG.call mG.refl G1080 (List.forall_mem_cons.mpr ⟨⟨_, List.mem_cons_self, vc_X12_look_12⟩, (List.forall_mem_cons.mpr ⟨⟨_, (List.mem_cons_of_mem _ List.mem_cons_self), (vc_X12_look_39 h1127.2.1 h1127.2.2.1 h1144 h1142 hp1 hp2 h1120 h1123 h1143)⟩, (List.forall_mem_cons.mpr ⟨⟨_, (List.mem_cons_of_mem _ (List.mem_cons_of_mem _ List.mem_cons_self)), vc_X12_look_14⟩, (fun _ h => absurd h List.not_mem_nil)⟩)⟩)⟩)) (rW (c := 0) (d := 20) (rAdd (e := 1) (f := 20) h1116 (rR (x := 1)) rfl) rfl) I1081 I1082 I1083 (vc_X12_look_38 (nS h1084) h1115 h1116 h1117)
          have h1145 : 1 ≤ z1128 ∧ z1128 ≤ 1 := (vc_X12_look_40 h1142 h1127.2.1 h1127.2.2.1 hp1 h1120 h1123 h1127.1)
          have h1146 : z1118 = p1 ∨ z1121 = p1 := (h1127.2.1 (vc_X12_look_41 h1127.2.1 h1127.2.2.1 h1142 hp1 h1120 h1123 h1145))
          refine sv_aload_n (pc := 186) dX12_look_186 rfl rfl ?_
          refine gf_X12_9 (pc := 187) dX12_look_187 wF_X12_53 (A_106 hw) T1078 ?_
          refine mr_iload (pc := 190) (z := z1074) dX12_look_190 rfl ?_
          refine la_112 (pc := 192) dX12_look_192 (A_112 hw) T1078 (rIx (n := 20) h1116 rfl) fun z1147 q1148 h1149 => ?_
          refine mr_if_eq (pc := 193) (tgt := 204) dX12_look_193 (by decide) (r32 h1149 rfl) (fun h1156 => ?_) (fun h1156 => ?_)
          · have h1157 : 0 ≤ z1147 ∧ z1147 ≤ 0 := (vc_X12_look_42 h1156 h1149)
            refine mr_iinc (pc := 204) (lv' := [(5, iv (z1074 + 1)), (0, .ref 106), (1, iv p1), (2, iv p2)]) dX12_look_204 rfl (by decide) rfl ?_
            refine sv_goto (pc := 207) (tgt := 167) dX12_look_207 (by decide) ?_
            refine mr_lvS (lv' := [(0, .ref 106), (1, iv p1), (2, iv p2), (5, iv (z1074 + 1))]) (List.forall_mem_cons.mpr ⟨rfl, List.forall_mem_cons.mpr ⟨rfl, List.forall_mem_cons.mpr ⟨rfl, List.forall_mem_cons.mpr ⟨rfl, fun _ h => absurd h List.not_mem_nil⟩⟩⟩⟩) ?_
            exact ih1085 (z1074 + 1) μ1075 T1078 (mF.call mF.refl F1079 rfl) (mG.call mG.refl G1080 (List.forall_mem_cons.mpr ⟨⟨_, List.mem_cons_self, vc_X12_look_12⟩, (List.forall_mem_cons.mpr ⟨⟨_, (List.mem_cons_of_mem _ List.mem_cons_self), (vc_X12_look_43 h1127.2.1 h1127.2.2.1 h1146 h1142 hp1 hp2 h1120 h1123 h1145)⟩, (List.forall_mem_cons.mpr ⟨⟨_, (List.mem_cons_of_mem _ (List.mem_cons_of_mem _ List.mem_cons_self)), vc_X12_look_14⟩, (fun _ h => absurd h List.not_mem_nil)⟩)⟩)⟩)) (rW (c := 0) (d := 20) (rAdd (e := 1) (f := 20) h1116 (rR (x := 1)) rfl) rfl) I1081 I1082 I1083 (vc_X12_look_38 (nS h1084) h1115 h1116 h1117)
          have h1158 : 1 ≤ z1147 ∧ z1147 ≤ 1 := (vc_X12_look_44 h1156 h1149)
          refine sv_aload_n (pc := 196) dX12_look_196 rfl rfl ?_
          refine mr_iload_n (pc := 197) (z := p1) dX12_look_197 rfl rfl ?_
          refine mr_iload (pc := 198) (z := z1074) dX12_look_198 rfl ?_
          refine mr_iload_n (pc := 200) (z := p2) dX12_look_200 rfl rfl ?_
          refine mr_cVV (pc := 201) (c_X12_say hw T1078 hp1 h1116 hp2 q1119 q1122 q1087 (vc_X12_look_45 h1115 h1116 h1117) (vc_X12_look_46 h1127.2.1 h1127.2.2.1 h1146 h1142 hp1 h1120 h1123 h1145) I1081 I1082 I1083) (gOk _ _ _ _ _) dX12_look_201 (tX12_say _ _ _ _ _) ⟨wV_X12_say, wL_X12_say⟩ wM_X12_587 (gCX12 _ _ _ _ _) rfl (A_106 hw) rfl ⟨le_t rfl, le_t rfl⟩ ⟨le_t rfl, le_t rfl⟩ rfl (le_t rfl) fun μ1159 T1160 F1161 h1162 => ?_
          refine mr_iinc (pc := 204) (lv' := [(5, iv (z1074 + 1)), (0, .ref 106), (1, iv p1), (2, iv p2)]) dX12_look_204 rfl (by decide) rfl ?_
          refine sv_goto (pc := 207) (tgt := 167) dX12_look_207 (by decide) ?_
          refine mr_lvS (lv' := [(0, .ref 106), (1, iv p1), (2, iv p2), (5, iv (z1074 + 1))]) (List.forall_mem_cons.mpr ⟨rfl, List.forall_mem_cons.mpr ⟨rfl, List.forall_mem_cons.mpr ⟨rfl, List.forall_mem_cons.mpr ⟨rfl, fun _ h => absurd h List.not_mem_nil⟩⟩⟩⟩) ?_
          exact ih1085 (z1074 + 1) μ1159 T1160 (mF.call (mF.call mF.refl F1079 rfl) F1161 rfl) (mG.call (mG.call mG.refl G1080 (List.forall_mem_cons.mpr ⟨⟨_, List.mem_cons_self, vc_X12_look_12⟩, (List.forall_mem_cons.mpr ⟨⟨_, (List.mem_cons_of_mem _ List.mem_cons_self), (vc_X12_look_43 h1127.2.1 h1127.2.2.1 h1146 h1142 hp1 hp2 h1120 h1123 h1145)⟩, (List.forall_mem_cons.mpr ⟨⟨_, (List.mem_cons_of_mem _ (List.mem_cons_of_mem _ List.mem_cons_self)), vc_X12_look_14⟩, (fun _ h => absurd h List.not_mem_nil)⟩)⟩)⟩)) h1162.1 (List.forall_mem_cons.mpr ⟨⟨_, List.mem_cons_self, vc_X12_look_28⟩, (List.forall_mem_cons.mpr ⟨⟨_, (List.mem_cons_of_mem _ (List.mem_cons_of_mem _ List.mem_cons_self)), vc_X12_look_14⟩, (fun _ h => absurd h List.not_mem_nil)⟩)⟩)) (rW (c := 0) (d := 20) (rAdd (e := 1) (f := 20) h1116 (rR (x := 1)) rfl) rfl) h1162.2.1 h1162.2.2.1 (PK.keep I1083 hw ((mF.call mF.refl F1161 rfl) : mF [106026, 106027, 106028, 106029, 106030, 106031, 106072, 126999, 151999, 152999, 153999, 155999, 156999, 157999, 158999, 159999, 160999] w μ1075 μ1159) rfl) (vc_X12_look_38 (nS h1084) h1115 h1116 h1117)
      refine mr_lvS (lv' := [(0, .ref 106), (1, iv p1), (2, iv p2), (5, iv 0)]) (List.forall_mem_cons.mpr ⟨rfl, List.forall_mem_cons.mpr ⟨rfl, List.forall_mem_cons.mpr ⟨rfl, List.forall_mem_cons.mpr ⟨rfl, fun _ h => absurd h List.not_mem_nil⟩⟩⟩⟩) ?_
      exact L1076 22 0 μ629 T630 mF.refl mG.refl (rW (c := 0) (d := 20) (rR (x := 0)) rfl) I639 (EV.keep I68 hw ((mF.call (mF.up mF.refl (A_161 hw) u627 rfl) F631 rfl) : mF [126999, 161999] w μ63 μ629) rfl) (PK.keep I69 hw ((mF.call (mF.up mF.refl (A_161 hw) u627 rfl) F631 rfl) : mF [126999, 161999] w μ63 μ629) rfl) vc_X12_look_29
    have h1163 : 1 ≤ z623 ∧ z623 ≤ 1 := (vc_X12_look_47 h624 h622.1)
    exact mr_vret dX12_look_146 rfl (le_t rfl) (le_t rfl) T64 (mF.call mF.refl F65 rfl) ⟨(mG.call mG.refl G66 (List.forall_mem_cons.mpr ⟨⟨_, List.mem_cons_self, vc_X12_look_12⟩, (List.forall_mem_cons.mpr ⟨⟨_, (List.mem_cons_of_mem _ List.mem_cons_self), (vc_X12_look_13 hp1 hp2)⟩, (List.forall_mem_cons.mpr ⟨⟨_, (List.mem_cons_of_mem _ (List.mem_cons_of_mem _ List.mem_cons_self)), vc_X12_look_14⟩, (fun _ h => absurd h List.not_mem_nil)⟩)⟩)⟩)), I67, I68, trivial⟩
  refine mr_if_lt (pc := 13) (tgt := 91) dX12_look_13 (by decide) (r32 h3 rfl) (fun h1164 => ?_) (fun h1164 => ?_)
  · have h1165 : (-1) ≤ z1 ∧ z1 ≤ (-1) := (vc_X12_look_48 h1164 h3)
    refine sv_aload_n (pc := 91) dX12_look_91 rfl rfl ?_
    refine mr_iload_n (pc := 92) (z := p1) dX12_look_92 rfl rfl ?_
    refine mr_iload_n (pc := 93) (z := p2) dX12_look_93 rfl rfl ?_
    obtain ⟨z1166, q1167⟩ : ∃ z, μ 106 6 = z := ⟨_, rfl⟩
    have h1168 : (0 ≤ z1166 ∧ z1166 ≤ 20) := by rw [← q1167]; exact hT 106 106 (A_106 hw) 6
    refine mr_cVI (pc := 94) (c_X12_pick hw hT hp1 hp2 q1167 hIPK) (gOk _ _ _ _ _) dX12_look_94 (tX12_pick _ _ _ _ _) ⟨wV_X12_pick, wL_X12_pick⟩ wM_X12_581 (gCX12 _ _ _ _ _) rfl (A_106 hw) rfl ⟨le_t rfl, le_t rfl⟩ ⟨le_t rfl, le_t rfl⟩ rfl (le_t rfl) fun z1173 μ1169 T1170 F1171 h1172 => ?_
    refine mr_istore (pc := 97) (lv' := [(4, iv z1173), (3, iv ((10 * p1) + p2)), (0, .ref 106), (1, iv p1), (2, iv p2)]) dX12_look_97 (by decide) rfl ?_
    refine mr_iload (pc := 99) (z := z1173) dX12_look_99 rfl ?_
    refine mr_ldc (pc := 101) (z := (-99999999)) dX12_look_101 wG_X12_29 (by decide) ?_
    refine mr_icmp_ne (pc := 103) (tgt := 114) dX12_look_103 (by decide) (r32 h1172.1 rfl) (r32 (rR (x := (-99999999))) rfl) (fun h1174 => ?_) (fun h1174 => ?_)
    · have h1175 : 0 ≤ z1173 ∧ z1173 ≤ 19 := (vc_X12_look_49 h1174 h1172.2.2.1 h1172.1)
      refine sv_aload_n (pc := 114) dX12_look_114 rfl rfl ?_
      refine mr_iconst (pc := 115) (z := 4) dX12_look_115 ?_
      refine mr_iload (pc := 116) (z := z1173) dX12_look_116 rfl ?_
      refine mr_iadd (pc := 118) (x := 4) (y := z1173) dX12_look_118 ?_
      refine mr_iconst (pc := 119) (z := 3) dX12_look_119 ?_
      obtain ⟨z1176, q1177⟩ : ∃ z, μ1169 126 ((40 * (4 + z1173)).toNat) = z := ⟨_, rfl⟩
      have h1178 := rt7 T1170 (A_126 hw) (vc_X12_look_50 h1172.2.2.1 h1174 h1175) q1177
      have h1179 : (-1) ≤ z1176 ∧ z1176 ≤ 9 := h1178.2.1 (vc_X12_look_51 h1172.2.2.1 h1174 h1175)
      have h1180 : 0 ≤ z1176 := pk_use h1172.2.2.2.1 (vc_X12_look_52 h1172.2.2.1 h1174 h1175) (vc_X12_look_53 h1172.2.2.1 h1174 h1175) q1177
      have h1181 : 0 ≤ z1176 ∧ z1176 ≤ 9 := (vc_X12_look_54 h1180 h1179)
      refine mr_cVV (pc := 120) (c_X12_copy hw T1170 (rW (c := 0) (d := 2099) (rAdd (e := 4) (f := 23) (rR (x := 4)) h1175 rfl) rfl) (rW (c := 0) (d := 2099) (rR (x := 3)) rfl) q1177 (vc_X12_look_55 h1172.2.2.1 h1174 h1175)) (gOk _ _ _ _ _) dX12_look_120 (tX12_copy _ _ _ _ _) ⟨wV_X12_copy, wL_X12_copy⟩ wM_X12_559 (gCX12 _ _ _ _ _) rfl (A_106 hw) rfl ⟨le_t rfl, le_t rfl⟩ ⟨le_t rfl, le_t rfl⟩ rfl (le_t rfl) fun μ1182 T1183 F1184 h1185 => ?_
      obtain ⟨z1186, q1187, h1188⟩ := h1185
      have h1189 := rt7 T1183 (A_126 hw) vc_X12_look_56 q1187
      have h1190 : (-1) ≤ z1186 ∧ z1186 ≤ 9 := h1189.2.1 vc_X12_look_57
      have q1191 : μ1182 126 (((40 * 3) : Int).toNat) = z1176 := q1187.trans h1188.2.1
      have h1192 : 0 ≤ z1186 ∧ z1186 ≤ 9 := (vc_X12_look_58 h1188.2.1 h1180 h1181 h1190)
      refine mr_lvS (lv' := [(0, .ref 106), (1, iv p1), (2, iv p2), (3, iv ((10 * p1) + p2)), (4, iv z1173)]) (List.forall_mem_cons.mpr ⟨rfl, List.forall_mem_cons.mpr ⟨rfl, List.forall_mem_cons.mpr ⟨rfl, List.forall_mem_cons.mpr ⟨rfl, List.forall_mem_cons.mpr ⟨rfl, fun _ h => absurd h List.not_mem_nil⟩⟩⟩⟩⟩) ?_
      exact J71 z1173 μ1182 T1183 (mF.call (mF.call mF.refl F1171 rfl) F1184 rfl) (mG.call (mG.call mG.refl h1172.2.1 (List.forall_mem_cons.mpr ⟨⟨_, List.mem_cons_self, vc_X12_look_59⟩, (fun _ h => absurd h List.not_mem_nil)⟩)) h1188.1 (List.forall_mem_cons.mpr ⟨⟨_, List.mem_cons_self, vc_X12_look_60⟩, (fun _ h => absurd h List.not_mem_nil)⟩)) (rW (c := (-99999999)) (d := 19) h1175 rfl) (vc_X12_look_61 h1172.2.2.1 h1174 h1175) (G1.keep hIG1 hw ((mF.call (mF.call mF.refl F1171 rfl) F1184 rfl) : mF [106026, 106027, 106028, 106029, 106030, 106031, 126999, 151999, 152999, 153999, 165999] w μ μ1182) rfl rfl ((mG.call (mG.call mG.refl h1172.2.1 (List.forall_mem_cons.mpr ⟨⟨_, List.mem_cons_self, vc_X12_look_62⟩, (fun _ h => absurd h List.not_mem_nil)⟩)) h1188.1 (List.forall_mem_cons.mpr ⟨⟨_, (List.mem_cons_of_mem _ List.mem_cons_self), vc_X12_look_63⟩, (fun _ h => absurd h List.not_mem_nil)⟩)) : mG [(160, 960), ((40 * 3), ((40 * 3) + 40))] μ μ1182) (List.forall_mem_cons.mpr ⟨vc_X12_look_65, (List.forall_mem_cons.mpr ⟨vc_X12_look_64, (fun _ h => absurd h List.not_mem_nil)⟩)⟩)) (EV.keep hIEV hw ((mF.call (mF.call mF.refl F1171 rfl) F1184 rfl) : mF [106026, 106027, 106028, 106029, 106030, 106031, 126999, 151999, 152999, 153999, 165999] w μ μ1182) rfl) (PK.keep hIPK hw ((mF.call (mF.call mF.refl F1171 rfl) F1184 rfl) : mF [106026, 106027, 106028, 106029, 106030, 106031, 126999, 151999, 152999, 153999, 165999] w μ μ1182) rfl) (by rw [(eqIx vc_X12_look_66 q1191)]; exact (vc_X12_look_67 h1172.2.2.1 h1174 h1180 h1188.2.1 h1175 h1181 h1192))
    have h1193 : (-99999999) ≤ z1173 ∧ z1173 ≤ (-99999999) := (vc_X12_look_68 h1174 h1172.2.2.1 h1172.1)
    refine sv_aload_n (pc := 106) dX12_look_106 rfl rfl ?_
    refine mr_iconst (pc := 107) (z := 3) dX12_look_107 ?_
    refine mr_cVV (pc := 108) (c_X12_nothing hw T1170 (rW (c := 0) (d := 2099) (rR (x := 3)) rfl)) (gOk _ _ _ _ _) dX12_look_108 (tX12_nothing _ _ _ _ _) ⟨wV_X12_nothing, wL_X12_nothing⟩ wM_X12_539 (gCX12 _ _ _ _ _) rfl (A_106 hw) rfl ⟨le_t rfl, le_t rfl⟩ ⟨le_t rfl, le_t rfl⟩ rfl (le_t rfl) fun μ1194 T1195 F1196 h1197 => ?_
    obtain ⟨z1198, q1199, h1200⟩ := h1197
    have h1201 := rt7 T1195 (A_126 hw) vc_X12_look_56 q1199
    have h1202 : (-1) ≤ z1198 ∧ z1198 ≤ 9 := h1201.2.1 vc_X12_look_57
    have q1203 : μ1194 126 (((40 * 3) : Int).toNat) = (-1) := q1199.trans h1200.2.1
    have h1204 : (-1) ≤ z1198 ∧ z1198 ≤ (-1) := (vc_X12_look_69 h1200.2.1 h1202)
    refine sv_goto (pc := 111) (tgt := 123) dX12_look_111 (by decide) ?_
    refine mr_lvS (lv' := [(0, .ref 106), (1, iv p1), (2, iv p2), (3, iv ((10 * p1) + p2)), (4, iv z1173)]) (List.forall_mem_cons.mpr ⟨rfl, List.forall_mem_cons.mpr ⟨rfl, List.forall_mem_cons.mpr ⟨rfl, List.forall_mem_cons.mpr ⟨rfl, List.forall_mem_cons.mpr ⟨rfl, fun _ h => absurd h List.not_mem_nil⟩⟩⟩⟩⟩) ?_
    exact J71 z1173 μ1194 T1195 (mF.call (mF.call mF.refl F1171 rfl) F1196 rfl) (mG.call (mG.call mG.refl h1172.2.1 (List.forall_mem_cons.mpr ⟨⟨_, List.mem_cons_self, vc_X12_look_59⟩, (fun _ h => absurd h List.not_mem_nil)⟩)) h1200.1 (List.forall_mem_cons.mpr ⟨⟨_, List.mem_cons_self, vc_X12_look_70⟩, (fun _ h => absurd h List.not_mem_nil)⟩)) (rW (c := (-99999999)) (d := 19) h1193 rfl) (vc_X12_look_71 h1172.2.2.1 h1174 h1193) (G1.keep hIG1 hw ((mF.call (mF.call mF.refl F1171 rfl) F1196 rfl) : mF [106026, 106027, 106028, 106029, 106030, 106031, 126999, 151999, 152999, 153999, 165999] w μ μ1194) rfl rfl ((mG.call (mG.call mG.refl h1172.2.1 (List.forall_mem_cons.mpr ⟨⟨_, List.mem_cons_self, vc_X12_look_62⟩, (fun _ h => absurd h List.not_mem_nil)⟩)) h1200.1 (List.forall_mem_cons.mpr ⟨⟨_, (List.mem_cons_of_mem _ List.mem_cons_self), vc_X12_look_72⟩, (fun _ h => absurd h List.not_mem_nil)⟩)) : mG [(160, 960), ((40 * 3), ((40 * 3) + 1))] μ μ1194) (List.forall_mem_cons.mpr ⟨vc_X12_look_65, (List.forall_mem_cons.mpr ⟨vc_X12_look_73, (fun _ h => absurd h List.not_mem_nil)⟩)⟩)) (EV.keep hIEV hw ((mF.call (mF.call mF.refl F1171 rfl) F1196 rfl) : mF [106026, 106027, 106028, 106029, 106030, 106031, 126999, 151999, 152999, 153999, 165999] w μ μ1194) rfl) (PK.keep hIPK hw ((mF.call (mF.call mF.refl F1171 rfl) F1196 rfl) : mF [106026, 106027, 106028, 106029, 106030, 106031, 126999, 151999, 152999, 153999, 165999] w μ μ1194) rfl) (by rw [(eqIx vc_X12_look_66 q1203)]; exact (vc_X12_look_74 h1172.2.2.1 h1174 h1193))
  have h1205 : 0 ≤ z1 ∧ z1 ≤ 2 := (vc_X12_look_75 h1164 h3)
  refine mr_bipush (pc := 16) (z := (-4)) dX12_look_16 (by decide) ?_
  refine mr_istore (pc := 18) (lv' := [(4, iv (-4)), (3, iv ((10 * p1) + p2)), (0, .ref 106), (1, iv p1), (2, iv p2)]) dX12_look_18 (by decide) rfl ?_
  refine mr_bipush (pc := 20) (z := 120) dX12_look_20 (by decide) ?_
  refine mr_istore (pc := 22) (lv' := [(5, iv 120), (4, iv (-4)), (3, iv ((10 * p1) + p2)), (0, .ref 106), (1, iv p1), (2, iv p2)]) dX12_look_22 (by decide) rfl ?_
  refine sv_aload_n (pc := 24) dX12_look_24 rfl rfl ?_
  refine gf_X12_32 (pc := 25) dX12_look_25 wF_X12_148 (A_106 hw) hT ?_
  refine mr_iload (pc := 28) (z := 120) dX12_look_28 rfl ?_
  refine mr_iload_n (pc := 30) (z := p2) dX12_look_30 rfl rfl ?_
  refine ss_126 (pc := 31) dX12_look_31 (A_126 hw) hT (rIx (n := 84000) (rR (x := 120)) rfl) (vc_X12_look_76 hp2) fun μ1206 u1207 T1208 => ?_
  refine sv_aload_n (pc := 32) dX12_look_32 rfl rfl ?_
  refine gf_X12_32 (pc := 33) dX12_look_33 wF_X12_148 (A_106 hw) T1208 ?_
  refine mr_iload (pc := 36) (z := 120) dX12_look_36 rfl ?_
  refine mr_iconst (pc := 38) (z := 1) dX12_look_38 ?_
  refine mr_iadd (pc := 39) (x := 120) (y := 1) dX12_look_39 ?_
  refine mr_bipush (pc := 40) (z := 100) dX12_look_40 (by decide) ?_
  refine ss_126 (pc := 42) dX12_look_42 (A_126 hw) T1208 (rIx (n := 84000) (rAdd (e := 121) (f := 121) (rR (x := 120)) (rR (x := 1)) rfl) rfl) vc_X12_look_77 fun μ1209 u1210 T1211 => ?_
  refine sv_aload_n (pc := 43) dX12_look_43 rfl rfl ?_
  refine gf_X12_32 (pc := 44) dX12_look_44 wF_X12_148 (A_106 hw) T1211 ?_
  refine mr_iload (pc := 47) (z := 120) dX12_look_47 rfl ?_
  refine mr_iconst (pc := 49) (z := 2) dX12_look_49 ?_
  refine mr_iadd (pc := 50) (x := 120) (y := 2) dX12_look_50 ?_
  refine sv_aload_n (pc := 51) dX12_look_51 rfl rfl ?_
  refine gf_X12_82 (pc := 52) dX12_look_52 wF_X12_448 (A_106 hw) T1211 ?_
  refine mr_iload_n (pc := 55) (z := ((10 * p1) + p2)) dX12_look_55 rfl rfl ?_
  refine lk_162 (pc := 56) dX12_look_56 (A_162 hw) (rIx (n := 100) (rAdd (e := 0) (f := 99) (rMulL (n := 10) (e := 0) (f := 90) hp1 rfl) hp2 rfl) rfl) (u1210.f (Or.inl (mAt.ne (A_126 hw) (A_162 hw) rfl)) (u1207.f (Or.inl (mAt.ne (A_126 hw) (A_162 hw) rfl)) q2)) ?_
  refine ss_126 (pc := 57) dX12_look_57 (A_126 hw) T1211 (rIx (n := 84000) (rAdd (e := 122) (f := 122) (rR (x := 120)) (rR (x := 2)) rfl) rfl) (vc_X12_look_78 h1164 h1205) fun μ1212 u1213 T1214 => ?_
  refine sv_aload_n (pc := 58) dX12_look_58 rfl rfl ?_
  refine gf_X12_32 (pc := 59) dX12_look_59 wF_X12_148 (A_106 hw) T1214 ?_
  refine mr_iload (pc := 62) (z := 120) dX12_look_62 rfl ?_
  refine mr_iconst (pc := 64) (z := 3) dX12_look_64 ?_
  refine mr_iadd (pc := 65) (x := 120) (y := 3) dX12_look_65 ?_
  refine mr_iconst (pc := 66) (z := 0) dX12_look_66 ?_
  refine ss_126 (pc := 67) dX12_look_67 (A_126 hw) T1214 (rIx (n := 84000) (rAdd (e := 123) (f := 123) (rR (x := 120)) (rR (x := 3)) rfl) rfl) vc_X12_look_79 fun μ1215 u1216 T1217 => ?_
  refine sv_aload_n (pc := 68) dX12_look_68 rfl rfl ?_
  refine gf_X12_32 (pc := 69) dX12_look_69 wF_X12_148 (A_106 hw) T1217 ?_
  refine mr_iload (pc := 72) (z := 120) dX12_look_72 rfl ?_
  refine mr_iconst (pc := 74) (z := 4) dX12_look_74 ?_
  refine mr_iadd (pc := 75) (x := 120) (y := 4) dX12_look_75 ?_
  refine mr_iconst (pc := 76) (z := 0) dX12_look_76 ?_
  refine ss_126 (pc := 77) dX12_look_77 (A_126 hw) T1217 (rIx (n := 84000) (rAdd (e := 124) (f := 124) (rR (x := 120)) (rR (x := 4)) rfl) rfl) vc_X12_look_80 fun μ1218 u1219 T1220 => ?_
  refine sv_aload_n (pc := 78) dX12_look_78 rfl rfl ?_
  refine gf_X12_32 (pc := 79) dX12_look_79 wF_X12_148 (A_106 hw) T1220 ?_
  refine mr_iload (pc := 82) (z := 120) dX12_look_82 rfl ?_
  refine mr_iconst (pc := 84) (z := 5) dX12_look_84 ?_
  refine mr_iadd (pc := 85) (x := 120) (y := 5) dX12_look_85 ?_
  refine mr_iconst (pc := 86) (z := 0) dX12_look_86 ?_
  refine ss_126 (pc := 87) dX12_look_87 (A_126 hw) T1220 (rIx (n := 84000) (rAdd (e := 125) (f := 125) (rR (x := 120)) (rR (x := 5)) rfl) rfl) vc_X12_look_81 fun μ1221 u1222 T1223 => ?_
  refine sv_goto (pc := 88) (tgt := 123) dX12_look_88 (by decide) ?_
  refine mr_lvS (lv' := [(0, .ref 106), (1, iv p1), (2, iv p2), (3, iv ((10 * p1) + p2)), (4, iv (-4))]) (List.forall_mem_cons.mpr ⟨rfl, List.forall_mem_cons.mpr ⟨rfl, List.forall_mem_cons.mpr ⟨rfl, List.forall_mem_cons.mpr ⟨rfl, List.forall_mem_cons.mpr ⟨rfl, fun _ h => absurd h List.not_mem_nil⟩⟩⟩⟩⟩) ?_
  exact J71 (-4) μ1221 T1223 (mF.up (mF.up (mF.up (mF.up (mF.up (mF.up mF.refl (A_126 hw) u1207 rfl) (A_126 hw) u1210 rfl) (A_126 hw) u1213 rfl) (A_126 hw) u1216 rfl) (A_126 hw) u1219 rfl) (A_126 hw) u1222 rfl) (mG.up (mG.up (mG.up (mG.up (mG.up (mG.up mG.refl u1207 List.mem_cons_self vc_X12_look_82) u1210 List.mem_cons_self vc_X12_look_83) u1213 List.mem_cons_self vc_X12_look_84) u1216 List.mem_cons_self vc_X12_look_85) u1219 List.mem_cons_self vc_X12_look_86) u1222 List.mem_cons_self vc_X12_look_87) (rW (c := (-99999999)) (d := 19) (rR (x := (-4))) rfl) vc_X12_look_88 (G1.keep hIG1 hw ((mF.up (mF.up (mF.up (mF.up (mF.up (mF.up mF.refl (A_126 hw) u1207 rfl) (A_126 hw) u1210 rfl) (A_126 hw) u1213 rfl) (A_126 hw) u1216 rfl) (A_126 hw) u1219 rfl) (A_126 hw) u1222 rfl) : mF [126999] w μ μ1221) rfl rfl ((mG.up (mG.up (mG.up (mG.up (mG.up (mG.up mG.refl u1207 List.mem_cons_self vc_X12_look_89) u1210 (List.mem_cons_of_mem _ List.mem_cons_self) vc_X12_look_90) u1213 (List.mem_cons_of_mem _ (List.mem_cons_of_mem _ List.mem_cons_self)) vc_X12_look_91) u1216 (List.mem_cons_of_mem _ (List.mem_cons_of_mem _ (List.mem_cons_of_mem _ List.mem_cons_self))) vc_X12_look_92) u1219 (List.mem_cons_of_mem _ (List.mem_cons_of_mem _ (List.mem_cons_of_mem _ (List.mem_cons_of_mem _ List.mem_cons_self)))) vc_X12_look_93) u1222 (List.mem_cons_of_mem _ (List.mem_cons_of_mem _ (List.mem_cons_of_mem _ (List.mem_cons_of_mem _ (List.mem_cons_of_mem _ List.mem_cons_self))))) vc_X12_look_94) : mG [(120, (120 + 1)), ((120 + 1), ((120 + 1) + 1)), ((120 + 2), ((120 + 2) + 1)), ((120 + 3), ((120 + 3) + 1)), ((120 + 4), ((120 + 4) + 1)), ((120 + 5), ((120 + 5) + 1))] μ μ1221) (List.forall_mem_cons.mpr ⟨vc_X12_look_100, (List.forall_mem_cons.mpr ⟨vc_X12_look_99, (List.forall_mem_cons.mpr ⟨vc_X12_look_98, (List.forall_mem_cons.mpr ⟨vc_X12_look_97, (List.forall_mem_cons.mpr ⟨vc_X12_look_96, (List.forall_mem_cons.mpr ⟨vc_X12_look_95, (fun _ h => absurd h List.not_mem_nil)⟩)⟩)⟩)⟩)⟩)⟩)) (EV.keep hIEV hw ((mF.up (mF.up (mF.up (mF.up (mF.up (mF.up mF.refl (A_126 hw) u1207 rfl) (A_126 hw) u1210 rfl) (A_126 hw) u1213 rfl) (A_126 hw) u1216 rfl) (A_126 hw) u1219 rfl) (A_126 hw) u1222 rfl) : mF [126999] w μ μ1221) rfl) (PK.keep hIPK hw ((mF.up (mF.up (mF.up (mF.up (mF.up (mF.up mF.refl (A_126 hw) u1207 rfl) (A_126 hw) u1210 rfl) (A_126 hw) u1213 rfl) (A_126 hw) u1216 rfl) (A_126 hw) u1219 rfl) (A_126 hw) u1222 rfl) : mF [126999] w μ μ1221) rfl) (by rw [(u1222.f (Or.inr vc_X12_look_105) (u1219.f (Or.inr vc_X12_look_104) (u1216.f (Or.inr vc_X12_look_103) (u1213.f (Or.inr vc_X12_look_102) (u1210.f (Or.inr vc_X12_look_101) u1207.1)))))]; exact (vc_X12_look_106 hp2))
