set_option maxRecDepth 4000 in
set_option maxHeartbeats 4000000 in
theorem cx_X12_candidate {l : Launch} {D : va_G} {c : Nat → ClassId} {H0 : Heap} {sa : Nat × Nat × (Nat → Int32)} {w : mW} {μ : mM} {K : (Nat → Int) → (Nat → Int) → Prop} {W S : Nat → Nat → Prop} (hw : mWF w) (hT : mT w μ) {p1 : Int} (hp1 : 0 ≤ p1 ∧ p1 ≤ 9) {p2 : Int} (hp2 : 0 ≤ p2 ∧ p2 ≤ 19) {p3 : Int} (hp3 : 0 ≤ p3 ∧ p3 ≤ 9) {f_e0 : Int} (q_f_e0 : μ 110 ((2 * p2).toNat) = f_e0) {f_e1 : Int} (q_f_e1 : μ 110 (((2 * p2) + 1).toNat) = f_e1) {f_ties : Int} (q_f_ties : μ 106 6 = f_ties) (hq0 : p2 < f_ties) (hq1 : f_e0 = p1 ∨ f_e1 = p1) (hIPK : PK μ) {sd : Int} (hsd : (f_e0 = p1 → sd = 0) ∧ (¬ f_e0 = p1 → sd = 1)) {x : Int} (q_x : μ 126 ((40 * (130 + ((2 * p2 + sd) * 10 + p3))).toNat) = x) {f_pol : Int} (q_pol : μ 106 39 = f_pol) (hH : ∀ i : Nat, 40 * (130 + ((2 * p2 + sd) * 10 + p3)) ≤ (i : Int) → (i : Int) < 40 * (130 + ((2 * p2 + sd) * 10 + p3)) + 40 → S 126 i) (hW : ∀ i : Nat, 40 * (4 + p2) ≤ (i : Int) → (i : Int) < 40 * (4 + p2) + 40 → W 126 i) (hK : ∀ γ f, K γ f → p2 < f 6) (h110 : ∀ i : Nat, (i : Int) ≤ 2 * p2 + 1 → S 110 i) (h111 : ∀ i : Nat, (i : Int) ≤ p2 → S 111 i) (h112 : S 112 p2.toNat) (h115 : S 115 (4 * p2 + 2 * sd).toNat) (h127 : ∀ i : Nat, (i : Int) < f_pol → S 127 i ∧ S 142 i) (h128 : ∀ i : Nat, (i : Int) < 31 * f_pol → S 128 i ∧ S 129 i) (h132 : ∀ a i : Nat, 132 ≤ a → a ≤ 141 → (i : Int) < 300 * f_pol → S a i) (h143 : ∀ i : Nat, (i : Int) < 41 * f_pol → S 143 i ∧ S 144 i) (hx : S 108 x.toNat ∧ S 109 x.toNat) (h17 : S 106 17) (hG : ∀ a i : Nat, 151 ≤ a → a ≤ 153 → W a i) (hN : ∀ i : Nat, 26 ≤ i → i ≤ 31 → ¬ S 106 i) (hJ : ∀ (S' : Nat → Nat → Prop) (μ' : mM) (n z : Int), (∀ a i, S a i → S' a i) → (∀ i : Nat, 26 ≤ i → i ≤ 31 → ¬ S' 106 i) → mT w μ' → mF [106026, 106027, 106028, 106029, 106030, 106031, 126999, 151999, 152999, 153999] w μ μ' → (-2147483648 ≤ n ∧ n ≤ 2147483647) → μ' 106 17 = z → (0 ≤ x ∧ x ≤ 9) → VC l D c H0 sa K W S' S' mX12_judged 4 [.ref 106, iv x, iv n, iv z, iv z] μ' (xqI w [106026, 106027, 106028, 106029, 106030, 106031] μ' (fun z _ => (0 ≤ z ∧ z ≤ 2) ∧ True))) : VC l D c H0 sa K W S (Sins S 126 (40 * (4 + p2)).toNat) mX12_candidate 7 [.ref 106, iv p1, iv p2, iv p3] μ (xqI w [106026, 106027, 106028, 106029, 106030, 106031, 126999, 151999, 152999, 153999] μ (fun z μ1 => ((-99999999) ≤ z ∧ z ≤ 10) ∧ mG [(((40 * p2) + 160), ((40 * p2) + 200))] μ μ1 ∧ (z = 0 → 0 ≤ μ1 126 (40 * (4 + p2)).toNat) ∧ (μ1 126 (40 * (4 + p2)).toNat < 0 ∨ μ1 126 (40 * (4 + p2)).toNat = x))) := by
  refine VC.of rfl (by decide) (le_t rfl) ?_
  have ht_f_e0 : (0 ≤ f_e0 ∧ f_e0 ≤ 9) := by rw [← q_f_e0]; exact hT 110 110 (A_110 hw) ((2 * p2).toNat)
  have ht_f_e1 : (0 ≤ f_e1 ∧ f_e1 ≤ 9) := by rw [← q_f_e1]; exact hT 110 110 (A_110 hw) (((2 * p2) + 1).toNat)
  have ht_f_ties : (0 ≤ f_ties ∧ f_ties ≤ 20) := by rw [← q_f_ties]; exact hT 106 106 (A_106 hw) 6
  have h1 : 1 ≤ f_ties ∧ f_ties ≤ 20 := (vc_X12_candidate_1 hq0 ht_f_ties hp2)
  refine xmr_lvE (lv' := [(0, .ref 106), (1, iv p1), (2, iv p2), (3, iv p3)]) rfl ?_
  refine xsv_aload_n (pc := 0) dX12_candidate_0 rfl rfl ?_
  refine xmr_iload_n (pc := 1) (z := p2) dX12_candidate_1 rfl rfl ?_
  refine xmr_iload_n (pc := 2) (z := p1) dX12_candidate_2 rfl rfl ?_
  refine xmr_cVP (pc := 3) (cx_X12_sideOf hw hT hp2 (rW (c := (-2147483648)) (d := 2147483647) hp1 rfl) q_f_e0 h110) (gOk _ _ _ _ _) dX12_candidate_3 (tX12_sideOf _ _ _ _ _) ⟨wV_X12_sideOf, wL_X12_sideOf⟩ wM_X12_542 (gCX12 _ _ _ _ _) rfl (A_106 hw) rfl ⟨le_t rfl, le_t rfl⟩ ⟨le_t rfl, le_t rfl⟩ rfl (le_t rfl) fun z297 h296 => ?_
  refine xmr_istore (pc := 6) (lv' := [(4, iv z297), (0, .ref 106), (1, iv p1), (2, iv p2), (3, iv p3)]) dX12_candidate_6 (by decide) rfl ?_
  refine xsv_aload_n (pc := 8) dX12_candidate_8 rfl rfl ?_
  refine xmr_iconst (pc := 9) (z := 4) dX12_candidate_9 ?_
  refine xmr_iload_n (pc := 10) (z := p2) dX12_candidate_10 rfl rfl ?_
  refine xmr_iadd (pc := 11) (x := 4) (y := p2) dX12_candidate_11 ?_
  refine xmr_cVV (pc := 12) (cx_X12_nothing hw hT (rW (c := 0) (d := 2099) (rAdd (e := 4) (f := 23) (rR (x := 4)) hp2 rfl) rfl) hW) (gOk _ _ _ _ _) dX12_candidate_12 (tX12_nothing _ _ _ _ _) ⟨wV_X12_nothing, wL_X12_nothing⟩ wM_X12_539 (gCX12 _ _ _ _ _) rfl (A_106 hw) rfl ⟨le_t rfl, le_t rfl⟩ ⟨le_t rfl, le_t rfl⟩ rfl (le_t rfl) fun μ298 T299 F300 h301 => ?_
  obtain ⟨z302, q303, h304⟩ := h301
  have h305 := rt7 T299 (A_126 hw) (vc_X12_candidate_2 hq0 h1 hp2) q303
  have h306 : (-1) ≤ z302 ∧ z302 ≤ 9 := h305.2.1 (vc_X12_candidate_3 hq0 h1 hp2)
  have q307 : μ298 126 ((40 * (4 + p2)).toNat) = (-1) := q303.trans h304.2.1
  have h308 : (-1) ≤ z302 ∧ z302 ≤ (-1) := (vc_X12_candidate_4 h304.2.1 h306)
  refine xmr_sipush (pc := 15) (z := 130) dX12_candidate_15 (by decide) ?_
  refine xmr_iload_n (pc := 18) (z := p2) dX12_candidate_18 rfl rfl ?_
  refine xmr_iload (pc := 19) (z := z297) dX12_candidate_19 rfl ?_
  refine xmr_iload_n (pc := 21) (z := p3) dX12_candidate_21 rfl rfl ?_
  refine xmr_cSP (pc := 22) (cx_X12_slot hw T299 (rW (c := 0) (d := 20) hp2 rfl) (rW (c := 0) (d := 2) h296.1 rfl) hp3) (gOk _ _ _ _ _) dX12_candidate_22 (tX12_slot _ _ _ _ _) wS_X12_slot wM_X12_545 ⟨le_t rfl, le_t rfl⟩ ⟨le_t rfl, le_t rfl⟩ rfl (le_t rfl) fun z313 h312 => ?_
  have h314 : 0 ≤ z313 ∧ z313 ≤ 399 := (vc_X12_candidate_5 h312.2.1 hq0 h296.2.1 h296.2.2.1 ht_f_e0 h1 hp1 hp2 hp3 h296.1 h312.1)
  refine xmr_iadd (pc := 25) (x := 130) (y := z313) dX12_candidate_25 ?_
  refine xmr_istore (pc := 26) (lv' := [(5, iv (130 + z313)), (4, iv z297), (0, .ref 106), (1, iv p1), (2, iv p2), (3, iv p3)]) dX12_candidate_26 (by decide) rfl ?_
  refine xsv_aload_n (pc := 28) dX12_candidate_28 rfl rfl ?_
  refine xgf_X12_9 (pc := 29) dX12_candidate_29 wF_X12_53 (A_106 hw) T299 ?_
  refine xmr_iload_n (pc := 32) (z := p2) dX12_candidate_32 rfl rfl ?_
  refine xla_112 (hS := Or.inl h112) (pc := 33) dX12_candidate_33 (A_112 hw) T299 (rIx (n := 20) hp2 rfl) fun z315 q316 h317 => ?_
  refine xmr_if_eq (pc := 34) (tgt := 46) dX12_candidate_34 (by decide) (r32 h317 rfl) (fun h318 => ?_) (fun h318 => ?_)
  · have h319 : 0 ≤ z315 ∧ z315 ≤ 0 := (vc_X12_candidate_6 h318 h317)
    refine xmr_ldc (pc := 46) (z := (-99999999)) dX12_candidate_46 wG_X12_29 (by decide) ?_
    exact xmr_iret dX12_candidate_48 rfl (le_t rfl) (le_t rfl) T299 (mF.call mF.refl F300 rfl) ⟨(rW (c := (-99999999)) (d := 10) (rR (x := (-99999999))) rfl), (mG.call mG.refl h304.1 (List.forall_mem_cons.mpr ⟨⟨_, List.mem_cons_self, (vc_X12_candidate_7 hq0 h312.2.1 h296.2.1 h296.2.2.1 ht_f_e0 h1 hp1 hp2 hp3 h296.1 h314)⟩, (fun _ h => absurd h List.not_mem_nil)⟩)), fun h => absurd h (by decide), Or.inl (by rw [q307]; decide)⟩
  have h320 : 1 ≤ z315 ∧ z315 ≤ 1 := (vc_X12_candidate_8 h318 h317)
  refine xsv_aload_n (pc := 37) dX12_candidate_37 rfl rfl ?_
  refine xmr_iload (pc := 38) (z := (130 + z313)) dX12_candidate_38 rfl ?_
  obtain ⟨z321, q322⟩ : ∃ z, μ298 126 ((40 * (130 + z313)).toNat) = z := ⟨_, rfl⟩
  have h323 := rt7 T299 (A_126 hw) (vc_X12_candidate_9 h312.2.1 hq0 h296.2.1 h296.2.2.1 ht_f_e0 h1 hp1 hp2 hp3 h296.1 h314) q322
  have h324 : (-1) ≤ z321 ∧ z321 ≤ 9 := h323.2.1 (vc_X12_candidate_10 h312.2.1 hq0 h296.2.1 h296.2.2.1 ht_f_e0 h1 hp1 hp2 hp3 h296.1 h314)
  have ex : z321 = x := q322.symm.trans (mG.f h304.1 (by omega) (List.forall_mem_cons.mpr ⟨Or.inr (show (40 * (4 + p2)) + 1 ≤ 40 * (130 + z313) by omega), fun _ h => absurd h List.not_mem_nil⟩) (by rw [show (40 * (130 + z313)) = 40 * (130 + ((2 * p2 + sd) * 10 + p3)) by omega]; exact q_x))
  have hH2 : ∀ i : Nat, 40 * (130 + z313) ≤ (i : Int) → (i : Int) < 40 * (130 + z313) + 40 → Sins S 126 (40 * (4 + p2)).toNat 126 i := fun i a b => Or.inl (hH i (by omega) (by omega))
  refine xmr_cVP (pc := 40) (cx_X12_isThere hw T299 (rW (c := 0) (d := 2099) (rAdd (e := 130) (f := 529) (rR (x := 130)) h314 rfl) rfl) q322 hH2) (gOk _ _ _ _ _) dX12_candidate_40 (tX12_isThere _ _ _ _ _) ⟨wV_X12_isThere, wL_X12_isThere⟩ wM_X12_151 (gCX12 _ _ _ _ _) rfl (A_106 hw) rfl ⟨le_t rfl, le_t rfl⟩ ⟨le_t rfl, le_t rfl⟩ rfl (le_t rfl) fun z329 h328 => ?_
  refine xmr_if_ne (pc := 43) (tgt := 49) dX12_candidate_43 (by decide) (r32 h328.1 rfl) (fun h330 => ?_) (fun h330 => ?_)
  · have h331 : 1 ≤ z329 ∧ z329 ≤ 1 := (vc_X12_candidate_11 h330 h328.2.1 h328.2.2.1 h324 h328.1)
    have h332 : 0 ≤ z321 := (h328.2.1 (vc_X12_candidate_12 h328.2.1 h328.2.2.1 h330 h324 h331))
    have h333 : 0 ≤ z321 ∧ z321 ≤ 9 := (vc_X12_candidate_13 h332 h328.2.1 h328.2.2.1 h324 h331)
    refine xsv_aload_n (pc := 49) dX12_candidate_49 rfl rfl ?_
    refine xmr_iload (pc := 50) (z := (130 + z313)) dX12_candidate_50 rfl ?_
    refine xmr_iload_n (pc := 52) (z := p1) dX12_candidate_52 rfl rfl ?_
    refine xmr_cVP (pc := 53) (cx_X12_isIn hw T299 (rW (c := 0) (d := 2099) (rAdd (e := 130) (f := 529) (rR (x := 130)) h314 rfl) rfl) (rW (c := (-2147483648)) (d := 2147483647) hp1 rfl) hH2) (gOk _ _ _ _ _) dX12_candidate_53 (tX12_isIn _ _ _ _ _) ⟨wV_X12_isIn, wL_X12_isIn⟩ wM_X12_556 (gCX12 _ _ _ _ _) rfl (A_106 hw) rfl ⟨le_t rfl, le_t rfl⟩ ⟨le_t rfl, le_t rfl⟩ rfl (le_t rfl) fun z338 h337 => ?_
    refine xmr_if_eq (pc := 56) (tgt := 62) dX12_candidate_56 (by decide) (r32 h337.1 rfl) (fun h339 => ?_) (fun h339 => ?_)
    · have h340 : 0 ≤ z338 ∧ z338 ≤ 0 := (vc_X12_candidate_14 h339 h337.1)
      refine xsv_aload_n (pc := 62) dX12_candidate_62 rfl rfl ?_
      refine xmr_iload (pc := 63) (z := (130 + z313)) dX12_candidate_63 rfl ?_
      refine xmr_iconst (pc := 65) (z := 4) dX12_candidate_65 ?_
      refine xmr_iload_n (pc := 66) (z := p2) dX12_candidate_66 rfl rfl ?_
      refine xmr_iadd (pc := 67) (x := 4) (y := p2) dX12_candidate_67 ?_
      refine xmr_cVV (pc := 68) (cx_X12_copy hw T299 (rW (c := 0) (d := 2099) (rAdd (e := 130) (f := 529) (rR (x := 130)) h314 rfl) rfl) (rW (c := 0) (d := 2099) (rAdd (e := 4) (f := 23) (rR (x := 4)) hp2 rfl) rfl) q322 (vc_X12_candidate_15 hq0 h312.2.1 h296.2.1 h296.2.2.1 ht_f_e0 h1 hp1 hp2 hp3 h296.1 h314) hH2 hW) (gOk _ _ _ _ _) dX12_candidate_68 (tX12_copy _ _ _ _ _) ⟨wV_X12_copy, wL_X12_copy⟩ wM_X12_559 (gCX12 _ _ _ _ _) rfl (A_106 hw) rfl ⟨le_t rfl, le_t rfl⟩ ⟨le_t rfl, le_t rfl⟩ rfl (le_t rfl) fun μ341 T342 F343 h344 => ?_
      obtain ⟨z345, q346, h347⟩ := h344
      have h348 := rt7 T342 (A_126 hw) (vc_X12_candidate_16 hq0 h312.2.1 h296.2.1 h296.2.2.1 ht_f_e0 h1 hp1 hp2 hp3 h296.1 h314) q346
      have h349 : (-1) ≤ z345 ∧ z345 ≤ 9 := h348.2.1 (vc_X12_candidate_17 hq0 h312.2.1 h296.2.1 h296.2.2.1 ht_f_e0 h1 hp1 hp2 hp3 h296.1 h314)
      have q350 : μ341 126 ((40 * (4 + p2)).toNat) = z321 := q346.trans h347.2.1
      have h351 : 0 ≤ z345 ∧ z345 ≤ 9 := (vc_X12_candidate_18 h347.2.1 h328.2.1 h328.2.2.1 h332 h333 h331 h349)
      refine xsv_aload_n (pc := 71) dX12_candidate_71 rfl rfl ?_
      refine xsv_aload_n (pc := 72) dX12_candidate_72 rfl rfl ?_
      refine xgf_X12_12 (pc := 73) dX12_candidate_73 wF_X12_63 (A_106 hw) T342 ?_
      refine xmr_iconst (pc := 76) (z := 4) dX12_candidate_76 ?_
      refine xmr_iload_n (pc := 77) (z := p2) dX12_candidate_77 rfl rfl ?_
      refine xmr_imul (pc := 78) (x := 4) (y := p2) dX12_candidate_78 ?_
      refine xmr_iconst (pc := 79) (z := 2) dX12_candidate_79 ?_
      refine xmr_iload (pc := 80) (z := z297) dX12_candidate_80 rfl ?_
      refine xmr_imul (pc := 82) (x := 2) (y := z297) dX12_candidate_82 ?_
      refine xmr_iadd (pc := 83) (x := (4 * p2)) (y := (2 * z297)) dX12_candidate_83 ?_
      refine xla_115 (hS := (by rw [show z297 = sd by omega]; exact Or.inl (Or.inl h115))) (pc := 84) dX12_candidate_84 (A_115 hw) T342 (rIx (n := 80) (rAdd (e := 0) (f := 78) (rMulL (n := 4) (e := 0) (f := 76) hp2 rfl) (rMulL (n := 2) (e := 0) (f := 2) h296.1 rfl) rfl) rfl) fun z352 q353 h354 => ?_
      have h355 : (-99999999) ≤ z352 ∧ z352 ≤ 11 := (vc_X12_candidate_19 h354)
      obtain ⟨z356, q357⟩ : ∃ z, μ341 106 39 = z := ⟨_, rfl⟩
      have h358 : (0 ≤ z356 ∧ z356 ≤ 12) := by rw [← q357]; exact T342 106 106 (A_106 hw) 39
      have h359 : z352 = -99999999 ∨ (0 ≤ z352 ∧ z352 < z356) := PK.pol (PK.keep hIPK hw ((mF.call (mF.call mF.refl F300 rfl) F343 rfl) : mF [126999] w μ μ341) rfl) (rIx (n := 80) (rAdd (e := 0) (f := 78) (rMulL (n := 4) (e := 0) (f := 76) hp2 rfl) (rMulL (n := 2) (e := 0) (f := 2) h296.1 rfl) rfl) rfl) q353 q357 (F343.f (A_106 hw) rfl (F300.f (A_106 hw) rfl q_f_ties)) (vc_X12_candidate_20 hq0 h296.2.1 h296.2.2.1 h312.2.1 hq1 ht_f_e0 ht_f_e1 h1 hp1 hp2 hp3 h296.1 h314)
      have ep : z356 = f_pol := q357.symm.trans (F343.f (A_106 hw) rfl (F300.f (A_106 hw) rfl q_pol))
      refine xmr_iconst (pc := 85) (z := 4) dX12_candidate_85 ?_
      refine xmr_iload_n (pc := 86) (z := p2) dX12_candidate_86 rfl rfl ?_
      refine xmr_iadd (pc := 87) (x := 4) (y := p2) dX12_candidate_87 ?_
      refine xmr_iload_n (pc := 88) (z := p1) dX12_candidate_88 rfl rfl ?_
      refine xsv_aload_n (pc := 89) dX12_candidate_89 rfl rfl ?_
      refine xmr_iload_n (pc := 90) (z := p2) dX12_candidate_90 rfl rfl ?_
      refine xmr_iload_n (pc := 91) (z := p1) dX12_candidate_91 rfl rfl ?_
      refine xmr_cVP (pc := 92) (cx_X12_partnerOf_pt hw T342 hp2 (rW (c := (-2147483648)) (d := 2147483647) hp1 rfl) (F343.f (A_110 hw) rfl (F300.f (A_110 hw) rfl q_f_e0)) (F343.f (A_110 hw) rfl (F300.f (A_110 hw) rfl q_f_e1)) (fun i a => Or.inl (Or.inl (h110 i a)))) (gOk _ _ _ _ _) dX12_candidate_92 (tX12_partnerOf _ _ _ _ _) ⟨wV_X12_partnerOf, wL_X12_partnerOf⟩ wM_X12_553 (gCX12 _ _ _ _ _) rfl (A_106 hw) rfl ⟨le_t rfl, le_t rfl⟩ ⟨le_t rfl, le_t rfl⟩ rfl (le_t rfl) fun z364 h363 => ?_
      refine xmr_cVI (pc := 95) (cx_X12_through hw T342 (rW (c := (-2147483648)) (d := 2147483647) h355 rfl) (rW (c := 0) (d := 2099) (rAdd (e := 4) (f := 23) (rR (x := 4)) hp2 rfl) rfl) (rW (c := (-2147483648)) (d := 2147483647) hp1 rfl) (rW (c := (-2147483648)) (d := 2147483647) h363.1 rfl) hp2 (F343.f (A_110 hw) rfl (F300.f (A_110 hw) rfl q_f_e0)) (F343.f (A_110 hw) rfl (F300.f (A_110 hw) rfl q_f_e1)) (F343.f (A_106 hw) rfl (F300.f (A_106 hw) rfl q_f_ties)) q350 q357 (vc_X12_candidate_21 hq0 h312.2.1 h296.2.1 h296.2.2.1 ht_f_e0 h1 hp1 hp2 hp3 h296.1 h314) (vc_X12_candidate_22 hq1 h296.2.1 h296.2.2.1 h363.2.1 h312.2.1 ht_f_e0 ht_f_e1 hp1 hp2 hp3 h296.1 h314 h363.1) (vc_X12_candidate_23 h328.2.1 h328.2.2.1 h332 h347.2.1 h330 h333 h331 h351) (vc_X12_candidate_24 h359 h355 h354 h358) (PK.keep hIPK hw ((mF.call (mF.call mF.refl F300 rfl) F343 rfl) : mF [126999] w μ μ341) rfl) (fun i a b => Or.inr ⟨rfl, a, by omega⟩) hW hK (fun i a => Or.inl (Or.inl (h110 i a))) (fun i a => Or.inl (Or.inl (h111 i a))) (fun i a => ⟨Or.inl (Or.inl ((h127 i (by omega)).1)), Or.inl (Or.inl ((h127 i (by omega)).2))⟩) (fun i a => ⟨Or.inl (Or.inl ((h128 i (by omega)).1)), Or.inl (Or.inl ((h128 i (by omega)).2))⟩) (fun a i b d e => Or.inl (Or.inl (h132 a i b d (by omega)))) (fun i a => ⟨Or.inl (Or.inl ((h143 i (by omega)).1)), Or.inl (Or.inl ((h143 i (by omega)).2))⟩) (by rw [ex]; exact ⟨Or.inl (Or.inl (hx.1)), Or.inl (Or.inl (hx.2))⟩) (Or.inl (Or.inl (h17))) hG (fun m μ' n z T F a b => by rw [ex]; exact hJ (Slev (Srow (Sins S 126 (40 * (4 + p2)).toNat) (4 + p2) 40) m) μ' n z (fun a i q => Or.inl (Or.inl (Or.inl q))) (fun i a b q => q.elim (fun q => q.elim (fun q => q.elim (hN i a b) (fun q => absurd q.1 (by decide))) (fun q => absurd q.1 (by decide))) (fun q => by omega)) T (mF.call (mF.call (mF.call mF.refl F300 rfl) F343 rfl) F rfl) a b (by omega))) (gOk _ _ _ _ _) dX12_candidate_95 (tX12_through _ _ _ _ _) ⟨wV_X12_through, wL_X12_through⟩ wM_X12_414 (gCX12 _ _ _ _ _) rfl (A_106 hw) rfl ⟨le_t rfl, le_t rfl⟩ ⟨le_t rfl, le_t rfl⟩ rfl (le_t rfl) fun z369 μ365 T366 F367 h368 => ?_
      obtain ⟨z370, q371, h372⟩ := h368
      have h373 := rt7 T366 (A_126 hw) (vc_X12_candidate_16 hq0 h312.2.1 h296.2.1 h296.2.2.1 ht_f_e0 h1 hp1 hp2 hp3 h296.1 h314) q371
      have h374 : (-1) ≤ z370 ∧ z370 ≤ 9 := h373.2.1 (vc_X12_candidate_17 hq0 h312.2.1 h296.2.1 h296.2.2.1 ht_f_e0 h1 hp1 hp2 hp3 h296.1 h314)
      have q375 : μ365 126 ((40 * (4 + p2)).toNat) = z321 := q371.trans h372.2.2.1
      have h376 : 0 ≤ z370 ∧ z370 ≤ 9 := (vc_X12_candidate_25 h372.2.2.1 h328.2.1 h328.2.2.1 h332 h347.2.1 h333 h331 h351 h374)
      refine xmr_if_eq (pc := 98) (tgt := 103) dX12_candidate_98 (by decide) (r32 h372.1 rfl) (fun h377 => ?_) (fun h377 => ?_)
      · have h378 : 0 ≤ z369 ∧ z369 ≤ 0 := (vc_X12_candidate_26 h377 h372.1)
        refine xsv_aload_n (pc := 103) dX12_candidate_103 rfl rfl ?_
        refine xmr_iconst (pc := 104) (z := 4) dX12_candidate_104 ?_
        refine xmr_iload_n (pc := 105) (z := p2) dX12_candidate_105 rfl rfl ?_
        refine xmr_iadd (pc := 106) (x := 4) (y := p2) dX12_candidate_106 ?_
        refine xmr_cVV (pc := 107) (cx_X12_nothing hw T366 (rW (c := 0) (d := 2099) (rAdd (e := 4) (f := 23) (rR (x := 4)) hp2 rfl) rfl) hW) (gOk _ _ _ _ _) dX12_candidate_107 (tX12_nothing _ _ _ _ _) ⟨wV_X12_nothing, wL_X12_nothing⟩ wM_X12_539 (gCX12 _ _ _ _ _) rfl (A_106 hw) rfl ⟨le_t rfl, le_t rfl⟩ ⟨le_t rfl, le_t rfl⟩ rfl (le_t rfl) fun μ379 T380 F381 h382 => ?_
        obtain ⟨z383, q384, h385⟩ := h382
        have h386 := rt7 T380 (A_126 hw) (vc_X12_candidate_16 hq0 h312.2.1 h296.2.1 h296.2.2.1 ht_f_e0 h1 hp1 hp2 hp3 h296.1 h314) q384
        have h387 : (-1) ≤ z383 ∧ z383 ≤ 9 := h386.2.1 (vc_X12_candidate_17 hq0 h312.2.1 h296.2.1 h296.2.2.1 ht_f_e0 h1 hp1 hp2 hp3 h296.1 h314)
        have q388 : μ379 126 ((40 * (4 + p2)).toNat) = (-1) := q384.trans h385.2.1
        have h389 : (-1) ≤ z383 ∧ z383 ≤ (-1) := (vc_X12_candidate_27 h385.2.1 h387)
        refine xmr_bipush (pc := 110) (z := 10) dX12_candidate_110 (by decide) ?_
        exact xmr_iret dX12_candidate_112 rfl (le_t rfl) (le_t rfl) T380 (mF.call (mF.call (mF.call (mF.call mF.refl F300 rfl) F343 rfl) F367 rfl) F381 rfl) ⟨(rW (c := (-99999999)) (d := 10) (rR (x := 10)) rfl), (mG.call (mG.call (mG.call (mG.call mG.refl h304.1 (List.forall_mem_cons.mpr ⟨⟨_, List.mem_cons_self, (vc_X12_candidate_7 hq0 h312.2.1 h296.2.1 h296.2.2.1 ht_f_e0 h1 hp1 hp2 hp3 h296.1 h314)⟩, (fun _ h => absurd h List.not_mem_nil)⟩)) h347.1 (List.forall_mem_cons.mpr ⟨⟨_, List.mem_cons_self, (vc_X12_candidate_28 hq0 h312.2.1 h296.2.1 h296.2.2.1 ht_f_e0 h1 hp1 hp2 hp3 h296.1 h314)⟩, (fun _ h => absurd h List.not_mem_nil)⟩)) h372.2.1 (List.forall_mem_cons.mpr ⟨⟨_, List.mem_cons_self, (vc_X12_candidate_29 hq0 h312.2.1 h296.2.1 h296.2.2.1 ht_f_e0 h1 hp1 hp2 hp3 h296.1 h314)⟩, (fun _ h => absurd h List.not_mem_nil)⟩)) h385.1 (List.forall_mem_cons.mpr ⟨⟨_, List.mem_cons_self, (vc_X12_candidate_7 hq0 h312.2.1 h296.2.1 h296.2.2.1 ht_f_e0 h1 hp1 hp2 hp3 h296.1 h314)⟩, (fun _ h => absurd h List.not_mem_nil)⟩)), fun h => absurd h (by decide), Or.inl (by rw [q388]; decide)⟩
      have h390 : 1 ≤ z369 ∧ z369 ≤ 1 := (vc_X12_candidate_30 h377 h372.1)
      refine xmr_iconst (pc := 101) (z := 0) dX12_candidate_101 ?_
      exact xmr_iret dX12_candidate_102 rfl (le_t rfl) (le_t rfl) T366 (mF.call (mF.call (mF.call mF.refl F300 rfl) F343 rfl) F367 rfl) ⟨(rW (c := (-99999999)) (d := 10) (rR (x := 0)) rfl), (mG.call (mG.call (mG.call mG.refl h304.1 (List.forall_mem_cons.mpr ⟨⟨_, List.mem_cons_self, (vc_X12_candidate_7 hq0 h312.2.1 h296.2.1 h296.2.2.1 ht_f_e0 h1 hp1 hp2 hp3 h296.1 h314)⟩, (fun _ h => absurd h List.not_mem_nil)⟩)) h347.1 (List.forall_mem_cons.mpr ⟨⟨_, List.mem_cons_self, (vc_X12_candidate_28 hq0 h312.2.1 h296.2.1 h296.2.2.1 ht_f_e0 h1 hp1 hp2 hp3 h296.1 h314)⟩, (fun _ h => absurd h List.not_mem_nil)⟩)) h372.2.1 (List.forall_mem_cons.mpr ⟨⟨_, List.mem_cons_self, (vc_X12_candidate_29 hq0 h312.2.1 h296.2.1 h296.2.2.1 ht_f_e0 h1 hp1 hp2 hp3 h296.1 h314)⟩, (fun _ h => absurd h List.not_mem_nil)⟩)), fun _ => by rw [q375]; exact h333.1, Or.inr (q375.trans ex)⟩
    have h391 : 1 ≤ z338 ∧ z338 ≤ 1 := (vc_X12_candidate_31 h339 h337.1)
    refine xmr_bipush (pc := 59) (z := 9) dX12_candidate_59 (by decide) ?_
    exact xmr_iret dX12_candidate_61 rfl (le_t rfl) (le_t rfl) T299 (mF.call mF.refl F300 rfl) ⟨(rW (c := (-99999999)) (d := 10) (rR (x := 9)) rfl), (mG.call mG.refl h304.1 (List.forall_mem_cons.mpr ⟨⟨_, List.mem_cons_self, (vc_X12_candidate_7 hq0 h312.2.1 h296.2.1 h296.2.2.1 ht_f_e0 h1 hp1 hp2 hp3 h296.1 h314)⟩, (fun _ h => absurd h List.not_mem_nil)⟩)), fun h => absurd h (by decide), Or.inl (by rw [q307]; decide)⟩
  have h392 : 0 ≤ z329 ∧ z329 ≤ 0 := (vc_X12_candidate_32 h330 h328.2.1 h328.2.2.1 h324 h328.1)
  have h393 : z321 < 0 := (h328.2.2.1 (vc_X12_candidate_33 h328.2.1 h328.2.2.1 h330 h324 h392))
  have h394 : (-1) ≤ z321 ∧ z321 ≤ (-1) := (vc_X12_candidate_34 h393 h328.2.1 h328.2.2.1 h324 h392)
  refine xmr_ldc (pc := 46) (z := (-99999999)) dX12_candidate_46 wG_X12_29 (by decide) ?_
  exact xmr_iret dX12_candidate_48 rfl (le_t rfl) (le_t rfl) T299 (mF.call mF.refl F300 rfl) ⟨(rW (c := (-99999999)) (d := 10) (rR (x := (-99999999))) rfl), (mG.call mG.refl h304.1 (List.forall_mem_cons.mpr ⟨⟨_, List.mem_cons_self, (vc_X12_candidate_7 hq0 h312.2.1 h296.2.1 h296.2.2.1 ht_f_e0 h1 hp1 hp2 hp3 h296.1 h314)⟩, (fun _ h => absurd h List.not_mem_nil)⟩)), fun h => absurd h (by decide), Or.inl (by rw [q307]; decide)⟩
