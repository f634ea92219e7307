def WP_X12_partnerOf_W (w : mW) (μ : mM) (p1 : Int) (p2 : Int) (Q : Int → mM → Prop) : Prop := ∀ z1 : Int, μ 110 ((2 * p1).toNat) = z1 → (0 ≤ z1 ∧ z1 ≤ 9) → WP_X12_sideOf_W w μ p1 p2 (fun z8 _ => (0 ≤ z8 ∧ z8 ≤ 1) → ∀ z9 : Int, μ 110 ((((2 * p1) + 1) - z8).toNat) = z9 → (0 ≤ z9 ∧ z9 ≤ 9) → Q z9 μ)
set_option maxRecDepth 4000 in
set_option maxHeartbeats 4000000 in
theorem c_X12_partnerOf_W {l : Launch} {D : va_G} {c : Nat → ClassId} {H0 : Heap} {sa : Nat × Nat × (Nat → Int32)} {w : mW} {μ : mM} (hw : mWF w) (hT : mT w μ) {p1 : Int} (hp1 : 0 ≤ p1 ∧ p1 ≤ 19) {p2 : Int} (hp2 : (-2147483648) ≤ p2 ∧ p2 ≤ 2147483647) {Q : Int → mM → Prop} (hQ : WP_X12_partnerOf_W w μ p1 p2 Q) : sC (gG l D c H0 sa) mX12_partnerOf 2 0 0 [.ref 106, iv p1, iv p2] (mk w μ) (qP w μ (fun z => (0 ≤ z ∧ z ≤ 9) ∧ Q z μ ∧ True)) := by
  refine sC.of rfl (by decide) (le_t rfl) ?_
  refine mr_lvE (lv' := [(0, .ref 106), (1, iv p1), (2, iv p2)]) rfl ?_
  refine sv_aload_n (pc := 0) dX12_partnerOf_0 rfl rfl ?_
  refine gf_X12_7 (pc := 1) dX12_partnerOf_1 wF_X12_40 (A_106 hw) hT ?_
  refine mr_iconst (pc := 4) (z := 2) dX12_partnerOf_4 ?_
  refine mr_iload_n (pc := 5) (z := p1) dX12_partnerOf_5 rfl rfl ?_
  refine mr_imul (pc := 6) (x := 2) (y := p1) dX12_partnerOf_6 ?_
  refine mr_iconst (pc := 7) (z := 1) dX12_partnerOf_7 ?_
  refine mr_iadd (pc := 8) (x := (2 * p1)) (y := 1) dX12_partnerOf_8 ?_
  refine sv_aload_n (pc := 9) dX12_partnerOf_9 rfl rfl ?_
  refine mr_iload_n (pc := 10) (z := p1) dX12_partnerOf_10 rfl rfl ?_
  refine mr_iload_n (pc := 11) (z := p2) dX12_partnerOf_11 rfl rfl ?_
  obtain ⟨z1, q2⟩ : ∃ z, μ 110 ((2 * p1).toNat) = z := ⟨_, rfl⟩
  have h3 : (0 ≤ z1 ∧ z1 ≤ 9) := by rw [← q2]; exact hT 110 110 (A_110 hw) ((2 * p1).toNat)
  refine mr_cVP (pc := 12) (c_X12_sideOf_W hw hT hp1 hp2 q2 (hQ z1 q2 h3)) (gOk _ _ _ _ _) dX12_partnerOf_12 (tX12_sideOf _ _ _ _ _) ⟨wV_X12_sideOf, wL_X12_sideOf⟩ wM_X12_542 (gCX12 _ _ _ _ _) rfl (A_106 hw) rfl ⟨le_t rfl, le_t rfl⟩ ⟨le_t rfl, le_t rfl⟩ rfl (le_t rfl) fun z8 h7 => ?_
  refine mr_isub (pc := 15) (x := ((2 * p1) + 1)) (y := z8) dX12_partnerOf_15 ?_
  refine la_110 (pc := 16) dX12_partnerOf_16 (A_110 hw) hT (rIx (n := 40) (rSub (e := 0) (f := 39) (rAdd (e := 1) (f := 39) (rMulL (n := 2) (e := 0) (f := 38) hp1 rfl) (rR (x := 1)) rfl) h7.1 rfl) rfl) fun z9 q10 h11 => ?_
  exact mr_iretP dX12_partnerOf_17 rfl (le_t rfl) (le_t rfl) ⟨h11, ((h7.2.2.2.1 h7.1) z9 q10 h11), trivial⟩
def WP_X12_beats_W (w : mW) (μ : mM) (p1 : Int) (p2 : Int) (p3 : Int) (p4 : Int) (Q : Int → mM → Prop) : Prop := WP_X12_unlike_W w μ p1 (4 + p2) p2 (4 + p3) p3 p4 (fun z5 _ => ((-9) ≤ z5 ∧ z5 ≤ 9) → ((z5 = 0) → WP_X12_partnerOf_W w μ p2 p1 (fun z27 _ => (0 ≤ z27 ∧ z27 ≤ 9) → WP_X12_partnerOf_W w μ p3 p1 (fun z32 _ => (0 ≤ z32 ∧ z32 ≤ 9) → ((z32 ≤ z27) → Q (0 : Int) μ) ∧ ((z27 < z32) → Q (1 : Int) μ)))) ∧ ((¬ z5 = 0) → ((z5 ≤ 0) → Q (0 : Int) μ) ∧ ((0 < z5) → Q (1 : Int) μ)))
theorem vc_X12_beats_W_1 {z5 : Int} (h0 : z5 = 0) (h1 : (-9) ≤ z5 ∧ z5 ≤ 9) : 0 ≤ z5 ∧ z5 ≤ 0 := by omega
theorem vc_X12_beats_W_2 {z27 z32 : Int} (h0 : z27 < z32) (h1 : 0 ≤ z27 ∧ z27 ≤ 9) (h2 : 0 ≤ z32 ∧ z32 ≤ 9) : 0 ≤ z27 ∧ z27 ≤ 8 := by omega
theorem vc_X12_beats_W_3 {z27 z32 : Int} (h0 : z27 < z32) (h1 : 0 ≤ z27 ∧ z27 ≤ 8) (h2 : 0 ≤ z32 ∧ z32 ≤ 9) : 1 ≤ z32 ∧ z32 ≤ 9 := by omega
theorem vc_X12_beats_W_4 {z5 : Int} (h0 : z5 ≤ 0) (h1 : ¬ z5 = 0) (h2 : (-9) ≤ z5 ∧ z5 ≤ 9) : (-9) ≤ z5 ∧ z5 ≤ 0 := by omega
theorem vc_X12_beats_W_5 {z5 : Int} (h0 : 0 < z5) (h1 : ¬ z5 = 0) (h2 : (-9) ≤ z5 ∧ z5 ≤ 9) : 1 ≤ z5 ∧ z5 ≤ 9 := by omega
set_option maxRecDepth 4000 in
set_option maxHeartbeats 4000000 in
theorem c_X12_beats_W {l : Launch} {D : va_G} {c : Nat → ClassId} {H0 : Heap} {sa : Nat × Nat × (Nat → Int32)} {w : mW} {μ : mM} (hw : mWF w) (hT : mT w μ) {p1 : Int} (hp1 : 0 ≤ p1 ∧ p1 ≤ 9) {p2 : Int} (hp2 : 0 ≤ p2 ∧ p2 ≤ 19) {p3 : Int} (hp3 : 0 ≤ p3 ∧ p3 ≤ 19) {p4 : Int} (hp4 : 0 ≤ p4 ∧ p4 ≤ 9) {Q : Int → mM → Prop} (hQ : WP_X12_beats_W w μ p1 p2 p3 p4 Q) : sC (gG l D c H0 sa) mX12_beats 3 0 0 [.ref 106, iv p1, iv p2, iv p3, iv p4] (mk w μ) (qP w μ (fun z => (0 ≤ z ∧ z ≤ 1) ∧ Q z μ ∧ True)) := by
  refine sC.of rfl (by decide) (le_t rfl) ?_
  refine mr_lvE (lv' := [(0, .ref 106), (1, iv p1), (2, iv p2), (3, iv p3), (4, iv p4)]) rfl ?_
  refine sv_aload_n (pc := 0) dX12_beats_0 rfl rfl ?_
  refine mr_iload_n (pc := 1) (z := p1) dX12_beats_1 rfl rfl ?_
  refine mr_iconst (pc := 2) (z := 4) dX12_beats_2 ?_
  refine mr_iload_n (pc := 3) (z := p2) dX12_beats_3 rfl rfl ?_
  refine mr_iadd (pc := 4) (x := 4) (y := p2) dX12_beats_4 ?_
  refine mr_iload_n (pc := 5) (z := p2) dX12_beats_5 rfl rfl ?_
  refine mr_iconst (pc := 6) (z := 4) dX12_beats_6 ?_
  refine mr_iload_n (pc := 7) (z := p3) dX12_beats_7 rfl rfl ?_
  refine mr_iadd (pc := 8) (x := 4) (y := p3) dX12_beats_8 ?_
  refine mr_iload_n (pc := 9) (z := p3) dX12_beats_9 rfl rfl ?_
  refine mr_iload (pc := 10) (z := p4) dX12_beats_10 rfl ?_
  refine mr_cVP (pc := 12) (c_X12_unlike_W hw hT hp1 (rW (c := 0) (d := 2099) (rAdd (e := 4) (f := 23) (rR (x := 4)) hp2 rfl) rfl) hp2 (rW (c := 0) (d := 2099) (rAdd (e := 4) (f := 23) (rR (x := 4)) hp3 rfl) rfl) hp3 hp4 hQ) (gOk _ _ _ _ _) dX12_beats_12 (tX12_unlike _ _ _ _ _) ⟨wV_X12_unlike, wL_X12_unlike⟩ wM_X12_549 (gCX12 _ _ _ _ _) rfl (A_106 hw) rfl ⟨le_t rfl, le_t rfl⟩ ⟨le_t rfl, le_t rfl⟩ rfl (le_t rfl) fun z5 h4 => ?_
  refine mr_istore (pc := 15) (lv' := [(5, iv z5), (0, .ref 106), (1, iv p1), (2, iv p2), (3, iv p3), (4, iv p4)]) dX12_beats_15 (by decide) rfl ?_
  refine mr_iload (pc := 17) (z := z5) dX12_beats_17 rfl ?_
  refine mr_if_eq (pc := 19) (tgt := 35) dX12_beats_19 (by decide) (r32 h4.1 rfl) (fun h21 => ?_) (fun h21 => ?_)
  · have h22 : 0 ≤ z5 ∧ z5 ≤ 0 := (vc_X12_beats_W_1 h21 h4.1)
    refine sv_aload_n (pc := 35) dX12_beats_35 rfl rfl ?_
    refine mr_iload_n (pc := 36) (z := p2) dX12_beats_36 rfl rfl ?_
    refine mr_iload_n (pc := 37) (z := p1) dX12_beats_37 rfl rfl ?_
    refine mr_cVP (pc := 38) (c_X12_partnerOf_W hw hT hp2 (rW (c := (-2147483648)) (d := 2147483647) hp1 rfl) ((h4.2.1 h4.1).1 h21)) (gOk _ _ _ _ _) dX12_beats_38 (tX12_partnerOf _ _ _ _ _) ⟨wV_X12_partnerOf, wL_X12_partnerOf⟩ wM_X12_553 (gCX12 _ _ _ _ _) rfl (A_106 hw) rfl ⟨le_t rfl, le_t rfl⟩ ⟨le_t rfl, le_t rfl⟩ rfl (le_t rfl) fun z27 h26 => ?_
    refine sv_aload_n (pc := 41) dX12_beats_41 rfl rfl ?_
    refine mr_iload_n (pc := 42) (z := p3) dX12_beats_42 rfl rfl ?_
    refine mr_iload_n (pc := 43) (z := p1) dX12_beats_43 rfl rfl ?_
    refine mr_cVP (pc := 44) (c_X12_partnerOf_W hw hT hp3 (rW (c := (-2147483648)) (d := 2147483647) hp1 rfl) (h26.2.1 h26.1)) (gOk _ _ _ _ _) dX12_beats_44 (tX12_partnerOf _ _ _ _ _) ⟨wV_X12_partnerOf, wL_X12_partnerOf⟩ wM_X12_553 (gCX12 _ _ _ _ _) rfl (A_106 hw) rfl ⟨le_t rfl, le_t rfl⟩ ⟨le_t rfl, le_t rfl⟩ rfl (le_t rfl) fun z32 h31 => ?_
    refine mr_icmp_ge (pc := 47) (tgt := 54) dX12_beats_47 (by decide) (r32 h26.1 rfl) (r32 h31.1 rfl) (fun h35 => ?_) (fun h35 => ?_)
    · refine mr_iconst (pc := 54) (z := 0) dX12_beats_54 ?_
      exact mr_zretP dX12_beats_55 rfl (rW (c := 0) (d := 1) (rR (x := 0)) rfl) (le_t rfl) (le_t rfl) ⟨(rW (c := 0) (d := 1) (rR (x := 0)) rfl), ((h31.2.1 h31.1).1 h35), trivial⟩
    have h36 : 0 ≤ z27 ∧ z27 ≤ 8 := (vc_X12_beats_W_2 h35 h26.1 h31.1)
    have h37 : 1 ≤ z32 ∧ z32 ≤ 9 := (vc_X12_beats_W_3 h35 h36 h31.1)
    refine mr_iconst (pc := 50) (z := 1) dX12_beats_50 ?_
    refine sv_goto (pc := 51) (tgt := 55) dX12_beats_51 (by decide) ?_
    exact mr_zretP dX12_beats_55 rfl (rW (c := 0) (d := 1) (rR (x := 1)) rfl) (le_t rfl) (le_t rfl) ⟨(rW (c := 0) (d := 1) (rR (x := 1)) rfl), ((h31.2.1 h31.1).2 h35), trivial⟩
  refine mr_iload (pc := 22) (z := z5) dX12_beats_22 rfl ?_
  refine mr_if_le (pc := 24) (tgt := 31) dX12_beats_24 (by decide) (r32 h4.1 rfl) (fun h40 => ?_) (fun h40 => ?_)
  · have h41 : (-9) ≤ z5 ∧ z5 ≤ 0 := (vc_X12_beats_W_4 h40 h21 h4.1)
    refine mr_iconst (pc := 31) (z := 0) dX12_beats_31 ?_
    refine sv_goto (pc := 32) (tgt := 55) dX12_beats_32 (by decide) ?_
    exact mr_zretP dX12_beats_55 rfl (rW (c := 0) (d := 1) (rR (x := 0)) rfl) (le_t rfl) (le_t rfl) ⟨(rW (c := 0) (d := 1) (rR (x := 0)) rfl), (((h4.2.1 h4.1).2 h21).1 h40), trivial⟩
  have h42 : 1 ≤ z5 ∧ z5 ≤ 9 := (vc_X12_beats_W_5 h40 h21 h4.1)
  refine mr_iconst (pc := 27) (z := 1) dX12_beats_27 ?_
  refine sv_goto (pc := 28) (tgt := 55) dX12_beats_28 (by decide) ?_
  exact mr_zretP dX12_beats_55 rfl (rW (c := 0) (d := 1) (rR (x := 1)) rfl) (le_t rfl) (le_t rfl) ⟨(rW (c := 0) (d := 1) (rR (x := 1)) rfl), (((h4.2.1 h4.1).2 h21).2 h40), trivial⟩
def WL_X12_best_Wl_1 (w : mW) (μ : mM) (p1 : Int) (p2 : Int) (Q : Int → mM → Prop) (f_ties : Int) (rec1 : (Int × Int) → Prop) (s : (Int × Int)) : Prop := ∀ z384 : Int, ∀ z383 : Int, s = (z384, z383) → ((-99999999) ≤ z384 ∧ z384 ≤ 19) → (0 ≤ z383 ∧ z383 ≤ 20) → ((f_ties ≤ z383) → Q z384 μ) ∧ ((z383 < f_ties) → ∀ z417 : Int, μ 165 (z383.toNat) = z417 → (0 ≤ z417 ∧ z417 ≤ 1) → ((z417 = 0) → rec1 (z384, (z383 + 1))) ∧ ((¬ z417 = 0) → ((z384 = (-99999999)) → rec1 (z383, (z383 + 1))) ∧ ((¬ z384 = (-99999999)) → WP_X12_beats_W w μ p1 z383 z384 p2 (fun z430 _ => (0 ≤ z430 ∧ z430 ≤ 1) → ((z430 = 0) → rec1 (z384, (z383 + 1))) ∧ ((¬ z430 = 0) → rec1 (z383, (z383 + 1)))))))
def WP_X12_best_Wl (w : mW) (μ : mM) (p1 : Int) (p2 : Int) (Q : Int → mM → Prop) : Prop := ∀ f_ties : Int, μ 106 6 = f_ties → (0 ≤ f_ties ∧ f_ties ≤ 20) → loopF (WL_X12_best_Wl_1 w μ p1 p2 Q f_ties) False 22 (((-99999999) : Int), (0 : Int))
theorem vc_X12_best_Wl_1 {f_ties z383 z384 : Int} (h0 : (21 - z383) < ((0 : Nat) : Int)) (h1 : z384 < z383) (h2 : z383 ≤ f_ties) (h3 : 0 ≤ f_ties ∧ f_ties ≤ 20) (h4 : 0 ≤ z383 ∧ z383 ≤ 20) (h5 : (-99999999) ≤ z384 ∧ z384 ≤ 19) (h6 : z384 = (-99999999) ∨ (0 ≤ z384 ∧ z384 ≤ 19)) : False := by omega
theorem vc_X12_best_Wl_2 {f_ties z383 z384 : Int} (h0 : z384 < z383) (h1 : z383 ≤ f_ties) (h2 : f_ties ≤ z383) (h3 : 0 ≤ f_ties ∧ f_ties ≤ 20) (h4 : 0 ≤ z383 ∧ z383 ≤ 20) (h5 : (-99999999) ≤ z384 ∧ z384 ≤ 19) (h6 : z384 = (-99999999) ∨ (0 ≤ z384 ∧ z384 ≤ 19)) : z384 = -99999999 ∨ (0 ≤ z384 ∧ z384 ≤ 19) := by omega
theorem vc_X12_best_Wl_3 {f_ties z383 z384 : Int} (h0 : z384 < z383) (h1 : z383 ≤ f_ties) (h2 : f_ties ≤ z383) (h3 : 0 ≤ f_ties ∧ f_ties ≤ 20) (h4 : 0 ≤ z383 ∧ z383 ≤ 20) (h5 : (-99999999) ≤ z384 ∧ z384 ≤ 19) (h6 : z384 = (-99999999) ∨ (0 ≤ z384 ∧ z384 ≤ 19)) : z384 < f_ties := by omega
theorem vc_X12_best_Wl_4 {f_ties z383 z384 : Int} (h0 : z384 < z383) (h1 : z383 ≤ f_ties) (h2 : f_ties ≤ z383) (h3 : 0 ≤ f_ties ∧ f_ties ≤ 20) (h4 : 0 ≤ z383 ∧ z383 ≤ 20) (h5 : (-99999999) ≤ z384 ∧ z384 ≤ 19) (h6 : z384 = (-99999999) ∨ (0 ≤ z384 ∧ z384 ≤ 19)) : z383 = f_ties := by omega
theorem vc_X12_best_Wl_5 {f_ties z383 z384 : Int} (h0 : z383 < f_ties) (h1 : z384 < z383) (h2 : z383 ≤ f_ties) (h3 : 0 ≤ f_ties ∧ f_ties ≤ 20) (h4 : 0 ≤ z383 ∧ z383 ≤ 20) (h5 : (-99999999) ≤ z384 ∧ z384 ≤ 19) (h6 : z384 = (-99999999) ∨ (0 ≤ z384 ∧ z384 ≤ 19)) : 0 ≤ z383 ∧ z383 ≤ 19 := by omega
theorem vc_X12_best_Wl_6 {f_ties z383 z384 : Int} (h0 : z383 < f_ties) (h1 : z384 < z383) (h2 : z383 ≤ f_ties) (h3 : 0 ≤ f_ties ∧ f_ties ≤ 20) (h4 : 0 ≤ z383 ∧ z383 ≤ 19) (h5 : (-99999999) ≤ z384 ∧ z384 ≤ 19) (h6 : z384 = (-99999999) ∨ (0 ≤ z384 ∧ z384 ≤ 19)) : 1 ≤ f_ties ∧ f_ties ≤ 20 := by omega
theorem vc_X12_best_Wl_8 {f_ties z383 z384 : Int} (h0 : z384 < z383) (h1 : z383 ≤ f_ties) (h2 : z383 < f_ties) (h3 : 1 ≤ f_ties ∧ f_ties ≤ 20) (h4 : 0 ≤ z383 ∧ z383 ≤ 19) (h5 : (-99999999) ≤ z384 ∧ z384 ≤ 19) (h6 : z384 = (-99999999) ∨ (0 ≤ z384 ∧ z384 ≤ 19)) : z384 < (z383 + 1) := by omega
theorem vc_X12_best_Wl_9 {f_ties z383 z384 : Int} (h0 : z384 < z383) (h1 : z383 ≤ f_ties) (h2 : z383 < f_ties) (h3 : 1 ≤ f_ties ∧ f_ties ≤ 20) (h4 : 0 ≤ z383 ∧ z383 ≤ 19) (h5 : (-99999999) ≤ z384 ∧ z384 ≤ 19) (h6 : z384 = (-99999999) ∨ (0 ≤ z384 ∧ z384 ≤ 19)) : (z383 + 1) ≤ f_ties := by omega
theorem vc_X12_best_Wl_10 {N f_ties z383 z384 : Int} (h0 : (21 - z383) < N + 1) (h1 : z384 < z383) (h2 : z383 ≤ f_ties) (h3 : z383 < f_ties) (h4 : 1 ≤ f_ties ∧ f_ties ≤ 20) (h5 : 0 ≤ z383 ∧ z383 ≤ 19) (h6 : (-99999999) ≤ z384 ∧ z384 ≤ 19) (h7 : z384 = (-99999999) ∨ (0 ≤ z384 ∧ z384 ≤ 19)) : (21 - (z383 + 1)) < N := by omega
theorem vc_X12_best_Wl_11 {f_ties z383 z384 z417 : Int} (h0 : z384 < z383) (h1 : z417 = 0) (h2 : z383 ≤ f_ties) (h3 : z383 < f_ties) (h4 : 1 ≤ f_ties ∧ f_ties ≤ 20) (h5 : 0 ≤ z383 ∧ z383 ≤ 19) (h6 : (-99999999) ≤ z384 ∧ z384 ≤ 19) (h7 : z384 = (-99999999) ∨ (0 ≤ z384 ∧ z384 ≤ 19)) (h8 : 0 ≤ z417 ∧ z417 ≤ 0) : ¬ z417 = 1 ∨ ¬ z384 = -99999999 := by omega
theorem vc_X12_best_Wl_12 {f_ties z383 z384 : Int} (h0 : z384 < z383) (h1 : z383 ≤ f_ties) (h2 : z383 < f_ties) (h3 : 1 ≤ f_ties ∧ f_ties ≤ 20) (h4 : 0 ≤ z383 ∧ z383 ≤ 19) (h5 : (-99999999) ≤ z384 ∧ z384 ≤ 19) (h6 : z384 = (-99999999) ∨ (0 ≤ z384 ∧ z384 ≤ 19)) : z384 = (-99999999) ∨ (0 ≤ z384 ∧ z384 ≤ 19) := by omega
theorem vc_X12_best_Wl_14 {z383 z384 : Int} (h0 : z384 = (-99999999)) (h1 : z384 < z383) (h2 : 0 ≤ z383 ∧ z383 ≤ 19) (h3 : (-99999999) ≤ z384 ∧ z384 ≤ 19) (h4 : z384 = (-99999999) ∨ (0 ≤ z384 ∧ z384 ≤ 19)) : (-99999999) ≤ z384 ∧ z384 ≤ (-99999999) := by omega
theorem vc_X12_best_Wl_15 {f_ties z383 z384 : Int} (h0 : z384 < z383) (h1 : z383 ≤ f_ties) (h2 : z383 < f_ties) (h3 : z384 = (-99999999)) (h4 : 1 ≤ f_ties ∧ f_ties ≤ 20) (h5 : 0 ≤ z383 ∧ z383 ≤ 19) (h6 : (-99999999) ≤ z384 ∧ z384 ≤ (-99999999)) (h7 : z384 = (-99999999) ∨ (0 ≤ z384 ∧ z384 ≤ 19)) : z383 < (z383 + 1) := by omega
theorem vc_X12_best_Wl_16 {f_ties z383 z384 : Int} (h0 : z384 < z383) (h1 : z383 ≤ f_ties) (h2 : z383 < f_ties) (h3 : z384 = (-99999999)) (h4 : 1 ≤ f_ties ∧ f_ties ≤ 20) (h5 : 0 ≤ z383 ∧ z383 ≤ 19) (h6 : (-99999999) ≤ z384 ∧ z384 ≤ (-99999999)) (h7 : z384 = (-99999999) ∨ (0 ≤ z384 ∧ z384 ≤ 19)) : (z383 + 1) ≤ f_ties := by omega
theorem vc_X12_best_Wl_17 {N f_ties z383 z384 : Int} (h0 : (21 - z383) < N + 1) (h1 : z384 < z383) (h2 : z383 ≤ f_ties) (h3 : z383 < f_ties) (h4 : z384 = (-99999999)) (h5 : 1 ≤ f_ties ∧ f_ties ≤ 20) (h6 : 0 ≤ z383 ∧ z383 ≤ 19) (h7 : (-99999999) ≤ z384 ∧ z384 ≤ (-99999999)) (h8 : z384 = (-99999999) ∨ (0 ≤ z384 ∧ z384 ≤ 19)) : (21 - (z383 + 1)) < N := by omega
theorem vc_X12_best_Wl_19 {f_ties z383 z384 : Int} (h0 : z384 < z383) (h1 : z383 ≤ f_ties) (h2 : z383 < f_ties) (h3 : z384 = (-99999999)) (h4 : 1 ≤ f_ties ∧ f_ties ≤ 20) (h5 : 0 ≤ z383 ∧ z383 ≤ 19) (h6 : (-99999999) ≤ z384 ∧ z384 ≤ (-99999999)) (h7 : z384 = (-99999999) ∨ (0 ≤ z384 ∧ z384 ≤ 19)) : 0 ≤ z383 := by omega
theorem vc_X12_best_Wl_20 {f_ties z383 z384 : Int} (h0 : z384 < z383) (h1 : z383 ≤ f_ties) (h2 : z383 < f_ties) (h3 : z384 = (-99999999)) (h4 : 1 ≤ f_ties ∧ f_ties ≤ 20) (h5 : 0 ≤ z383 ∧ z383 ≤ 19) (h6 : (-99999999) ≤ z384 ∧ z384 ≤ (-99999999)) (h7 : z384 = (-99999999) ∨ (0 ≤ z384 ∧ z384 ≤ 19)) : z383 = (-99999999) ∨ (0 ≤ z383 ∧ z383 ≤ 19) := by omega
theorem vc_X12_best_Wl_21 {z383 z384 : Int} (h0 : ¬ z384 = (-99999999)) (h1 : z384 < z383) (h2 : 0 ≤ z383 ∧ z383 ≤ 19) (h3 : (-99999999) ≤ z384 ∧ z384 ≤ 19) (h4 : z384 = (-99999999) ∨ (0 ≤ z384 ∧ z384 ≤ 19)) : 0 ≤ z384 ∧ z384 ≤ 19 := by omega
theorem vc_X12_best_Wl_23 {f_ties z383 z384 : Int} (h0 : z384 < z383) (h1 : z383 ≤ f_ties) (h2 : z383 < f_ties) (h3 : ¬ z384 = (-99999999)) (h4 : 1 ≤ f_ties ∧ f_ties ≤ 20) (h5 : 0 ≤ z383 ∧ z383 ≤ 19) (h6 : 0 ≤ z384 ∧ z384 ≤ 19) (h7 : z384 = (-99999999) ∨ (0 ≤ z384 ∧ z384 ≤ 19)) : z384 < (z383 + 1) := by omega
theorem vc_X12_best_Wl_24 {f_ties z383 z384 : Int} (h0 : z384 < z383) (h1 : z383 ≤ f_ties) (h2 : z383 < f_ties) (h3 : ¬ z384 = (-99999999)) (h4 : 1 ≤ f_ties ∧ f_ties ≤ 20) (h5 : 0 ≤ z383 ∧ z383 ≤ 19) (h6 : 0 ≤ z384 ∧ z384 ≤ 19) (h7 : z384 = (-99999999) ∨ (0 ≤ z384 ∧ z384 ≤ 19)) : (z383 + 1) ≤ f_ties := by omega
theorem vc_X12_best_Wl_25 {N f_ties z383 z384 : Int} (h0 : (21 - z383) < N + 1) (h1 : z384 < z383) (h2 : z383 ≤ f_ties) (h3 : z383 < f_ties) (h4 : ¬ z384 = (-99999999)) (h5 : 1 ≤ f_ties ∧ f_ties ≤ 20) (h6 : 0 ≤ z383 ∧ z383 ≤ 19) (h7 : 0 ≤ z384 ∧ z384 ≤ 19) (h8 : z384 = (-99999999) ∨ (0 ≤ z384 ∧ z384 ≤ 19)) : (21 - (z383 + 1)) < N := by omega
theorem vc_X12_best_Wl_26 {f_ties z383 z384 z417 : Int} (h0 : z384 < z383) (h1 : ¬ z417 = 0) (h2 : ¬ z384 = (-99999999)) (h3 : z383 ≤ f_ties) (h4 : z383 < f_ties) (h5 : 1 ≤ f_ties ∧ f_ties ≤ 20) (h6 : 0 ≤ z383 ∧ z383 ≤ 19) (h7 : 0 ≤ z384 ∧ z384 ≤ 19) (h8 : z384 = (-99999999) ∨ (0 ≤ z384 ∧ z384 ≤ 19)) (h9 : 1 ≤ z417 ∧ z417 ≤ 1) : ¬ z417 = 1 ∨ ¬ z384 = -99999999 := by omega
theorem vc_X12_best_Wl_27 {f_ties z383 z384 : Int} (h0 : z384 < z383) (h1 : ¬ z384 = (-99999999)) (h2 : z383 ≤ f_ties) (h3 : z383 < f_ties) (h4 : 1 ≤ f_ties ∧ f_ties ≤ 20) (h5 : 0 ≤ z383 ∧ z383 ≤ 19) (h6 : 0 ≤ z384 ∧ z384 ≤ 19) (h7 : z384 = (-99999999) ∨ (0 ≤ z384 ∧ z384 ≤ 19)) : z384 = (-99999999) ∨ (0 ≤ z384 ∧ z384 ≤ 19) := by omega
theorem vc_X12_best_Wl_29 {f_ties z383 z384 : Int} (h0 : z384 < z383) (h1 : z383 ≤ f_ties) (h2 : z383 < f_ties) (h3 : ¬ z384 = (-99999999)) (h4 : 1 ≤ f_ties ∧ f_ties ≤ 20) (h5 : 0 ≤ z383 ∧ z383 ≤ 19) (h6 : 0 ≤ z384 ∧ z384 ≤ 19) (h7 : z384 = (-99999999) ∨ (0 ≤ z384 ∧ z384 ≤ 19)) : z383 < (z383 + 1) := by omega
theorem vc_X12_best_Wl_30 {f_ties z383 z384 : Int} (h0 : z384 < z383) (h1 : z383 ≤ f_ties) (h2 : z383 < f_ties) (h3 : ¬ z384 = (-99999999)) (h4 : 1 ≤ f_ties ∧ f_ties ≤ 20) (h5 : 0 ≤ z383 ∧ z383 ≤ 19) (h6 : 0 ≤ z384 ∧ z384 ≤ 19) (h7 : z384 = (-99999999) ∨ (0 ≤ z384 ∧ z384 ≤ 19)) : 0 ≤ z383 := by omega
theorem vc_X12_best_Wl_31 {f_ties z383 z384 : Int} (h0 : z384 < z383) (h1 : z383 ≤ f_ties) (h2 : z383 < f_ties) (h3 : ¬ z384 = (-99999999)) (h4 : 1 ≤ f_ties ∧ f_ties ≤ 20) (h5 : 0 ≤ z383 ∧ z383 ≤ 19) (h6 : 0 ≤ z384 ∧ z384 ≤ 19) (h7 : z384 = (-99999999) ∨ (0 ≤ z384 ∧ z384 ≤ 19)) : z383 = (-99999999) ∨ (0 ≤ z383 ∧ z383 ≤ 19) := by omega
theorem vc_X12_best_Wl_32  : (((-99999999) : Int) : Int) < ((0 : Int) : Int) := by omega
theorem vc_X12_best_Wl_33 {f_ties : Int} (h0 : 0 ≤ f_ties ∧ f_ties ≤ 20) : (0 : Int) ≤ f_ties := by omega
theorem vc_X12_best_Wl_35  : (((-99999999) : Int) : Int) = ((-99999999) : Int) ∨ ((0 : Int) ≤ (((-99999999) : Int) : Int) ∧ (((-99999999) : Int) : Int) ≤ (19 : Int)) := by omega
set_option maxRecDepth 4000 in
set_option maxHeartbeats 4000000 in
theorem c_X12_best_Wl {l : Launch} {D : va_G} {c : Nat → ClassId} {H0 : Heap} {sa : Nat × Nat × (Nat → Int32)} {w : mW} {μ : mM} (hw : mWF w) (hT : mT w μ) {p1 : Int} (hp1 : 0 ≤ p1 ∧ p1 ≤ 9) {p2 : Int} (hp2 : 0 ≤ p2 ∧ p2 ≤ 9) {f_ties : Int} (q_f_ties : μ 106 6 = f_ties) {Q : Int → mM → Prop} (hQ : WP_X12_best_Wl w μ p1 p2 Q) : sC (gG l D c H0 sa) mX12_best 4 0 0 [.ref 106, iv p1, iv p2] (mk w μ) (qP w μ (fun z => ((-99999999) ≤ z ∧ z ≤ 19) ∧ (z = -99999999 ∨ (0 ≤ z ∧ z ≤ 19)) ∧ (z < f_ties) ∧ (bestOK μ f_ties z) ∧ Q z μ ∧ True)) := by
  refine sC.of rfl (by decide) (le_t rfl) ?_
  have ht_f_ties : (0 ≤ f_ties ∧ f_ties ≤ 20) := by rw [← q_f_ties]; exact hT 106 106 (A_106 hw) 6
  refine mr_lvE (lv' := [(0, .ref 106), (1, iv p1), (2, iv p2)]) rfl ?_
  refine mr_ldc (pc := 0) (z := (-99999999)) dX12_best_0 wG_X12_29 (by decide) ?_
  refine mr_istore_n (pc := 2) (lv' := [(3, iv (-99999999)), (0, .ref 106), (1, iv p1), (2, iv p2)]) dX12_best_2 rfl (by decide) rfl ?_
  refine mr_iconst (pc := 3) (z := 0) dX12_best_3 ?_
  refine mr_istore (pc := 4) (lv' := [(4, iv 0), (3, iv (-99999999)), (0, .ref 106), (1, iv p1), (2, iv p2)]) dX12_best_4 (by decide) rfl ?_
  have L385 : ∀ (nL385 : Nat) (z384 z383 : Int), True → ((-99999999) ≤ z384 ∧ z384 ≤ 19) → (0 ≤ z383 ∧ z383 ≤ 20) → (z384 < z383) → (z383 ≤ f_ties) → bestOK μ z383 z384 → (z384 = (-99999999) ∨ (0 ≤ z384 ∧ z384 ≤ 19)) → (21 - z383) < (nL385 : Int) → loopF (WL_X12_best_Wl_1 w μ p1 p2 Q f_ties) False nL385 (z384, z383) → sV (gG l D c H0 sa) mX12_best (sRm 4 0 0) (sZ (gG l D c H0 sa) 0 0 (qP w μ (fun z => ((-99999999) ≤ z ∧ z ≤ 19) ∧ (z = -99999999 ∨ (0 ≤ z ∧ z ≤ 19)) ∧ (z < f_ties) ∧ (bestOK μ f_ties z) ∧ Q z μ ∧ True))) 6 [(0, .ref 106), (1, iv p1), (2, iv p2), (3, iv z384), (4, iv z383)] [] (mk w μ) 0 0 := by
    intro nL385
    induction nL385 with
    | zero => intro z384 z383 _ h386 h387 h391 h392 R393 h394 h395 W396; exact ((vc_X12_best_Wl_1 h395 h391 h392 ht_f_ties h387 h386 h394)).elim
    | succ nL385 ih397 =>
      intro z384 z383 _ h386 h387 h391 h392 R393 h394 h395 W396
      refine mr_iload (pc := 6) (z := z383) dX12_best_6 rfl ?_
      refine sv_aload_n (pc := 8) dX12_best_8 rfl rfl ?_
      refine gk_X12_6 (pc := 9) dX12_best_9 wF_X12_37 (A_106 hw) q_f_ties ?_
      refine mr_icmp_ge (pc := 12) (tgt := 52) dX12_best_12 (by decide) (r32 h387 rfl) (r32 ht_f_ties rfl) (fun h414 => ?_) (fun h414 => ?_)
      · refine mr_iload_n (pc := 52) (z := z384) dX12_best_52 rfl rfl ?_
        exact mr_iretP dX12_best_53 rfl (le_t rfl) (le_t rfl) ⟨h386, (vc_X12_best_Wl_2 h391 h392 h414 ht_f_ties h387 h386 h394), (vc_X12_best_Wl_3 h391 h392 h414 ht_f_ties h387 h386 h394), (by have h := R393; rw [show z383 = f_ties from (vc_X12_best_Wl_4 h391 h392 h414 ht_f_ties h387 h386 h394)] at h; exact h), ((W396 z384 z383 rfl h386 h387).1 h414), trivial⟩
      have h415 : 0 ≤ z383 ∧ z383 ≤ 19 := (vc_X12_best_Wl_5 h414 h391 h392 ht_f_ties h387 h386 h394)
      have h416 : 1 ≤ f_ties ∧ f_ties ≤ 20 := (vc_X12_best_Wl_6 h414 h391 h392 ht_f_ties h415 h386 h394)
      refine sv_aload_n (pc := 15) dX12_best_15 rfl rfl ?_
      refine gf_X12_85 (pc := 16) dX12_best_16 wF_X12_457 (A_106 hw) hT ?_
      refine mr_iload (pc := 19) (z := z383) dX12_best_19 rfl ?_
      refine la_165 (pc := 21) dX12_best_21 (A_165 hw) hT (rIx (n := 20) h415 rfl) fun z417 q418 h419 => ?_
      refine mr_if_eq (pc := 22) (tgt := 46) dX12_best_22 (by decide) (r32 h419 rfl) (fun h420 => ?_) (fun h420 => ?_)
      · have h421 : 0 ≤ z417 ∧ z417 ≤ 0 := (vc_X12_ring_22 h420 h419)
        refine mr_iinc (pc := 46) (lv' := [(4, iv (z383 + 1)), (0, .ref 106), (1, iv p1), (2, iv p2), (3, iv z384)]) dX12_best_46 rfl (by decide) rfl ?_
        refine sv_goto (pc := 49) (tgt := 6) dX12_best_49 (by decide) ?_
        refine mr_lvS (lv' := [(0, .ref 106), (1, iv p1), (2, iv p2), (3, iv z384), (4, iv (z383 + 1))]) (List.forall_mem_cons.mpr ⟨rfl, List.forall_mem_cons.mpr ⟨rfl, List.forall_mem_cons.mpr ⟨rfl, List.forall_mem_cons.mpr ⟨rfl, List.forall_mem_cons.mpr ⟨rfl, fun _ h => absurd h List.not_mem_nil⟩⟩⟩⟩⟩) ?_
        exact ih397 z384 (z383 + 1) trivial h386 (rW (c := 0) (d := 20) (rAdd (e := 1) (f := 20) h415 (rR (x := 1)) rfl) rfl) (vc_X12_best_Wl_8 h391 h392 h414 h416 h415 h386 h394) (vc_X12_best_Wl_9 h391 h392 h414 h416 h415 h386 h394) (bestOK.not R393 q418 (vc_X12_best_Wl_11 h391 h420 h392 h414 h416 h415 h386 h394 h421)) (vc_X12_best_Wl_12 h391 h392 h414 h416 h415 h386 h394) (vc_X12_best_Wl_10 (nS h395) h391 h392 h414 h416 h415 h386 h394) ((((W396 z384 z383 rfl h386 h387).2 h414) z417 q418 h419).1 h420)
      have h422 : 1 ≤ z417 ∧ z417 ≤ 1 := (vc_X12_ring_24 h420 h419)
      refine mr_iload_n (pc := 25) (z := z384) dX12_best_25 rfl rfl ?_
      refine mr_ldc (pc := 26) (z := (-99999999)) dX12_best_26 wG_X12_29 (by decide) ?_
      refine mr_icmp_eq (pc := 28) (tgt := 43) dX12_best_28 (by decide) (r32 h386 rfl) (r32 (rR (x := (-99999999))) rfl) (fun h423 => ?_) (fun h423 => ?_)
      · have h424 : (-99999999) ≤ z384 ∧ z384 ≤ (-99999999) := (vc_X12_best_Wl_14 h423 h391 h415 h386 h394)
        refine mr_iload (pc := 43) (z := z383) dX12_best_43 rfl ?_
        refine mr_istore_n (pc := 45) (lv' := [(3, iv z383), (0, .ref 106), (1, iv p1), (2, iv p2), (4, iv z383)]) dX12_best_45 rfl (by decide) rfl ?_
        refine mr_iinc (pc := 46) (lv' := [(4, iv (z383 + 1)), (3, iv z383), (0, .ref 106), (1, iv p1), (2, iv p2)]) dX12_best_46 rfl (by decide) rfl ?_
        refine sv_goto (pc := 49) (tgt := 6) dX12_best_49 (by decide) ?_
        refine mr_lvS (lv' := [(0, .ref 106), (1, iv p1), (2, iv p2), (3, iv z383), (4, iv (z383 + 1))]) (List.forall_mem_cons.mpr ⟨rfl, List.forall_mem_cons.mpr ⟨rfl, List.forall_mem_cons.mpr ⟨rfl, List.forall_mem_cons.mpr ⟨rfl, List.forall_mem_cons.mpr ⟨rfl, fun _ h => absurd h List.not_mem_nil⟩⟩⟩⟩⟩) ?_
        exact ih397 z383 (z383 + 1) trivial (rW (c := (-99999999)) (d := 19) h415 rfl) (rW (c := 0) (d := 20) (rAdd (e := 1) (f := 20) h415 (rR (x := 1)) rfl) rfl) (vc_X12_best_Wl_15 h391 h392 h414 h423 h416 h415 h424 h394) (vc_X12_best_Wl_16 h391 h392 h414 h423 h416 h415 h424 h394) (bestOK.put q418 (vc_X12_wish_23 h420 h422) (vc_X12_best_Wl_19 h391 h392 h414 h423 h416 h415 h424 h394)) (vc_X12_best_Wl_20 h391 h392 h414 h423 h416 h415 h424 h394) (vc_X12_best_Wl_17 (nS h395) h391 h392 h414 h423 h416 h415 h424 h394) (((((W396 z384 z383 rfl h386 h387).2 h414) z417 q418 h419).2 h420).1 h423)
      have h425 : 0 ≤ z384 ∧ z384 ≤ 19 := (vc_X12_best_Wl_21 h423 h391 h415 h386 h394)
      refine sv_aload_n (pc := 31) dX12_best_31 rfl rfl ?_
      refine mr_iload_n (pc := 32) (z := p1) dX12_best_32 rfl rfl ?_
      refine mr_iload (pc := 33) (z := z383) dX12_best_33 rfl ?_
      refine mr_iload_n (pc := 35) (z := z384) dX12_best_35 rfl rfl ?_
      refine mr_iload_n (pc := 36) (z := p2) dX12_best_36 rfl rfl ?_
      refine mr_cVP (pc := 37) (c_X12_beats_W hw hT hp1 h415 h425 hp2 (((((W396 z384 z383 rfl h386 h387).2 h414) z417 q418 h419).2 h420).2 h423)) (gOk _ _ _ _ _) dX12_best_37 (tX12_beats _ _ _ _ _) ⟨wV_X12_beats, wL_X12_beats⟩ wM_X12_568 (gCX12 _ _ _ _ _) rfl (A_106 hw) rfl ⟨le_t rfl, le_t rfl⟩ ⟨le_t rfl, le_t rfl⟩ rfl (le_t rfl) fun z430 h429 => ?_
      refine mr_if_eq (pc := 40) (tgt := 46) dX12_best_40 (by decide) (r32 h429.1 rfl) (fun h431 => ?_) (fun h431 => ?_)
      · have h432 : 0 ≤ z430 ∧ z430 ≤ 0 := (vc_X12_ring_22 h431 h429.1)
        refine mr_iinc (pc := 46) (lv' := [(4, iv (z383 + 1)), (0, .ref 106), (1, iv p1), (2, iv p2), (3, iv z384)]) dX12_best_46 rfl (by decide) rfl ?_
        refine sv_goto (pc := 49) (tgt := 6) dX12_best_49 (by decide) ?_
        refine mr_lvS (lv' := [(0, .ref 106), (1, iv p1), (2, iv p2), (3, iv z384), (4, iv (z383 + 1))]) (List.forall_mem_cons.mpr ⟨rfl, List.forall_mem_cons.mpr ⟨rfl, List.forall_mem_cons.mpr ⟨rfl, List.forall_mem_cons.mpr ⟨rfl, List.forall_mem_cons.mpr ⟨rfl, fun _ h => absurd h List.not_mem_nil⟩⟩⟩⟩⟩) ?_
        exact ih397 z384 (z383 + 1) trivial (rW (c := (-99999999)) (d := 19) h425 rfl) (rW (c := 0) (d := 20) (rAdd (e := 1) (f := 20) h415 (rR (x := 1)) rfl) rfl) (vc_X12_best_Wl_23 h391 h392 h414 h423 h416 h415 h425 h394) (vc_X12_best_Wl_24 h391 h392 h414 h423 h416 h415 h425 h394) (bestOK.not R393 q418 (vc_X12_best_Wl_26 h391 h420 h423 h392 h414 h416 h415 h425 h394 h422)) (vc_X12_best_Wl_27 h391 h423 h392 h414 h416 h415 h425 h394) (vc_X12_best_Wl_25 (nS h395) h391 h392 h414 h423 h416 h415 h425 h394) ((h429.2.1 h429.1).1 h431)
      have h433 : 1 ≤ z430 ∧ z430 ≤ 1 := (vc_X12_ring_24 h431 h429.1)
      refine mr_iload (pc := 43) (z := z383) dX12_best_43 rfl ?_
      refine mr_istore_n (pc := 45) (lv' := [(3, iv z383), (0, .ref 106), (1, iv p1), (2, iv p2), (4, iv z383)]) dX12_best_45 rfl (by decide) rfl ?_
      refine mr_iinc (pc := 46) (lv' := [(4, iv (z383 + 1)), (3, iv z383), (0, .ref 106), (1, iv p1), (2, iv p2)]) dX12_best_46 rfl (by decide) rfl ?_
      refine sv_goto (pc := 49) (tgt := 6) dX12_best_49 (by decide) ?_
      refine mr_lvS (lv' := [(0, .ref 106), (1, iv p1), (2, iv p2), (3, iv z383), (4, iv (z383 + 1))]) (List.forall_mem_cons.mpr ⟨rfl, List.forall_mem_cons.mpr ⟨rfl, List.forall_mem_cons.mpr ⟨rfl, List.forall_mem_cons.mpr ⟨rfl, List.forall_mem_cons.mpr ⟨rfl, fun _ h => absurd h List.not_mem_nil⟩⟩⟩⟩⟩) ?_
      exact ih397 z383 (z383 + 1) trivial (rW (c := (-99999999)) (d := 19) h415 rfl) (rW (c := 0) (d := 20) (rAdd (e := 1) (f := 20) h415 (rR (x := 1)) rfl) rfl) (vc_X12_best_Wl_29 h391 h392 h414 h423 h416 h415 h425 h394) (vc_X12_best_Wl_24 h391 h392 h414 h423 h416 h415 h425 h394) (bestOK.put q418 (vc_X12_wish_23 h420 h422) (vc_X12_best_Wl_30 h391 h392 h414 h423 h416 h415 h425 h394)) (vc_X12_best_Wl_31 h391 h392 h414 h423 h416 h415 h425 h394) (vc_X12_best_Wl_25 (nS h395) h391 h392 h414 h423 h416 h415 h425 h394) ((h429.2.1 h429.1).2 h431)
  refine mr_lvS (lv' := [(0, .ref 106), (1, iv p1), (2, iv p2), (3, iv (-99999999)), (4, iv 0)]) (List.forall_mem_cons.mpr ⟨rfl, List.forall_mem_cons.mpr ⟨rfl, List.forall_mem_cons.mpr ⟨rfl, List.forall_mem_cons.mpr ⟨rfl, List.forall_mem_cons.mpr ⟨rfl, fun _ h => absurd h List.not_mem_nil⟩⟩⟩⟩⟩) ?_
  exact L385 22 (-99999999) 0 trivial (rW (c := (-99999999)) (d := 19) (rR (x := (-99999999))) rfl) (rW (c := 0) (d := 20) (rR (x := 0)) rfl) vc_X12_best_Wl_32 (vc_X12_best_Wl_33 ht_f_ties) bestOK.zero vc_X12_best_Wl_35 vc_X12_tieOf_12 (hQ f_ties q_f_ties ht_f_ties)
def WP_X12_isBelow_W (w : mW) (μ : mM) (p1 : Int) (p2 : Int) (Q : Int → mM → Prop) : Prop := ∀ z1 : Int, (-2147483648 ≤ z1 ∧ z1 ≤ 2147483647) → (z1 - (p1 + (-2147483648))) % 4294967296 = 0 → ∀ z4 : Int, (-2147483648 ≤ z4 ∧ z4 ≤ 2147483647) → (z4 - (p2 + (-2147483648))) % 4294967296 = 0 → ((z4 ≤ z1) → Q (0 : Int) μ) ∧ ((z1 < z4) → Q (1 : Int) μ)
theorem vc_X12_isBelow_W_1 {p1 p2 z1 z4 : Int} (h0 : (z1 - (p1 + (-2147483648))) % 4294967296 = 0) (h1 : (z4 - (p2 + (-2147483648))) % 4294967296 = 0) (h2 : z4 ≤ z1) (h3 : (-2147483648) ≤ p1 ∧ p1 ≤ 2147483647) (h4 : (-2147483648) ≤ p2 ∧ p2 ≤ 2147483647) (h5 : (-2147483648) ≤ z1 ∧ z1 ≤ 2147483647) (h6 : (-2147483648) ≤ z4 ∧ z4 ≤ 2147483647) : (0 : Int) = 1 → p1 % 4294967296 < p2 % 4294967296 := by omega
theorem vc_X12_isBelow_W_2 {p1 p2 z1 z4 : Int} (h0 : (z1 - (p1 + (-2147483648))) % 4294967296 = 0) (h1 : (z4 - (p2 + (-2147483648))) % 4294967296 = 0) (h2 : z4 ≤ z1) (h3 : (-2147483648) ≤ p1 ∧ p1 ≤ 2147483647) (h4 : (-2147483648) ≤ p2 ∧ p2 ≤ 2147483647) (h5 : (-2147483648) ≤ z1 ∧ z1 ≤ 2147483647) (h6 : (-2147483648) ≤ z4 ∧ z4 ≤ 2147483647) : (0 : Int) = 0 → p2 % 4294967296 ≤ p1 % 4294967296 := by omega
theorem vc_X12_isBelow_W_3 {p1 p2 z1 z4 : Int} (h0 : z1 < z4) (h1 : (z1 - (p1 + (-2147483648))) % 4294967296 = 0) (h2 : (z4 - (p2 + (-2147483648))) % 4294967296 = 0) (h3 : (-2147483648) ≤ p1 ∧ p1 ≤ 2147483647) (h4 : (-2147483648) ≤ p2 ∧ p2 ≤ 2147483647) (h5 : (-2147483648) ≤ z1 ∧ z1 ≤ 2147483647) (h6 : (-2147483648) ≤ z4 ∧ z4 ≤ 2147483647) : (-2147483648) ≤ z1 ∧ z1 ≤ 2147483646 := by omega
theorem vc_X12_isBelow_W_4 {p1 p2 z1 z4 : Int} (h0 : z1 < z4) (h1 : (z1 - (p1 + (-2147483648))) % 4294967296 = 0) (h2 : (z4 - (p2 + (-2147483648))) % 4294967296 = 0) (h3 : (-2147483648) ≤ p1 ∧ p1 ≤ 2147483647) (h4 : (-2147483648) ≤ p2 ∧ p2 ≤ 2147483647) (h5 : (-2147483648) ≤ z1 ∧ z1 ≤ 2147483646) (h6 : (-2147483648) ≤ z4 ∧ z4 ≤ 2147483647) : (-2147483647) ≤ z4 ∧ z4 ≤ 2147483647 := by omega
theorem vc_X12_isBelow_W_5 {p1 p2 z1 z4 : Int} (h0 : (z1 - (p1 + (-2147483648))) % 4294967296 = 0) (h1 : (z4 - (p2 + (-2147483648))) % 4294967296 = 0) (h2 : z1 < z4) (h3 : (-2147483648) ≤ p1 ∧ p1 ≤ 2147483647) (h4 : (-2147483648) ≤ p2 ∧ p2 ≤ 2147483647) (h5 : (-2147483648) ≤ z1 ∧ z1 ≤ 2147483646) (h6 : (-2147483647) ≤ z4 ∧ z4 ≤ 2147483647) : (1 : Int) = 1 → p1 % 4294967296 < p2 % 4294967296 := by omega
theorem vc_X12_isBelow_W_6 {p1 p2 z1 z4 : Int} (h0 : (z1 - (p1 + (-2147483648))) % 4294967296 = 0) (h1 : (z4 - (p2 + (-2147483648))) % 4294967296 = 0) (h2 : z1 < z4) (h3 : (-2147483648) ≤ p1 ∧ p1 ≤ 2147483647) (h4 : (-2147483648) ≤ p2 ∧ p2 ≤ 2147483647) (h5 : (-2147483648) ≤ z1 ∧ z1 ≤ 2147483646) (h6 : (-2147483647) ≤ z4 ∧ z4 ≤ 2147483647) : (1 : Int) = 0 → p2 % 4294967296 ≤ p1 % 4294967296 := by omega
set_option maxRecDepth 4000 in
set_option maxHeartbeats 4000000 in
theorem c_X12_isBelow_W {l : Launch} {D : va_G} {c : Nat → ClassId} {H0 : Heap} {sa : Nat × Nat × (Nat → Int32)} {w : mW} {μ : mM} (hw : mWF w) (hT : mT w μ) {p1 : Int} (hp1 : (-2147483648) ≤ p1 ∧ p1 ≤ 2147483647) {p2 : Int} (hp2 : (-2147483648) ≤ p2 ∧ p2 ≤ 2147483647) {Q : Int → mM → Prop} (hQ : WP_X12_isBelow_W w μ p1 p2 Q) : sC (gG l D c H0 sa) mX12_isBelow 1 0 0 [iv p1, iv p2] (mk w μ) (qP w μ (fun z => (0 ≤ z ∧ z ≤ 1) ∧ (z = 1 → p1 % 4294967296 < p2 % 4294967296) ∧ (z = 0 → p2 % 4294967296 ≤ p1 % 4294967296) ∧ Q z μ ∧ True)) := by
  refine sC.of rfl (by decide) (le_t rfl) ?_
  refine mr_lvE (lv' := [(0, iv p1), (1, iv p2)]) rfl ?_
  refine mr_iload_n (pc := 0) (z := p1) dX12_isBelow_0 rfl rfl ?_
  refine mr_ldcw (pc := 1) (z := (-2147483648)) dX12_isBelow_1 wG_X12_571 (by decide) ?_
  refine mr_iadd (pc := 4) (x := p1) (y := (-2147483648)) dX12_isBelow_4 ?_
  refine mr_wrapF fun z1 h2 h3 => ?_
  refine mr_iload_n (pc := 5) (z := p2) dX12_isBelow_5 rfl rfl ?_
  refine mr_ldcw (pc := 6) (z := (-2147483648)) dX12_isBelow_6 wG_X12_571 (by decide) ?_
  refine mr_iadd (pc := 9) (x := p2) (y := (-2147483648)) dX12_isBelow_9 ?_
  refine mr_wrapF fun z4 h5 h6 => ?_
  refine mr_icmp_ge (pc := 10) (tgt := 17) dX12_isBelow_10 (by decide) h2 h5 (fun h9 => ?_) (fun h9 => ?_)
  · refine mr_iconst (pc := 17) (z := 0) dX12_isBelow_17 ?_
    exact mr_zretP dX12_isBelow_18 rfl (rW (c := 0) (d := 1) (rR (x := 0)) rfl) (le_t rfl) (le_t rfl) ⟨(rW (c := 0) (d := 1) (rR (x := 0)) rfl), (vc_X12_isBelow_W_1 h3 h6 h9 hp1 hp2 h2 h5), (vc_X12_isBelow_W_2 h3 h6 h9 hp1 hp2 h2 h5), (((hQ z1 h2 h3) z4 h5 h6).1 h9), trivial⟩
  have h10 : (-2147483648) ≤ z1 ∧ z1 ≤ 2147483646 := (vc_X12_isBelow_W_3 h9 h3 h6 hp1 hp2 h2 h5)
  have h11 : (-2147483647) ≤ z4 ∧ z4 ≤ 2147483647 := (vc_X12_isBelow_W_4 h9 h3 h6 hp1 hp2 h10 h5)
  refine mr_iconst (pc := 13) (z := 1) dX12_isBelow_13 ?_
  refine sv_goto (pc := 14) (tgt := 18) dX12_isBelow_14 (by decide) ?_
  exact mr_zretP dX12_isBelow_18 rfl (rW (c := 0) (d := 1) (rR (x := 1)) rfl) (le_t rfl) (le_t rfl) ⟨(rW (c := 0) (d := 1) (rR (x := 1)) rfl), (vc_X12_isBelow_W_5 h3 h6 h9 hp1 hp2 h10 h11), (vc_X12_isBelow_W_6 h3 h6 h9 hp1 hp2 h10 h11), (((hQ z1 h2 h3) z4 h5 h6).2 h9), trivial⟩
def WL_X12_pick_W_4 (w : mW) (p1 : Int) (p2 : Int) (f_ties : Int) (rec2 : (Int × Int × Int × Int × mM) → Prop) (z30674 : Int) (μ30675 : mM) (z34073 : Int) (z34072 : Int) (rec4 : (Int × mM) → Prop) (s : (Int × mM)) : Prop := ∀ z34931 : Int, ∀ μ34932 : mM, s = (z34931, μ34932) → (0 ≤ z34931 ∧ z34931 ≤ 20) → mT w μ34932 → mF [165999] w μ30675 μ34932 → ((f_ties ≤ z34931) → WP_X12_best_Wl w μ34932 p1 p2 (fun z34987 _ => ((-99999999) ≤ z34987 ∧ z34987 ≤ 19) → ((z30674 = (-99999999)) → rec2 (z34987, (1 : Int), z34072, z34073, μ34932)) ∧ ((¬ z30674 = (-99999999)) → WP_X12_beats_W w μ34932 p1 z34987 z30674 p2 (fun z34997 _ => (0 ≤ z34997 ∧ z34997 ≤ 1) → ((z34997 = 0) → rec2 (z30674, (1 : Int), z34072, z34073, μ34932)) ∧ ((¬ z34997 = 0) → rec2 (z34987, (1 : Int), z34072, z34073, μ34932)))))) ∧ ((z34931 < f_ties) → ∀ z35003 : Int, μ34932 126 ((40 * (4 + z34931)).toNat) = z35003 → ((-2147483648 ≤ z35003 ∧ z35003 ≤ 2147483647) ∧ ((40 * (4 + z34931)) % 40 = 0 → -1 ≤ z35003 ∧ z35003 ≤ 9) ∧ ((40 * (4 + z34931)) % 40 = 4 → 0 ≤ z35003 ∧ z35003 ≤ 20) ∧ ((40 * (4 + z34931)) % 40 = 5 → 0 ≤ z35003 ∧ z35003 ≤ 8)) → WP_X12_isThere_W w μ34932 (4 + z34931) (fun z35011 _ => (0 ≤ z35011 ∧ z35011 ≤ 1) → ((z35011 = 0) → ∀ μ35016 : mM, mU μ34932 165 (z34931.toNat) (0 : Int) μ35016 → mT w μ35016 → rec4 ((z34931 + 1), μ35016)) ∧ ((¬ z35011 = 0) → ∀ z35022 : Int, μ34932 126 (((40 * (4 + z34931)) + 4).toNat) = z35022 → ((-2147483648 ≤ z35022 ∧ z35022 ≤ 2147483647) ∧ (((40 * (4 + z34931)) + 4) % 40 = 0 → -1 ≤ z35022 ∧ z35022 ≤ 9) ∧ (((40 * (4 + z34931)) + 4) % 40 = 4 → 0 ≤ z35022 ∧ z35022 ≤ 20) ∧ (((40 * (4 + z34931)) + 4) % 40 = 5 → 0 ≤ z35022 ∧ z35022 ≤ 8)) → ((z35022 ≤ 0) → ∀ μ35028 : mM, mU μ34932 165 (z34931.toNat) (0 : Int) μ35028 → mT w μ35028 → rec4 ((z34931 + 1), μ35028)) ∧ ((0 < z35022) → ∀ z35032 : Int, μ34932 126 (((40 * (4 + z34931)) + 6).toNat) = z35032 → ((-2147483648 ≤ z35032 ∧ z35032 ≤ 2147483647) ∧ (((40 * (4 + z34931)) + 6) % 40 = 0 → -1 ≤ z35032 ∧ z35032 ≤ 9) ∧ (((40 * (4 + z34931)) + 6) % 40 = 4 → 0 ≤ z35032 ∧ z35032 ≤ 20) ∧ (((40 * (4 + z34931)) + 6) % 40 = 5 → 0 ≤ z35032 ∧ z35032 ≤ 8)) → ((¬ z35032 = z34072) → ∀ μ35036 : mM, mU μ34932 165 (z34931.toNat) (0 : Int) μ35036 → mT w μ35036 → rec4 ((z34931 + 1), μ35036)) ∧ ((z35032 = z34072) → ∀ μ35039 : mM, mU μ34932 165 (z34931.toNat) (1 : Int) μ35039 → mT w μ35039 → rec4 ((z34931 + 1), μ35039))))))
def WL_X12_pick_W_3 (w : mW) (p1 : Int) (p2 : Int) (f_ties : Int) (rec2 : (Int × Int × Int × Int × mM) → Prop) (z30674 : Int) (z30673 : Int) (z30672 : Int) (μ30675 : mM) (rec3 : (Int × Int × Int) → Prop) (s : (Int × Int × Int)) : Prop := ∀ z34073 : Int, ∀ z34072 : Int, ∀ z34071 : Int, s = (z34073, z34072, z34071) → (0 ≤ z34073 ∧ z34073 ≤ 1) → ((-2147483648) ≤ z34072 ∧ z34072 ≤ 2147483647) → (0 ≤ z34071 ∧ z34071 ≤ 20) → ((f_ties ≤ z34071) → ((¬ z34073 = 0) → loopF (WL_X12_pick_W_4 w p1 p2 f_ties rec2 z30674 μ30675 z34073 z34072) False 22 ((0 : Int), μ30675)) ∧ ((z34073 = 0) → rec2 (z30674, z30673, z30672, z34073, μ30675))) ∧ ((z34071 < f_ties) → ∀ z35045 : Int, μ30675 126 ((40 * (4 + z34071)).toNat) = z35045 → ((-2147483648 ≤ z35045 ∧ z35045 ≤ 2147483647) ∧ ((40 * (4 + z34071)) % 40 = 0 → -1 ≤ z35045 ∧ z35045 ≤ 9) ∧ ((40 * (4 + z34071)) % 40 = 4 → 0 ≤ z35045 ∧ z35045 ≤ 20) ∧ ((40 * (4 + z34071)) % 40 = 5 → 0 ≤ z35045 ∧ z35045 ≤ 8)) → WP_X12_isThere_W w μ30675 (4 + z34071) (fun z35053 _ => (0 ≤ z35053 ∧ z35053 ≤ 1) → ((z35053 = 0) → rec3 (z34073, z34072, (z34071 + 1))) ∧ ((¬ z35053 = 0) → ∀ z35061 : Int, μ30675 126 (((40 * (4 + z34071)) + 4).toNat) = z35061 → ((-2147483648 ≤ z35061 ∧ z35061 ≤ 2147483647) ∧ (((40 * (4 + z34071)) + 4) % 40 = 0 → -1 ≤ z35061 ∧ z35061 ≤ 9) ∧ (((40 * (4 + z34071)) + 4) % 40 = 4 → 0 ≤ z35061 ∧ z35061 ≤ 20) ∧ (((40 * (4 + z34071)) + 4) % 40 = 5 → 0 ≤ z35061 ∧ z35061 ≤ 8)) → ((¬ z35061 = 0) → ∀ z35067 : Int, μ30675 126 (((40 * (4 + z34071)) + 6).toNat) = z35067 → ((-2147483648 ≤ z35067 ∧ z35067 ≤ 2147483647) ∧ (((40 * (4 + z34071)) + 6) % 40 = 0 → -1 ≤ z35067 ∧ z35067 ≤ 9) ∧ (((40 * (4 + z34071)) + 6) % 40 = 4 → 0 ≤ z35067 ∧ z35067 ≤ 20) ∧ (((40 * (4 + z34071)) + 6) % 40 = 5 → 0 ≤ z35067 ∧ z35067 ≤ 8)) → ((z30673 = 0) → ((z34073 = 0) → rec3 ((1 : Int), z35067, (z34071 + 1))) ∧ ((¬ z34073 = 0) → WP_X12_isBelow_W w μ30675 z35067 z34072 (fun z35079 _ => (0 ≤ z35079 ∧ z35079 ≤ 1) → ((z35079 = 0) → rec3 (z34073, z34072, (z34071 + 1))) ∧ ((¬ z35079 = 0) → rec3 ((1 : Int), z35067, (z34071 + 1)))))) ∧ ((¬ z30673 = 0) → WP_X12_isBelow_W w μ30675 z30672 z35067 (fun z35091 _ => (0 ≤ z35091 ∧ z35091 ≤ 1) → ((z35091 = 0) → rec3 (z34073, z34072, (z34071 + 1))) ∧ ((¬ z35091 = 0) → ((z34073 = 0) → rec3 ((1 : Int), z35067, (z34071 + 1))) ∧ ((¬ z34073 = 0) → WP_X12_isBelow_W w μ30675 z35067 z34072 (fun z35105 _ => (0 ≤ z35105 ∧ z35105 ≤ 1) → ((z35105 = 0) → rec3 (z34073, z34072, (z34071 + 1))) ∧ ((¬ z35105 = 0) → rec3 ((1 : Int), z35067, (z34071 + 1))))))))) ∧ ((z35061 = 0) → rec3 (z34073, z34072, (z34071 + 1))))))
def WL_X12_pick_W_2 (w : mW) (p1 : Int) (p2 : Int) (Q : Int → mM → Prop) (f_ties : Int) (μ16647 : mM) (rec2 : (Int × Int × Int × Int × mM) → Prop) (s : (Int × Int × Int × Int × mM)) : Prop := ∀ z30674 : Int, ∀ z30673 : Int, ∀ z30672 : Int, ∀ z30671 : Int, ∀ μ30675 : mM, s = (z30674, z30673, z30672, z30671, μ30675) → ((-99999999) ≤ z30674 ∧ z30674 ≤ 19) → (0 ≤ z30673 ∧ z30673 ≤ 1) → ((-2147483648) ≤ z30672 ∧ z30672 ≤ 2147483647) → (0 ≤ z30671 ∧ z30671 ≤ 1) → mT w μ30675 → mF [165999] w μ16647 μ30675 → ((z30671 = 0) → Q z30674 μ30675) ∧ ((¬ z30671 = 0) → loopF (WL_X12_pick_W_3 w p1 p2 f_ties rec2 z30674 z30673 z30672 μ30675) False 22 ((0 : Int), (0 : Int), (0 : Int)))
def WL_X12_pick_W_1 (w : mW) (p1 : Int) (p2 : Int) (Q : Int → mM → Prop) (f_ties : Int) (μ16647 : mM) (rec1 : (Int × Int) → Prop) (s : (Int × Int)) : Prop := ∀ z29594 : Int, ∀ z29593 : Int, s = (z29594, z29593) → ((-99999999) ≤ z29594 ∧ z29594 ≤ 19) → (0 ≤ z29593 ∧ z29593 ≤ 20) → ((f_ties ≤ z29593) → loopF (WL_X12_pick_W_2 w p1 p2 Q f_ties μ16647) False 8589934594 (z29594, (0 : Int), (0 : Int), (1 : Int), μ16647)) ∧ ((z29593 < f_ties) → ∀ z35114 : Int, μ16647 126 ((40 * (4 + z29593)).toNat) = z35114 → ((-2147483648 ≤ z35114 ∧ z35114 ≤ 2147483647) ∧ ((40 * (4 + z29593)) % 40 = 0 → -1 ≤ z35114 ∧ z35114 ≤ 9) ∧ ((40 * (4 + z29593)) % 40 = 4 → 0 ≤ z35114 ∧ z35114 ≤ 20) ∧ ((40 * (4 + z29593)) % 40 = 5 → 0 ≤ z35114 ∧ z35114 ≤ 8)) → WP_X12_isThere_W w μ16647 (4 + z29593) (fun z35122 _ => (0 ≤ z35122 ∧ z35122 ≤ 1) → ((z35122 = 0) → rec1 (z29594, (z29593 + 1))) ∧ ((¬ z35122 = 0) → ∀ z35130 : Int, μ16647 126 (((40 * (4 + z29593)) + 4).toNat) = z35130 → ((-2147483648 ≤ z35130 ∧ z35130 ≤ 2147483647) ∧ (((40 * (4 + z29593)) + 4) % 40 = 0 → -1 ≤ z35130 ∧ z35130 ≤ 9) ∧ (((40 * (4 + z29593)) + 4) % 40 = 4 → 0 ≤ z35130 ∧ z35130 ≤ 20) ∧ (((40 * (4 + z29593)) + 4) % 40 = 5 → 0 ≤ z35130 ∧ z35130 ≤ 8)) → ((¬ z35130 = 0) → rec1 (z29594, (z29593 + 1))) ∧ ((z35130 = 0) → ((z29594 = (-99999999)) → rec1 (z29593, (z29593 + 1))) ∧ ((¬ z29594 = (-99999999)) → WP_X12_beats_W w μ16647 p1 z29593 z29594 p2 (fun z35144 _ => (0 ≤ z35144 ∧ z35144 ≤ 1) → ((z35144 = 0) → rec1 (z29594, (z29593 + 1))) ∧ ((¬ z35144 = 0) → rec1 (z29593, (z29593 + 1)))))))))
def WL_X12_pick_W_5 (w : mW) (p1 : Int) (p2 : Int) (Q : Int → mM → Prop) (f_ties : Int) (μ16647 : mM) (rec5 : (Int × mM) → Prop) (s : (Int × mM)) : Prop := ∀ z35469 : Int, ∀ μ35470 : mM, s = (z35469, μ35470) → (0 ≤ z35469 ∧ z35469 ≤ 20) → mT w μ35470 → mF [165999] w μ16647 μ35470 → ((f_ties ≤ z35469) → WP_X12_best_Wl w μ35470 p1 p2 (fun z35501 _ => ((-99999999) ≤ z35501 ∧ z35501 ≤ 19) → Q z35501 μ35470)) ∧ ((z35469 < f_ties) → ∀ z35504 : Int, μ35470 126 ((40 * (4 + z35469)).toNat) = z35504 → ((-2147483648 ≤ z35504 ∧ z35504 ≤ 2147483647) ∧ ((40 * (4 + z35469)) % 40 = 0 → -1 ≤ z35504 ∧ z35504 ≤ 9) ∧ ((40 * (4 + z35469)) % 40 = 4 → 0 ≤ z35504 ∧ z35504 ≤ 20) ∧ ((40 * (4 + z35469)) % 40 = 5 → 0 ≤ z35504 ∧ z35504 ≤ 8)) → WP_X12_isThere_W w μ35470 (4 + z35469) (fun z35512 _ => (0 ≤ z35512 ∧ z35512 ≤ 1) → ∀ μ35513 : mM, mU μ35470 165 (z35469.toNat) z35512 μ35513 → mT w μ35513 → rec5 ((z35469 + 1), μ35513)))
def WP_X12_pick_W (w : mW) (μ : mM) (p1 : Int) (p2 : Int) (Q : Int → mM → Prop) : Prop := ∀ f_ties : Int, μ 106 6 = f_ties → (0 ≤ f_ties ∧ f_ties ≤ 20) → WP_X12_candidates_W w μ p1 p2 (fun μ16647 => mT w μ16647 → mF [106026, 106027, 106028, 106029, 106030, 106031, 126999, 151999, 152999, 153999] w μ μ16647 → ∀ z16651 : Int, μ16647 164 (p1.toNat) = z16651 → (0 ≤ z16651 ∧ z16651 ≤ 1) → ((¬ z16651 = 0) → loopF (WL_X12_pick_W_1 w p1 p2 Q f_ties μ16647) False 22 (((-99999999) : Int), (0 : Int))) ∧ ((z16651 = 0) → loopF (WL_X12_pick_W_5 w p1 p2 Q f_ties μ16647) False 22 ((0 : Int), μ16647)))
theorem vc_X12_pick_W_2 {f_ties z29593 : Int} (h0 : (21 - z29593) < ((0 : Nat) : Int)) (h1 : z29593 ≤ f_ties) (h2 : 0 ≤ f_ties ∧ f_ties ≤ 20) (h3 : 0 ≤ z29593 ∧ z29593 ≤ 20) : False := by omega
theorem vc_X12_pick_W_3 {z30671 z30672 z30673 : Int} (h0 : (((4294967296 * (2 - z30673)) - (z30672 % 4294967296)) + z30671) < ((0 : Nat) : Int)) (h1 : 0 ≤ z30671 ∧ z30671 ≤ 1) (h2 : (-2147483648) ≤ z30672 ∧ z30672 ≤ 2147483647) (h3 : 0 ≤ z30673 ∧ z30673 ≤ 1) : False := by omega
theorem vc_X12_pick_W_6 {z30674 : Int} (h0 : (-99999999) ≤ z30674 ∧ z30674 ≤ 19) (h1 : z30674 = (-99999999) ∨ (0 ≤ z30674 ∧ z30674 ≤ 19)) : z30674 = -99999999 ∨ (0 ≤ z30674 ∧ z30674 ≤ 19) := by omega
theorem vc_X12_pick_W_8 {f_ties z29593 z34071 : Int} (h0 : (21 - z34071) < ((0 : Nat) : Int)) (h1 : z34071 ≤ f_ties) (h2 : z29593 ≤ f_ties) (h3 : f_ties ≤ z29593) (h4 : 0 ≤ f_ties ∧ f_ties ≤ 20) (h5 : 0 ≤ z29593 ∧ z29593 ≤ 20) (h6 : 0 ≤ z34071 ∧ z34071 ≤ 20) : False := by omega
theorem vc_X12_pick_W_9 {z30672 z30673 z34072 z34073 : Int} (h0 : ¬ z34073 = 0) (h1 : z34073 = 0 ∨ z30673 = 0 ∨ z30672 % 4294967296 < z34072 % 4294967296) (h2 : (-2147483648) ≤ z30672 ∧ z30672 ≤ 2147483647) (h3 : 0 ≤ z30673 ∧ z30673 ≤ 1) (h4 : (-2147483648) ≤ z34072 ∧ z34072 ≤ 2147483647) (h5 : 0 ≤ z34073 ∧ z34073 ≤ 1) : 1 ≤ z34073 ∧ z34073 ≤ 1 := by omega
theorem vc_X12_pick_W_10 {f_ties z29593 z34071 : Int} (h0 : z29593 ≤ f_ties) (h1 : f_ties ≤ z29593) (h2 : z34071 ≤ f_ties) (h3 : f_ties ≤ z34071) (h4 : 0 ≤ f_ties ∧ f_ties ≤ 20) (h5 : 0 ≤ z29593 ∧ z29593 ≤ 20) (h6 : 0 ≤ z34071 ∧ z34071 ≤ 20) : z34071 ≤ f_ties := by omega
theorem vc_X12_pick_W_11 {z30672 z30673 z34072 z34073 : Int} (h0 : z34073 = 0 ∨ z30673 = 0 ∨ z30672 % 4294967296 < z34072 % 4294967296) (h1 : ¬ z34073 = 0) (h2 : (-2147483648) ≤ z30672 ∧ z30672 ≤ 2147483647) (h3 : 0 ≤ z30673 ∧ z30673 ≤ 1) (h4 : (-2147483648) ≤ z34072 ∧ z34072 ≤ 2147483647) (h5 : 1 ≤ z34073 ∧ z34073 ≤ 1) : ¬ z34073 = 0 := by omega
theorem vc_X12_pick_W_12 {f_ties z29593 z34071 z34931 : Int} (h0 : (21 - z34931) < ((0 : Nat) : Int)) (h1 : z34931 ≤ f_ties) (h2 : z29593 ≤ f_ties) (h3 : f_ties ≤ z29593) (h4 : z34071 ≤ f_ties) (h5 : f_ties ≤ z34071) (h6 : 0 ≤ f_ties ∧ f_ties ≤ 20) (h7 : 0 ≤ z29593 ∧ z29593 ≤ 20) (h8 : 0 ≤ z34071 ∧ z34071 ≤ 20) (h9 : 0 ≤ z34931 ∧ z34931 ≤ 20) : False := by omega
theorem vc_X12_pick_W_13 {f_ties z29593 z34071 z34931 z34987 : Int} (h0 : z29593 ≤ f_ties) (h1 : f_ties ≤ z29593) (h2 : z34071 ≤ f_ties) (h3 : f_ties ≤ z34071) (h4 : z34931 ≤ f_ties) (h5 : f_ties ≤ z34931) (h6 : z34987 < f_ties) (h7 : z34987 = -99999999 ∨ (0 ≤ z34987 ∧ z34987 ≤ 19)) (h8 : 0 ≤ f_ties ∧ f_ties ≤ 20) (h9 : 0 ≤ z29593 ∧ z29593 ≤ 20) (h10 : 0 ≤ z34071 ∧ z34071 ≤ 20) (h11 : 0 ≤ z34931 ∧ z34931 ≤ 20) (h12 : (-99999999) ≤ z34987 ∧ z34987 ≤ 19) : f_ties ≤ z34931 := by omega
theorem vc_X12_pick_W_14 {f_ties z29593 z34071 z34931 z34987 : Int} (h0 : z29593 ≤ f_ties) (h1 : f_ties ≤ z29593) (h2 : z34071 ≤ f_ties) (h3 : f_ties ≤ z34071) (h4 : z34931 ≤ f_ties) (h5 : f_ties ≤ z34931) (h6 : z34987 = -99999999 ∨ (0 ≤ z34987 ∧ z34987 ≤ 19)) (h7 : z34987 < f_ties) (h8 : 0 ≤ f_ties ∧ f_ties ≤ 20) (h9 : 0 ≤ z29593 ∧ z29593 ≤ 20) (h10 : 0 ≤ z34071 ∧ z34071 ≤ 20) (h11 : 0 ≤ z34931 ∧ z34931 ≤ 20) (h12 : (-99999999) ≤ z34987 ∧ z34987 ≤ 19) : z34987 < f_ties := by omega
theorem vc_X12_pick_W_15 {f_ties z29593 z34071 z34931 z34987 : Int} (h0 : z34987 = -99999999 ∨ (0 ≤ z34987 ∧ z34987 ≤ 19)) (h1 : z34987 < f_ties) (h2 : z29593 ≤ f_ties) (h3 : f_ties ≤ z29593) (h4 : z34071 ≤ f_ties) (h5 : f_ties ≤ z34071) (h6 : z34931 ≤ f_ties) (h7 : f_ties ≤ z34931) (h8 : 0 ≤ f_ties ∧ f_ties ≤ 20) (h9 : 0 ≤ z29593 ∧ z29593 ≤ 20) (h10 : 0 ≤ z34071 ∧ z34071 ≤ 20) (h11 : 0 ≤ z34931 ∧ z34931 ≤ 20) (h12 : (-99999999) ≤ z34987 ∧ z34987 ≤ 19) : z34987 = -99999999 ∨ (0 ≤ z34987 ∧ z34987 ≤ 19) := by omega
theorem vc_X12_pick_W_16 {f_ties z34987 : Int} (h0 : 0 ≤ z34987) (h1 : z34987 = -99999999 ∨ (0 ≤ z34987 ∧ z34987 ≤ 19)) (h2 : z34987 < f_ties) (h3 : 0 ≤ f_ties ∧ f_ties ≤ 20) (h4 : (-99999999) ≤ z34987 ∧ z34987 ≤ 19) : 0 ≤ z34987 ∧ z34987 ≤ 19 := by omega
theorem vc_X12_pick_W_17 {z30674 : Int} (h0 : z30674 = (-99999999)) (h1 : (-99999999) ≤ z30674 ∧ z30674 ≤ 19) (h2 : z30674 = (-99999999) ∨ (0 ≤ z30674 ∧ z30674 ≤ 19)) : (-99999999) ≤ z30674 ∧ z30674 ≤ (-99999999) := by omega
theorem vc_X12_pick_W_18 {N z30671 z30672 z30673 z34072 z34073 : Int} (h0 : (((4294967296 * (2 - z30673)) - (z30672 % 4294967296)) + z30671) < N + 1) (h1 : ¬ z30671 = 0) (h2 : z34073 = 0 ∨ z30673 = 0 ∨ z30672 % 4294967296 < z34072 % 4294967296) (h3 : ¬ z34073 = 0) (h4 : 1 ≤ z30671 ∧ z30671 ≤ 1) (h5 : (-2147483648) ≤ z30672 ∧ z30672 ≤ 2147483647) (h6 : 0 ≤ z30673 ∧ z30673 ≤ 1) (h7 : (-2147483648) ≤ z34072 ∧ z34072 ≤ 2147483647) (h8 : 1 ≤ z34073 ∧ z34073 ≤ 1) : (((4294967296 * (2 - 1)) - (z34072 % 4294967296)) + z34073) < N := by omega
theorem vc_X12_pick_W_19 {f_ties z29593 z34071 z34931 z34987 : Int} (h0 : z34987 = -99999999 ∨ (0 ≤ z34987 ∧ z34987 ≤ 19)) (h1 : z34987 < f_ties) (h2 : 0 ≤ z34987) (h3 : z29593 ≤ f_ties) (h4 : f_ties ≤ z29593) (h5 : z34071 ≤ f_ties) (h6 : f_ties ≤ z34071) (h7 : z34931 ≤ f_ties) (h8 : f_ties ≤ z34931) (h9 : 0 ≤ f_ties ∧ f_ties ≤ 20) (h10 : 0 ≤ z29593 ∧ z29593 ≤ 20) (h11 : 0 ≤ z34071 ∧ z34071 ≤ 20) (h12 : 0 ≤ z34931 ∧ z34931 ≤ 20) (h13 : 0 ≤ z34987 ∧ z34987 ≤ 19) : z34987 = (-99999999) ∨ (0 ≤ z34987 ∧ z34987 ≤ 19) := by omega
theorem vc_X12_pick_W_20 {z30674 : Int} (h0 : ¬ z30674 = (-99999999)) (h1 : (-99999999) ≤ z30674 ∧ z30674 ≤ 19) (h2 : z30674 = (-99999999) ∨ (0 ≤ z30674 ∧ z30674 ≤ 19)) : 0 ≤ z30674 ∧ z30674 ≤ 19 := by omega
theorem vc_X12_pick_W_22 {z30674 : Int} (h0 : ¬ z30674 = (-99999999)) (h1 : 0 ≤ z30674 ∧ z30674 ≤ 19) (h2 : z30674 = (-99999999) ∨ (0 ≤ z30674 ∧ z30674 ≤ 19)) : z30674 = (-99999999) ∨ (0 ≤ z30674 ∧ z30674 ≤ 19) := by omega
theorem vc_X12_pick_W_24 {f_ties z29593 z34071 z34931 : Int} (h0 : z34931 < f_ties) (h1 : z29593 ≤ f_ties) (h2 : f_ties ≤ z29593) (h3 : z34071 ≤ f_ties) (h4 : f_ties ≤ z34071) (h5 : z34931 ≤ f_ties) (h6 : 0 ≤ f_ties ∧ f_ties ≤ 20) (h7 : 0 ≤ z29593 ∧ z29593 ≤ 20) (h8 : 0 ≤ z34071 ∧ z34071 ≤ 20) (h9 : 0 ≤ z34931 ∧ z34931 ≤ 20) : 0 ≤ z34931 ∧ z34931 ≤ 19 := by omega
theorem vc_X12_pick_W_25 {f_ties z29593 z34071 z34931 : Int} (h0 : z34931 < f_ties) (h1 : z29593 ≤ f_ties) (h2 : f_ties ≤ z29593) (h3 : z34071 ≤ f_ties) (h4 : f_ties ≤ z34071) (h5 : z34931 ≤ f_ties) (h6 : 0 ≤ f_ties ∧ f_ties ≤ 20) (h7 : 0 ≤ z29593 ∧ z29593 ≤ 20) (h8 : 0 ≤ z34071 ∧ z34071 ≤ 20) (h9 : 0 ≤ z34931 ∧ z34931 ≤ 19) : 1 ≤ f_ties ∧ f_ties ≤ 20 := by omega
theorem vc_X12_pick_W_26 {f_ties z29593 z34071 z34931 : Int} (h0 : z34931 ≤ f_ties) (h1 : z34931 < f_ties) (h2 : z29593 ≤ f_ties) (h3 : f_ties ≤ z29593) (h4 : z34071 ≤ f_ties) (h5 : f_ties ≤ z34071) (h6 : 1 ≤ f_ties ∧ f_ties ≤ 20) (h7 : 0 ≤ z29593 ∧ z29593 ≤ 20) (h8 : 0 ≤ z34071 ∧ z34071 ≤ 20) (h9 : 0 ≤ z34931 ∧ z34931 ≤ 19) : 0 ≤ (40 * (4 + z34931)) := by omega
theorem vc_X12_pick_W_27 {f_ties z29593 z34071 z34931 : Int} (h0 : z34931 ≤ f_ties) (h1 : z34931 < f_ties) (h2 : z29593 ≤ f_ties) (h3 : f_ties ≤ z29593) (h4 : z34071 ≤ f_ties) (h5 : f_ties ≤ z34071) (h6 : 1 ≤ f_ties ∧ f_ties ≤ 20) (h7 : 0 ≤ z29593 ∧ z29593 ≤ 20) (h8 : 0 ≤ z34071 ∧ z34071 ≤ 20) (h9 : 0 ≤ z34931 ∧ z34931 ≤ 19) : (40 * (4 + z34931)) % 40 = 0 := by omega
theorem vc_X12_pick_W_31 {f_ties z29593 z34071 z34931 : Int} (h0 : z29593 ≤ f_ties) (h1 : f_ties ≤ z29593) (h2 : z34071 ≤ f_ties) (h3 : f_ties ≤ z34071) (h4 : z34931 ≤ f_ties) (h5 : z34931 < f_ties) (h6 : 1 ≤ f_ties ∧ f_ties ≤ 20) (h7 : 0 ≤ z29593 ∧ z29593 ≤ 20) (h8 : 0 ≤ z34071 ∧ z34071 ≤ 20) (h9 : 0 ≤ z34931 ∧ z34931 ≤ 19) : (z34931 + 1) ≤ f_ties := by omega
theorem vc_X12_pick_W_32 {N f_ties z29593 z34071 z34931 : Int} (h0 : (21 - z34931) < N + 1) (h1 : z34931 ≤ f_ties) (h2 : z34931 < f_ties) (h3 : z29593 ≤ f_ties) (h4 : f_ties ≤ z29593) (h5 : z34071 ≤ f_ties) (h6 : f_ties ≤ z34071) (h7 : 1 ≤ f_ties ∧ f_ties ≤ 20) (h8 : 0 ≤ z29593 ∧ z29593 ≤ 20) (h9 : 0 ≤ z34071 ∧ z34071 ≤ 20) (h10 : 0 ≤ z34931 ∧ z34931 ≤ 19) : (21 - (z34931 + 1)) < N := by omega
theorem vc_X12_pick_W_33 {f_ties z29593 z34071 z34931 : Int} (h0 : z34931 ≤ f_ties) (h1 : z34931 < f_ties) (h2 : z29593 ≤ f_ties) (h3 : f_ties ≤ z29593) (h4 : z34071 ≤ f_ties) (h5 : f_ties ≤ z34071) (h6 : 1 ≤ f_ties ∧ f_ties ≤ 20) (h7 : 0 ≤ z29593 ∧ z29593 ≤ 20) (h8 : 0 ≤ z34071 ∧ z34071 ≤ 20) (h9 : 0 ≤ z34931 ∧ z34931 ≤ 19) : 0 ≤ z34931 := by omega
theorem vc_X12_pick_W_34 {f_ties z29593 z34071 z34931 : Int} (h0 : z34931 ≤ f_ties) (h1 : z34931 < f_ties) (h2 : z29593 ≤ f_ties) (h3 : f_ties ≤ z29593) (h4 : z34071 ≤ f_ties) (h5 : f_ties ≤ z34071) (h6 : 1 ≤ f_ties ∧ f_ties ≤ 20) (h7 : 0 ≤ z29593 ∧ z29593 ≤ 20) (h8 : 0 ≤ z34071 ∧ z34071 ≤ 20) (h9 : 0 ≤ z34931 ∧ z34931 ≤ 19) : (40 * (4 + z34931)) = 160 + 40 * z34931 := by omega
theorem vc_X12_pick_W_35 {z35003 z35011 : Int} (h0 : (z35011 = 1 → 0 ≤ z35003)) (h1 : (z35011 = 0 → z35003 < 0)) (h2 : z35003 < 0) (h3 : z35011 = 0) (h4 : (-1) ≤ z35003 ∧ z35003 ≤ (-1)) (h5 : 0 ≤ z35011 ∧ z35011 ≤ 0) : z35003 < 0 := by omega
theorem vc_X12_pick_W_39 {f_ties z29593 z34071 z34931 : Int} (h0 : z34931 ≤ f_ties) (h1 : z34931 < f_ties) (h2 : z29593 ≤ f_ties) (h3 : f_ties ≤ z29593) (h4 : z34071 ≤ f_ties) (h5 : f_ties ≤ z34071) (h6 : 1 ≤ f_ties ∧ f_ties ≤ 20) (h7 : 0 ≤ z29593 ∧ z29593 ≤ 20) (h8 : 0 ≤ z34071 ∧ z34071 ≤ 20) (h9 : 0 ≤ z34931 ∧ z34931 ≤ 19) : ((40 * (4 + z34931)) + 4) % 40 = 4 := by omega
theorem vc_X12_pick_W_41 {f_ties z29593 z34071 z34931 : Int} (h0 : z34931 ≤ f_ties) (h1 : z34931 < f_ties) (h2 : z29593 ≤ f_ties) (h3 : f_ties ≤ z29593) (h4 : z34071 ≤ f_ties) (h5 : f_ties ≤ z34071) (h6 : 1 ≤ f_ties ∧ f_ties ≤ 20) (h7 : 0 ≤ z29593 ∧ z29593 ≤ 20) (h8 : 0 ≤ z34071 ∧ z34071 ≤ 20) (h9 : 0 ≤ z34931 ∧ z34931 ≤ 19) : ((40 * (4 + z34931)) + 4) = 164 + 40 * z34931 := by omega
theorem vc_X12_pick_W_42 {z35022 : Int} (h0 : z35022 ≤ 0) (h1 : 0 ≤ z35022 ∧ z35022 ≤ 0) : z35022 ≤ 0 := by omega
theorem vc_X12_pick_W_44 {f_ties z29593 z34071 z34931 : Int} (h0 : z34931 ≤ f_ties) (h1 : z34931 < f_ties) (h2 : z29593 ≤ f_ties) (h3 : f_ties ≤ z29593) (h4 : z34071 ≤ f_ties) (h5 : f_ties ≤ z34071) (h6 : 1 ≤ f_ties ∧ f_ties ≤ 20) (h7 : 0 ≤ z29593 ∧ z29593 ≤ 20) (h8 : 0 ≤ z34071 ∧ z34071 ≤ 20) (h9 : 0 ≤ z34931 ∧ z34931 ≤ 19) : ((40 * (4 + z34931)) + 6) = 166 + 40 * z34931 := by omega
theorem vc_X12_pick_W_45 {z30672 z30673 z34072 z34073 z35032 : Int} (h0 : z34073 = 0 ∨ z30673 = 0 ∨ z30672 % 4294967296 < z34072 % 4294967296) (h1 : ¬ z35032 = z34072) (h2 : ¬ z34073 = 0) (h3 : (-2147483648) ≤ z30672 ∧ z30672 ≤ 2147483647) (h4 : 0 ≤ z30673 ∧ z30673 ≤ 1) (h5 : (-2147483648) ≤ z34072 ∧ z34072 ≤ 2147483647) (h6 : 1 ≤ z34073 ∧ z34073 ≤ 1) (h7 : (-2147483648) ≤ z35032 ∧ z35032 ≤ 2147483647) : ¬ z35032 = z34072 := by omega
theorem vc_X12_pick_W_46 {z35003 z35011 : Int} (h0 : (z35011 = 1 → 0 ≤ z35003)) (h1 : (z35011 = 0 → z35003 < 0)) (h2 : 0 ≤ z35003) (h3 : ¬ z35011 = 0) (h4 : 0 ≤ z35003 ∧ z35003 ≤ 9) (h5 : 1 ≤ z35011 ∧ z35011 ≤ 1) : 0 ≤ z35003 := by omega
theorem vc_X12_pick_W_47 {f_ties z29593 z34071 : Int} (h0 : z29593 ≤ f_ties) (h1 : f_ties ≤ z29593) (h2 : z34071 ≤ f_ties) (h3 : f_ties ≤ z34071) (h4 : 0 ≤ f_ties ∧ f_ties ≤ 20) (h5 : 0 ≤ z29593 ∧ z29593 ≤ 20) (h6 : 0 ≤ z34071 ∧ z34071 ≤ 20) : (0 : Int) ≤ f_ties := by omega
theorem vc_X12_pick_W_49 {z30672 z30673 z34072 z34073 : Int} (h0 : z34073 = 0) (h1 : z34073 = 0 ∨ z30673 = 0 ∨ z30672 % 4294967296 < z34072 % 4294967296) (h2 : (-2147483648) ≤ z30672 ∧ z30672 ≤ 2147483647) (h3 : 0 ≤ z30673 ∧ z30673 ≤ 1) (h4 : (-2147483648) ≤ z34072 ∧ z34072 ≤ 2147483647) (h5 : 0 ≤ z34073 ∧ z34073 ≤ 1) : 0 ≤ z34073 ∧ z34073 ≤ 0 := by omega
theorem vc_X12_pick_W_50 {N z30671 z30672 z30673 z34072 z34073 : Int} (h0 : (((4294967296 * (2 - z30673)) - (z30672 % 4294967296)) + z30671) < N + 1) (h1 : ¬ z30671 = 0) (h2 : z34073 = 0 ∨ z30673 = 0 ∨ z30672 % 4294967296 < z34072 % 4294967296) (h3 : z34073 = 0) (h4 : 1 ≤ z30671 ∧ z30671 ≤ 1) (h5 : (-2147483648) ≤ z30672 ∧ z30672 ≤ 2147483647) (h6 : 0 ≤ z30673 ∧ z30673 ≤ 1) (h7 : (-2147483648) ≤ z34072 ∧ z34072 ≤ 2147483647) (h8 : 0 ≤ z34073 ∧ z34073 ≤ 0) : (((4294967296 * (2 - z30673)) - (z30672 % 4294967296)) + z34073) < N := by omega
theorem vc_X12_pick_W_51 {z30674 : Int} (h0 : (-99999999) ≤ z30674 ∧ z30674 ≤ 19) (h1 : z30674 = (-99999999) ∨ (0 ≤ z30674 ∧ z30674 ≤ 19)) : z30674 = (-99999999) ∨ (0 ≤ z30674 ∧ z30674 ≤ 19) := by omega
theorem vc_X12_pick_W_52 {f_ties z29593 z34071 : Int} (h0 : z34071 < f_ties) (h1 : z29593 ≤ f_ties) (h2 : f_ties ≤ z29593) (h3 : z34071 ≤ f_ties) (h4 : 0 ≤ f_ties ∧ f_ties ≤ 20) (h5 : 0 ≤ z29593 ∧ z29593 ≤ 20) (h6 : 0 ≤ z34071 ∧ z34071 ≤ 20) : 0 ≤ z34071 ∧ z34071 ≤ 19 := by omega
theorem vc_X12_pick_W_53 {f_ties z29593 z34071 : Int} (h0 : z34071 < f_ties) (h1 : z29593 ≤ f_ties) (h2 : f_ties ≤ z29593) (h3 : z34071 ≤ f_ties) (h4 : 0 ≤ f_ties ∧ f_ties ≤ 20) (h5 : 0 ≤ z29593 ∧ z29593 ≤ 20) (h6 : 0 ≤ z34071 ∧ z34071 ≤ 19) : 1 ≤ f_ties ∧ f_ties ≤ 20 := by omega
theorem vc_X12_pick_W_54 {f_ties z29593 z34071 : Int} (h0 : z34071 ≤ f_ties) (h1 : z34071 < f_ties) (h2 : z29593 ≤ f_ties) (h3 : f_ties ≤ z29593) (h4 : 1 ≤ f_ties ∧ f_ties ≤ 20) (h5 : 0 ≤ z29593 ∧ z29593 ≤ 20) (h6 : 0 ≤ z34071 ∧ z34071 ≤ 19) : 0 ≤ (40 * (4 + z34071)) := by omega
theorem vc_X12_pick_W_55 {f_ties z29593 z34071 : Int} (h0 : z34071 ≤ f_ties) (h1 : z34071 < f_ties) (h2 : z29593 ≤ f_ties) (h3 : f_ties ≤ z29593) (h4 : 1 ≤ f_ties ∧ f_ties ≤ 20) (h5 : 0 ≤ z29593 ∧ z29593 ≤ 20) (h6 : 0 ≤ z34071 ∧ z34071 ≤ 19) : (40 * (4 + z34071)) % 40 = 0 := by omega
theorem vc_X12_pick_W_59 {f_ties z29593 z34071 : Int} (h0 : z29593 ≤ f_ties) (h1 : f_ties ≤ z29593) (h2 : z34071 ≤ f_ties) (h3 : z34071 < f_ties) (h4 : 1 ≤ f_ties ∧ f_ties ≤ 20) (h5 : 0 ≤ z29593 ∧ z29593 ≤ 20) (h6 : 0 ≤ z34071 ∧ z34071 ≤ 19) : (z34071 + 1) ≤ f_ties := by omega
theorem vc_X12_pick_W_60 {z30672 z30673 z34072 z34073 : Int} (h0 : z34073 = 0 ∨ z30673 = 0 ∨ z30672 % 4294967296 < z34072 % 4294967296) (h1 : (-2147483648) ≤ z30672 ∧ z30672 ≤ 2147483647) (h2 : 0 ≤ z30673 ∧ z30673 ≤ 1) (h3 : (-2147483648) ≤ z34072 ∧ z34072 ≤ 2147483647) (h4 : 0 ≤ z34073 ∧ z34073 ≤ 1) : z34073 = 0 ∨ z30673 = 0 ∨ z30672 % 4294967296 < z34072 % 4294967296 := by omega
theorem vc_X12_pick_W_61 {N f_ties z29593 z34071 : Int} (h0 : (21 - z34071) < N + 1) (h1 : z34071 ≤ f_ties) (h2 : z34071 < f_ties) (h3 : z29593 ≤ f_ties) (h4 : f_ties ≤ z29593) (h5 : 1 ≤ f_ties ∧ f_ties ≤ 20) (h6 : 0 ≤ z29593 ∧ z29593 ≤ 20) (h7 : 0 ≤ z34071 ∧ z34071 ≤ 19) : (21 - (z34071 + 1)) < N := by omega
theorem vc_X12_pick_W_62 {f_ties z29593 z34071 : Int} (h0 : z34071 ≤ f_ties) (h1 : z34071 < f_ties) (h2 : z29593 ≤ f_ties) (h3 : f_ties ≤ z29593) (h4 : 1 ≤ f_ties ∧ f_ties ≤ 20) (h5 : 0 ≤ z29593 ∧ z29593 ≤ 20) (h6 : 0 ≤ z34071 ∧ z34071 ≤ 19) : z34071 ≤ z34071 + 1 := by omega
theorem vc_X12_pick_W_66 {f_ties z29593 z34071 : Int} (h0 : z34071 ≤ f_ties) (h1 : z34071 < f_ties) (h2 : z29593 ≤ f_ties) (h3 : f_ties ≤ z29593) (h4 : 1 ≤ f_ties ∧ f_ties ≤ 20) (h5 : 0 ≤ z29593 ∧ z29593 ≤ 20) (h6 : 0 ≤ z34071 ∧ z34071 ≤ 19) : ((40 * (4 + z34071)) + 4) % 40 = 4 := by omega
theorem vc_X12_pick_W_68 {z30672 z30673 z34072 z34073 : Int} (h0 : z30673 = 0) (h1 : z34073 = 0 ∨ z30673 = 0 ∨ z30672 % 4294967296 < z34072 % 4294967296) (h2 : (-2147483648) ≤ z30672 ∧ z30672 ≤ 2147483647) (h3 : 0 ≤ z30673 ∧ z30673 ≤ 1) (h4 : (-2147483648) ≤ z34072 ∧ z34072 ≤ 2147483647) (h5 : 0 ≤ z34073 ∧ z34073 ≤ 1) : 0 ≤ z30673 ∧ z30673 ≤ 0 := by omega
theorem vc_X12_pick_W_69 {z30672 z30673 z34072 z34073 : Int} (h0 : z34073 = 0) (h1 : z34073 = 0 ∨ z30673 = 0 ∨ z30672 % 4294967296 < z34072 % 4294967296) (h2 : (-2147483648) ≤ z30672 ∧ z30672 ≤ 2147483647) (h3 : 0 ≤ z30673 ∧ z30673 ≤ 0) (h4 : (-2147483648) ≤ z34072 ∧ z34072 ≤ 2147483647) (h5 : 0 ≤ z34073 ∧ z34073 ≤ 1) : 0 ≤ z34073 ∧ z34073 ≤ 0 := by omega
theorem vc_X12_pick_W_70 {z30672 z30673 z34072 z34073 z35067 : Int} (h0 : z34073 = 0 ∨ z30673 = 0 ∨ z30672 % 4294967296 < z34072 % 4294967296) (h1 : z30673 = 0) (h2 : z34073 = 0) (h3 : (-2147483648) ≤ z30672 ∧ z30672 ≤ 2147483647) (h4 : 0 ≤ z30673 ∧ z30673 ≤ 0) (h5 : (-2147483648) ≤ z34072 ∧ z34072 ≤ 2147483647) (h6 : 0 ≤ z34073 ∧ z34073 ≤ 0) (h7 : (-2147483648) ≤ z35067 ∧ z35067 ≤ 2147483647) : (1 : Int) = 0 ∨ z30673 = 0 ∨ z30672 % 4294967296 < z35067 % 4294967296 := by omega
theorem vc_X12_pick_W_71 {f_ties z29593 z34071 : Int} (h0 : z34071 ≤ f_ties) (h1 : z34071 < f_ties) (h2 : z29593 ≤ f_ties) (h3 : f_ties ≤ z29593) (h4 : 1 ≤ f_ties ∧ f_ties ≤ 20) (h5 : 0 ≤ z29593 ∧ z29593 ≤ 20) (h6 : 0 ≤ z34071 ∧ z34071 ≤ 19) : 0 ≤ z34071 := by omega
theorem vc_X12_pick_W_72 {f_ties z29593 z34071 : Int} (h0 : z34071 ≤ f_ties) (h1 : z34071 < f_ties) (h2 : z29593 ≤ f_ties) (h3 : f_ties ≤ z29593) (h4 : 1 ≤ f_ties ∧ f_ties ≤ 20) (h5 : 0 ≤ z29593 ∧ z29593 ≤ 20) (h6 : 0 ≤ z34071 ∧ z34071 ≤ 19) : (40 * (4 + z34071)) = 160 + 40 * z34071 := by omega
theorem vc_X12_pick_W_74 {f_ties z29593 z34071 : Int} (h0 : z34071 ≤ f_ties) (h1 : z34071 < f_ties) (h2 : z29593 ≤ f_ties) (h3 : f_ties ≤ z29593) (h4 : 1 ≤ f_ties ∧ f_ties ≤ 20) (h5 : 0 ≤ z29593 ∧ z29593 ≤ 20) (h6 : 0 ≤ z34071 ∧ z34071 ≤ 19) : ((40 * (4 + z34071)) + 4) = 164 + 40 * z34071 := by omega
theorem vc_X12_pick_W_75 {z35061 : Int} (h0 : ¬ z35061 = 0) (h1 : 1 ≤ z35061 ∧ z35061 ≤ 20) : 0 < z35061 := by omega
theorem vc_X12_pick_W_76 {f_ties z29593 z34071 : Int} (h0 : z34071 ≤ f_ties) (h1 : z34071 < f_ties) (h2 : z29593 ≤ f_ties) (h3 : f_ties ≤ z29593) (h4 : 1 ≤ f_ties ∧ f_ties ≤ 20) (h5 : 0 ≤ z29593 ∧ z29593 ≤ 20) (h6 : 0 ≤ z34071 ∧ z34071 ≤ 19) : ((40 * (4 + z34071)) + 6) = 166 + 40 * z34071 := by omega
theorem vc_X12_pick_W_77 {z30672 z30673 z34072 z34073 : Int} (h0 : ¬ z34073 = 0) (h1 : z34073 = 0 ∨ z30673 = 0 ∨ z30672 % 4294967296 < z34072 % 4294967296) (h2 : (-2147483648) ≤ z30672 ∧ z30672 ≤ 2147483647) (h3 : 0 ≤ z30673 ∧ z30673 ≤ 0) (h4 : (-2147483648) ≤ z34072 ∧ z34072 ≤ 2147483647) (h5 : 0 ≤ z34073 ∧ z34073 ≤ 1) : 1 ≤ z34073 ∧ z34073 ≤ 1 := by omega
theorem vc_X12_pick_W_78 {z34072 z35067 z35079 : Int} (h0 : z35079 = 0) (h1 : (z35079 = 1 → z35067 % 4294967296 < z34072 % 4294967296)) (h2 : (z35079 = 0 → z34072 % 4294967296 ≤ z35067 % 4294967296)) (h3 : (-2147483648) ≤ z34072 ∧ z34072 ≤ 2147483647) (h4 : (-2147483648) ≤ z35067 ∧ z35067 ≤ 2147483647) (h5 : 0 ≤ z35079 ∧ z35079 ≤ 1) : 0 ≤ z35079 ∧ z35079 ≤ 0 := by omega
theorem vc_X12_pick_W_79 {z30672 z30673 z34072 z34073 z35067 z35079 : Int} (h0 : (z35079 = 1 → z35067 % 4294967296 < z34072 % 4294967296)) (h1 : (z35079 = 0 → z34072 % 4294967296 ≤ z35067 % 4294967296)) (h2 : z35079 = 0) (h3 : z34073 = 0 ∨ z30673 = 0 ∨ z30672 % 4294967296 < z34072 % 4294967296) (h4 : (-2147483648) ≤ z30672 ∧ z30672 ≤ 2147483647) (h5 : 0 ≤ z30673 ∧ z30673 ≤ 0) (h6 : (-2147483648) ≤ z34072 ∧ z34072 ≤ 2147483647) (h7 : 1 ≤ z34073 ∧ z34073 ≤ 1) (h8 : (-2147483648) ≤ z35067 ∧ z35067 ≤ 2147483647) (h9 : 0 ≤ z35079 ∧ z35079 ≤ 0) : z35079 = 0 := by omega
theorem vc_X12_pick_W_80 {z30672 z30673 z34072 z34073 z35067 z35079 : Int} (h0 : z34073 = 0 ∨ z30673 = 0 ∨ z30672 % 4294967296 < z34072 % 4294967296) (h1 : z30673 = 0) (h2 : ¬ z34073 = 0) (h3 : (z35079 = 1 → z35067 % 4294967296 < z34072 % 4294967296)) (h4 : (z35079 = 0 → z34072 % 4294967296 ≤ z35067 % 4294967296)) (h5 : z34072 % 4294967296 ≤ z35067 % 4294967296) (h6 : z35079 = 0) (h7 : (-2147483648) ≤ z30672 ∧ z30672 ≤ 2147483647) (h8 : 0 ≤ z30673 ∧ z30673 ≤ 0) (h9 : (-2147483648) ≤ z34072 ∧ z34072 ≤ 2147483647) (h10 : 1 ≤ z34073 ∧ z34073 ≤ 1) (h11 : (-2147483648) ≤ z35067 ∧ z35067 ≤ 2147483647) (h12 : 0 ≤ z35079 ∧ z35079 ≤ 0) : z34073 = 0 ∨ z30673 = 0 ∨ z30672 % 4294967296 < z34072 % 4294967296 := by omega
theorem vc_X12_pick_W_81 {z34072 z35067 z35079 : Int} (h0 : ¬ z35079 = 0) (h1 : (z35079 = 1 → z35067 % 4294967296 < z34072 % 4294967296)) (h2 : (z35079 = 0 → z34072 % 4294967296 ≤ z35067 % 4294967296)) (h3 : (-2147483648) ≤ z34072 ∧ z34072 ≤ 2147483647) (h4 : (-2147483648) ≤ z35067 ∧ z35067 ≤ 2147483647) (h5 : 0 ≤ z35079 ∧ z35079 ≤ 1) : 1 ≤ z35079 ∧ z35079 ≤ 1 := by omega
theorem vc_X12_pick_W_82 {z30672 z30673 z34072 z34073 z35067 z35079 : Int} (h0 : (z35079 = 1 → z35067 % 4294967296 < z34072 % 4294967296)) (h1 : (z35079 = 0 → z34072 % 4294967296 ≤ z35067 % 4294967296)) (h2 : ¬ z35079 = 0) (h3 : z34073 = 0 ∨ z30673 = 0 ∨ z30672 % 4294967296 < z34072 % 4294967296) (h4 : (-2147483648) ≤ z30672 ∧ z30672 ≤ 2147483647) (h5 : 0 ≤ z30673 ∧ z30673 ≤ 0) (h6 : (-2147483648) ≤ z34072 ∧ z34072 ≤ 2147483647) (h7 : 1 ≤ z34073 ∧ z34073 ≤ 1) (h8 : (-2147483648) ≤ z35067 ∧ z35067 ≤ 2147483647) (h9 : 1 ≤ z35079 ∧ z35079 ≤ 1) : z35079 = 1 := by omega
theorem vc_X12_pick_W_83 {z30672 z30673 z34072 z34073 z35067 z35079 : Int} (h0 : z34073 = 0 ∨ z30673 = 0 ∨ z30672 % 4294967296 < z34072 % 4294967296) (h1 : z30673 = 0) (h2 : (z35079 = 1 → z35067 % 4294967296 < z34072 % 4294967296)) (h3 : (z35079 = 0 → z34072 % 4294967296 ≤ z35067 % 4294967296)) (h4 : z35067 % 4294967296 < z34072 % 4294967296) (h5 : ¬ z34073 = 0) (h6 : ¬ z35079 = 0) (h7 : (-2147483648) ≤ z30672 ∧ z30672 ≤ 2147483647) (h8 : 0 ≤ z30673 ∧ z30673 ≤ 0) (h9 : (-2147483648) ≤ z34072 ∧ z34072 ≤ 2147483647) (h10 : 1 ≤ z34073 ∧ z34073 ≤ 1) (h11 : (-2147483648) ≤ z35067 ∧ z35067 ≤ 2147483647) (h12 : 1 ≤ z35079 ∧ z35079 ≤ 1) : (1 : Int) = 0 ∨ z30673 = 0 ∨ z30672 % 4294967296 < z35067 % 4294967296 := by omega
theorem vc_X12_pick_W_84 {z30672 z30673 z34072 z34073 : Int} (h0 : ¬ z30673 = 0) (h1 : z34073 = 0 ∨ z30673 = 0 ∨ z30672 % 4294967296 < z34072 % 4294967296) (h2 : (-2147483648) ≤ z30672 ∧ z30672 ≤ 2147483647) (h3 : 0 ≤ z30673 ∧ z30673 ≤ 1) (h4 : (-2147483648) ≤ z34072 ∧ z34072 ≤ 2147483647) (h5 : 0 ≤ z34073 ∧ z34073 ≤ 1) : 1 ≤ z30673 ∧ z30673 ≤ 1 := by omega
theorem vc_X12_pick_W_85 {z30672 z35067 z35091 : Int} (h0 : z35091 = 0) (h1 : (z35091 = 1 → z30672 % 4294967296 < z35067 % 4294967296)) (h2 : (z35091 = 0 → z35067 % 4294967296 ≤ z30672 % 4294967296)) (h3 : (-2147483648) ≤ z30672 ∧ z30672 ≤ 2147483647) (h4 : (-2147483648) ≤ z35067 ∧ z35067 ≤ 2147483647) (h5 : 0 ≤ z35091 ∧ z35091 ≤ 1) : 0 ≤ z35091 ∧ z35091 ≤ 0 := by omega
theorem vc_X12_pick_W_86 {z30672 z30673 z34072 z34073 z35067 z35091 : Int} (h0 : (z35091 = 1 → z30672 % 4294967296 < z35067 % 4294967296)) (h1 : (z35091 = 0 → z35067 % 4294967296 ≤ z30672 % 4294967296)) (h2 : z35091 = 0) (h3 : z34073 = 0 ∨ z30673 = 0 ∨ z30672 % 4294967296 < z34072 % 4294967296) (h4 : (-2147483648) ≤ z30672 ∧ z30672 ≤ 2147483647) (h5 : 1 ≤ z30673 ∧ z30673 ≤ 1) (h6 : (-2147483648) ≤ z34072 ∧ z34072 ≤ 2147483647) (h7 : 0 ≤ z34073 ∧ z34073 ≤ 1) (h8 : (-2147483648) ≤ z35067 ∧ z35067 ≤ 2147483647) (h9 : 0 ≤ z35091 ∧ z35091 ≤ 0) : z35091 = 0 := by omega
theorem vc_X12_pick_W_87 {z30672 z30673 z34072 z34073 z35067 z35091 : Int} (h0 : z34073 = 0 ∨ z30673 = 0 ∨ z30672 % 4294967296 < z34072 % 4294967296) (h1 : ¬ z30673 = 0) (h2 : (z35091 = 1 → z30672 % 4294967296 < z35067 % 4294967296)) (h3 : (z35091 = 0 → z35067 % 4294967296 ≤ z30672 % 4294967296)) (h4 : z35067 % 4294967296 ≤ z30672 % 4294967296) (h5 : z35091 = 0) (h6 : (-2147483648) ≤ z30672 ∧ z30672 ≤ 2147483647) (h7 : 1 ≤ z30673 ∧ z30673 ≤ 1) (h8 : (-2147483648) ≤ z34072 ∧ z34072 ≤ 2147483647) (h9 : 0 ≤ z34073 ∧ z34073 ≤ 1) (h10 : (-2147483648) ≤ z35067 ∧ z35067 ≤ 2147483647) (h11 : 0 ≤ z35091 ∧ z35091 ≤ 0) : z34073 = 0 ∨ z30673 = 0 ∨ z30672 % 4294967296 < z34072 % 4294967296 := by omega
theorem vc_X12_pick_W_88 {z30672 z35067 z35091 : Int} (h0 : ¬ z35091 = 0) (h1 : (z35091 = 1 → z30672 % 4294967296 < z35067 % 4294967296)) (h2 : (z35091 = 0 → z35067 % 4294967296 ≤ z30672 % 4294967296)) (h3 : (-2147483648) ≤ z30672 ∧ z30672 ≤ 2147483647) (h4 : (-2147483648) ≤ z35067 ∧ z35067 ≤ 2147483647) (h5 : 0 ≤ z35091 ∧ z35091 ≤ 1) : 1 ≤ z35091 ∧ z35091 ≤ 1 := by omega
theorem vc_X12_pick_W_89 {z30672 z30673 z34072 z34073 z35067 z35091 : Int} (h0 : (z35091 = 1 → z30672 % 4294967296 < z35067 % 4294967296)) (h1 : (z35091 = 0 → z35067 % 4294967296 ≤ z30672 % 4294967296)) (h2 : ¬ z35091 = 0) (h3 : z34073 = 0 ∨ z30673 = 0 ∨ z30672 % 4294967296 < z34072 % 4294967296) (h4 : (-2147483648) ≤ z30672 ∧ z30672 ≤ 2147483647) (h5 : 1 ≤ z30673 ∧ z30673 ≤ 1) (h6 : (-2147483648) ≤ z34072 ∧ z34072 ≤ 2147483647) (h7 : 0 ≤ z34073 ∧ z34073 ≤ 1) (h8 : (-2147483648) ≤ z35067 ∧ z35067 ≤ 2147483647) (h9 : 1 ≤ z35091 ∧ z35091 ≤ 1) : z35091 = 1 := by omega
theorem vc_X12_pick_W_90 {z30672 z30673 z34072 z34073 : Int} (h0 : z34073 = 0) (h1 : z34073 = 0 ∨ z30673 = 0 ∨ z30672 % 4294967296 < z34072 % 4294967296) (h2 : (-2147483648) ≤ z30672 ∧ z30672 ≤ 2147483647) (h3 : 1 ≤ z30673 ∧ z30673 ≤ 1) (h4 : (-2147483648) ≤ z34072 ∧ z34072 ≤ 2147483647) (h5 : 0 ≤ z34073 ∧ z34073 ≤ 1) : 0 ≤ z34073 ∧ z34073 ≤ 0 := by omega
theorem vc_X12_pick_W_91 {z30672 z30673 z34072 z34073 z35067 z35091 : Int} (h0 : z34073 = 0 ∨ z30673 = 0 ∨ z30672 % 4294967296 < z34072 % 4294967296) (h1 : ¬ z30673 = 0) (h2 : (z35091 = 1 → z30672 % 4294967296 < z35067 % 4294967296)) (h3 : (z35091 = 0 → z35067 % 4294967296 ≤ z30672 % 4294967296)) (h4 : z30672 % 4294967296 < z35067 % 4294967296) (h5 : ¬ z35091 = 0) (h6 : z34073 = 0) (h7 : (-2147483648) ≤ z30672 ∧ z30672 ≤ 2147483647) (h8 : 1 ≤ z30673 ∧ z30673 ≤ 1) (h9 : (-2147483648) ≤ z34072 ∧ z34072 ≤ 2147483647) (h10 : 0 ≤ z34073 ∧ z34073 ≤ 0) (h11 : (-2147483648) ≤ z35067 ∧ z35067 ≤ 2147483647) (h12 : 1 ≤ z35091 ∧ z35091 ≤ 1) : (1 : Int) = 0 ∨ z30673 = 0 ∨ z30672 % 4294967296 < z35067 % 4294967296 := by omega
theorem vc_X12_pick_W_92 {z30672 z30673 z34072 z34073 : Int} (h0 : ¬ z34073 = 0) (h1 : z34073 = 0 ∨ z30673 = 0 ∨ z30672 % 4294967296 < z34072 % 4294967296) (h2 : (-2147483648) ≤ z30672 ∧ z30672 ≤ 2147483647) (h3 : 1 ≤ z30673 ∧ z30673 ≤ 1) (h4 : (-2147483648) ≤ z34072 ∧ z34072 ≤ 2147483647) (h5 : 0 ≤ z34073 ∧ z34073 ≤ 1) : 1 ≤ z34073 ∧ z34073 ≤ 1 := by omega
theorem vc_X12_pick_W_94 {z30672 z30673 z34072 z34073 z35067 z35091 z35105 : Int} (h0 : (z35105 = 1 → z35067 % 4294967296 < z34072 % 4294967296)) (h1 : (z35105 = 0 → z34072 % 4294967296 ≤ z35067 % 4294967296)) (h2 : z35105 = 0) (h3 : z34073 = 0 ∨ z30673 = 0 ∨ z30672 % 4294967296 < z34072 % 4294967296) (h4 : (z35091 = 1 → z30672 % 4294967296 < z35067 % 4294967296)) (h5 : (z35091 = 0 → z35067 % 4294967296 ≤ z30672 % 4294967296)) (h6 : z30672 % 4294967296 < z35067 % 4294967296) (h7 : (-2147483648) ≤ z30672 ∧ z30672 ≤ 2147483647) (h8 : 1 ≤ z30673 ∧ z30673 ≤ 1) (h9 : (-2147483648) ≤ z34072 ∧ z34072 ≤ 2147483647) (h10 : 1 ≤ z34073 ∧ z34073 ≤ 1) (h11 : (-2147483648) ≤ z35067 ∧ z35067 ≤ 2147483647) (h12 : 1 ≤ z35091 ∧ z35091 ≤ 1) (h13 : 0 ≤ z35105 ∧ z35105 ≤ 0) : z35105 = 0 := by omega
theorem vc_X12_pick_W_95 {z30672 z30673 z34072 z34073 z35067 z35091 z35105 : Int} (h0 : z34073 = 0 ∨ z30673 = 0 ∨ z30672 % 4294967296 < z34072 % 4294967296) (h1 : ¬ z30673 = 0) (h2 : (z35091 = 1 → z30672 % 4294967296 < z35067 % 4294967296)) (h3 : (z35091 = 0 → z35067 % 4294967296 ≤ z30672 % 4294967296)) (h4 : z30672 % 4294967296 < z35067 % 4294967296) (h5 : ¬ z34073 = 0) (h6 : (z35105 = 1 → z35067 % 4294967296 < z34072 % 4294967296)) (h7 : (z35105 = 0 → z34072 % 4294967296 ≤ z35067 % 4294967296)) (h8 : z34072 % 4294967296 ≤ z35067 % 4294967296) (h9 : ¬ z35091 = 0) (h10 : z35105 = 0) (h11 : (-2147483648) ≤ z30672 ∧ z30672 ≤ 2147483647) (h12 : 1 ≤ z30673 ∧ z30673 ≤ 1) (h13 : (-2147483648) ≤ z34072 ∧ z34072 ≤ 2147483647) (h14 : 1 ≤ z34073 ∧ z34073 ≤ 1) (h15 : (-2147483648) ≤ z35067 ∧ z35067 ≤ 2147483647) (h16 : 1 ≤ z35091 ∧ z35091 ≤ 1) (h17 : 0 ≤ z35105 ∧ z35105 ≤ 0) : z34073 = 0 ∨ z30673 = 0 ∨ z30672 % 4294967296 < z34072 % 4294967296 := by omega
theorem vc_X12_pick_W_97 {z30672 z30673 z34072 z34073 z35067 z35091 z35105 : Int} (h0 : (z35105 = 1 → z35067 % 4294967296 < z34072 % 4294967296)) (h1 : (z35105 = 0 → z34072 % 4294967296 ≤ z35067 % 4294967296)) (h2 : ¬ z35105 = 0) (h3 : z34073 = 0 ∨ z30673 = 0 ∨ z30672 % 4294967296 < z34072 % 4294967296) (h4 : (z35091 = 1 → z30672 % 4294967296 < z35067 % 4294967296)) (h5 : (z35091 = 0 → z35067 % 4294967296 ≤ z30672 % 4294967296)) (h6 : z30672 % 4294967296 < z35067 % 4294967296) (h7 : (-2147483648) ≤ z30672 ∧ z30672 ≤ 2147483647) (h8 : 1 ≤ z30673 ∧ z30673 ≤ 1) (h9 : (-2147483648) ≤ z34072 ∧ z34072 ≤ 2147483647) (h10 : 1 ≤ z34073 ∧ z34073 ≤ 1) (h11 : (-2147483648) ≤ z35067 ∧ z35067 ≤ 2147483647) (h12 : 1 ≤ z35091 ∧ z35091 ≤ 1) (h13 : 1 ≤ z35105 ∧ z35105 ≤ 1) : z35105 = 1 := by omega
theorem vc_X12_pick_W_98 {z30672 z30673 z34072 z34073 z35067 z35091 z35105 : Int} (h0 : z34073 = 0 ∨ z30673 = 0 ∨ z30672 % 4294967296 < z34072 % 4294967296) (h1 : ¬ z30673 = 0) (h2 : (z35091 = 1 → z30672 % 4294967296 < z35067 % 4294967296)) (h3 : (z35091 = 0 → z35067 % 4294967296 ≤ z30672 % 4294967296)) (h4 : z30672 % 4294967296 < z35067 % 4294967296) (h5 : (z35105 = 1 → z35067 % 4294967296 < z34072 % 4294967296)) (h6 : (z35105 = 0 → z34072 % 4294967296 ≤ z35067 % 4294967296)) (h7 : z35067 % 4294967296 < z34072 % 4294967296) (h8 : ¬ z35091 = 0) (h9 : ¬ z34073 = 0) (h10 : ¬ z35105 = 0) (h11 : (-2147483648) ≤ z30672 ∧ z30672 ≤ 2147483647) (h12 : 1 ≤ z30673 ∧ z30673 ≤ 1) (h13 : (-2147483648) ≤ z34072 ∧ z34072 ≤ 2147483647) (h14 : 1 ≤ z34073 ∧ z34073 ≤ 1) (h15 : (-2147483648) ≤ z35067 ∧ z35067 ≤ 2147483647) (h16 : 1 ≤ z35091 ∧ z35091 ≤ 1) (h17 : 1 ≤ z35105 ∧ z35105 ≤ 1) : (1 : Int) = 0 ∨ z30673 = 0 ∨ z30672 % 4294967296 < z35067 % 4294967296 := by omega
theorem vc_X12_pick_W_100 {f_ties z29593 : Int} (h0 : z29593 ≤ f_ties) (h1 : f_ties ≤ z29593) (h2 : 0 ≤ f_ties ∧ f_ties ≤ 20) (h3 : 0 ≤ z29593 ∧ z29593 ≤ 20) : (0 : Int) ≤ f_ties := by omega
theorem vc_X12_pick_W_101 {z30672 z30673 : Int} (h0 : (-2147483648) ≤ z30672 ∧ z30672 ≤ 2147483647) (h1 : 0 ≤ z30673 ∧ z30673 ≤ 1) : (0 : Int) = 0 ∨ z30673 = 0 ∨ z30672 % 4294967296 < (0 : Int) % 4294967296 := by omega
theorem vc_X12_pick_W_102  : (((4294967296 * (2 - 0)) - (0 % 4294967296)) + 1) < ((8589934594 : Nat) : Int) := by omega
theorem vc_X12_pick_W_104 {f_ties z29593 : Int} (h0 : z29593 < f_ties) (h1 : z29593 ≤ f_ties) (h2 : 0 ≤ f_ties ∧ f_ties ≤ 20) (h3 : 0 ≤ z29593 ∧ z29593 ≤ 20) : 0 ≤ z29593 ∧ z29593 ≤ 19 := by omega
theorem vc_X12_pick_W_105 {f_ties z29593 : Int} (h0 : z29593 < f_ties) (h1 : z29593 ≤ f_ties) (h2 : 0 ≤ f_ties ∧ f_ties ≤ 20) (h3 : 0 ≤ z29593 ∧ z29593 ≤ 19) : 1 ≤ f_ties ∧ f_ties ≤ 20 := by omega
theorem vc_X12_pick_W_106 {f_ties z29593 : Int} (h0 : z29593 ≤ f_ties) (h1 : z29593 < f_ties) (h2 : 1 ≤ f_ties ∧ f_ties ≤ 20) (h3 : 0 ≤ z29593 ∧ z29593 ≤ 19) : 0 ≤ (40 * (4 + z29593)) := by omega
theorem vc_X12_pick_W_107 {f_ties z29593 : Int} (h0 : z29593 ≤ f_ties) (h1 : z29593 < f_ties) (h2 : 1 ≤ f_ties ∧ f_ties ≤ 20) (h3 : 0 ≤ z29593 ∧ z29593 ≤ 19) : (40 * (4 + z29593)) % 40 = 0 := by omega
theorem vc_X12_pick_W_111 {f_ties z29593 : Int} (h0 : z29593 ≤ f_ties) (h1 : z29593 < f_ties) (h2 : 1 ≤ f_ties ∧ f_ties ≤ 20) (h3 : 0 ≤ z29593 ∧ z29593 ≤ 19) : (z29593 + 1) ≤ f_ties := by omega
theorem vc_X12_pick_W_112 {N f_ties z29593 : Int} (h0 : (21 - z29593) < N + 1) (h1 : z29593 ≤ f_ties) (h2 : z29593 < f_ties) (h3 : 1 ≤ f_ties ∧ f_ties ≤ 20) (h4 : 0 ≤ z29593 ∧ z29593 ≤ 19) : (21 - (z29593 + 1)) < N := by omega
theorem vc_X12_pick_W_116 {f_ties z29593 : Int} (h0 : z29593 ≤ f_ties) (h1 : z29593 < f_ties) (h2 : 1 ≤ f_ties ∧ f_ties ≤ 20) (h3 : 0 ≤ z29593 ∧ z29593 ≤ 19) : ((40 * (4 + z29593)) + 4) % 40 = 4 := by omega
theorem vc_X12_pick_W_120 {f_ties z29593 : Int} (h0 : z29593 ≤ f_ties) (h1 : z29593 < f_ties) (h2 : 1 ≤ f_ties ∧ f_ties ≤ 20) (h3 : 0 ≤ z29593 ∧ z29593 ≤ 19) : (40 * (4 + z29593)) = 160 + 40 * z29593 := by omega
theorem vc_X12_pick_W_122 {f_ties z29593 : Int} (h0 : z29593 ≤ f_ties) (h1 : z29593 < f_ties) (h2 : 1 ≤ f_ties ∧ f_ties ≤ 20) (h3 : 0 ≤ z29593 ∧ z29593 ≤ 19) : z29593 = (-99999999) ∨ (0 ≤ z29593 ∧ z29593 ≤ 19) := by omega
theorem vc_X12_pick_W_131 {f_ties z35469 z35501 : Int} (h0 : z35501 = -99999999 ∨ (0 ≤ z35501 ∧ z35501 ≤ 19)) (h1 : z35501 < f_ties) (h2 : z35469 ≤ f_ties) (h3 : f_ties ≤ z35469) (h4 : 0 ≤ f_ties ∧ f_ties ≤ 20) (h5 : 0 ≤ z35469 ∧ z35469 ≤ 20) (h6 : (-99999999) ≤ z35501 ∧ z35501 ≤ 19) : z35501 = -99999999 ∨ (0 ≤ z35501 ∧ z35501 ≤ 19) := by omega
theorem vc_X12_pick_W_132 {f_ties z35469 z35501 : Int} (h0 : z35469 ≤ f_ties) (h1 : f_ties ≤ z35469) (h2 : z35501 < f_ties) (h3 : z35501 = -99999999 ∨ (0 ≤ z35501 ∧ z35501 ≤ 19)) (h4 : 0 ≤ f_ties ∧ f_ties ≤ 20) (h5 : 0 ≤ z35469 ∧ z35469 ≤ 20) (h6 : (-99999999) ≤ z35501 ∧ z35501 ≤ 19) : f_ties ≤ z35469 := by omega
theorem vc_X12_pick_W_133 {f_ties z35469 z35501 : Int} (h0 : z35469 ≤ f_ties) (h1 : f_ties ≤ z35469) (h2 : z35501 = -99999999 ∨ (0 ≤ z35501 ∧ z35501 ≤ 19)) (h3 : z35501 < f_ties) (h4 : 0 ≤ f_ties ∧ f_ties ≤ 20) (h5 : 0 ≤ z35469 ∧ z35469 ≤ 20) (h6 : (-99999999) ≤ z35501 ∧ z35501 ≤ 19) : z35501 < f_ties := by omega
theorem vc_X12_pick_W_140 {f_ties z35469 : Int} (h0 : z35469 ≤ f_ties) (h1 : z35469 < f_ties) (h2 : 1 ≤ f_ties ∧ f_ties ≤ 20) (h3 : 0 ≤ z35469 ∧ z35469 ≤ 19) : 0 ≤ z35469 := by omega
theorem vc_X12_pick_W_142 {z35504 z35512 : Int} (h0 : (z35512 = 1 → 0 ≤ z35504)) (h1 : (z35512 = 0 → z35504 < 0)) (h2 : (-1) ≤ z35504 ∧ z35504 ≤ 9) (h3 : 0 ≤ z35512 ∧ z35512 ≤ 1) : ¬ z35512 = 1 ∨ 0 ≤ z35504 := by omega
set_option maxRecDepth 4000 in
set_option maxHeartbeats 4000000 in
theorem c_X12_pick_W {l : Launch} {D : va_G} {c : Nat → ClassId} {H0 : Heap} {sa : Nat × Nat × (Nat → Int32)} {w : mW} {μ : mM} (hw : mWF w) (hT : mT w μ) {p1 : Int} (hp1 : 0 ≤ p1 ∧ p1 ≤ 9) {p2 : Int} (hp2 : 0 ≤ p2 ∧ p2 ≤ 9) {f_ties : Int} (q_f_ties : μ 106 6 = f_ties) (hIPK : PK μ) {Q : Int → mM → Prop} (hQ : WP_X12_pick_W w μ p1 p2 Q) : sC (gG l D c H0 sa) mX12_pick 9 0 0 [.ref 106, iv p1, iv p2] (mk w μ) (qI w [106026, 106027, 106028, 106029, 106030, 106031, 126999, 151999, 152999, 153999, 165999] μ (fun z μ1 => ((-99999999) ≤ z ∧ z ≤ 19) ∧ mG [(160, 960)] μ μ1 ∧ (z = -99999999 ∨ (0 ≤ z ∧ z ≤ 19)) ∧ (z = -99999999 ∨ 0 ≤ μ1 126 (160 + 40 * z).toNat) ∧ Q z μ1 ∧ True)) := by
  refine sC.of rfl (by decide) (le_t rfl) ?_
  have ht_f_ties : (0 ≤ f_ties ∧ f_ties ≤ 20) := by rw [← q_f_ties]; exact hT 106 106 (A_106 hw) 6
  refine mr_lvE (lv' := [(0, .ref 106), (1, iv p1), (2, iv p2)]) rfl ?_
  refine sv_aload_n (pc := 0) dX12_pick_0 rfl rfl ?_
  refine mr_iload_n (pc := 1) (z := p1) dX12_pick_1 rfl rfl ?_
  refine mr_iload_n (pc := 2) (z := p2) dX12_pick_2 rfl rfl ?_
  refine mr_cVV (pc := 3) (c_X12_candidates_W hw hT hp1 hp2 hIPK (hQ f_ties q_f_ties ht_f_ties)) (gOk _ _ _ _ _) dX12_pick_3 (tX12_candidates _ _ _ _ _) ⟨wV_X12_candidates, wL_X12_candidates⟩ wM_X12_572 (gCX12 _ _ _ _ _) rfl (A_106 hw) rfl ⟨le_t rfl, le_t rfl⟩ ⟨le_t rfl, le_t rfl⟩ rfl (le_t rfl) fun μ16647 T16648 F16649 h16650 => ?_
  refine sv_aload_n (pc := 6) dX12_pick_6 rfl rfl ?_
  refine gf_X12_84 (pc := 7) dX12_pick_7 wF_X12_454 (A_106 hw) T16648 ?_
  refine mr_iload_n (pc := 10) (z := p1) dX12_pick_10 rfl rfl ?_
  refine la_164 (pc := 11) dX12_pick_11 (A_164 hw) T16648 (rIx (n := 10) hp1 rfl) fun z16651 q16652 h16653 => ?_
  refine mr_if_ne (pc := 12) (tgt := 51) dX12_pick_12 (by decide) (r32 h16653 rfl) (fun h16654 => ?_) (fun h16654 => ?_)
  · have h16655 : 1 ≤ z16651 ∧ z16651 ≤ 1 := (vc_X12_ring_24 h16654 h16653)
    refine mr_ldc (pc := 51) (z := (-99999999)) dX12_pick_51 wG_X12_29 (by decide) ?_
    refine mr_istore_n (pc := 53) (lv' := [(3, iv (-99999999)), (0, .ref 106), (1, iv p1), (2, iv p2)]) dX12_pick_53 rfl (by decide) rfl ?_
    refine mr_iconst (pc := 54) (z := 0) dX12_pick_54 ?_
    refine mr_istore (pc := 55) (lv' := [(4, iv 0), (3, iv (-99999999)), (0, .ref 106), (1, iv p1), (2, iv p2)]) dX12_pick_55 (by decide) rfl ?_
    have L29595 : ∀ (nL29595 : Nat) (z29594 z29593 : Int), True → ((-99999999) ≤ z29594 ∧ z29594 ≤ 19) → (0 ≤ z29593 ∧ z29593 ≤ 20) → (z29593 ≤ f_ties) → wOK μ16647 z29594 → (z29594 = (-99999999) ∨ (0 ≤ z29594 ∧ z29594 ≤ 19)) → (21 - z29593) < (nL29595 : Int) → loopF (WL_X12_pick_W_1 w p1 p2 Q f_ties μ16647) False nL29595 (z29594, z29593) → sV (gG l D c H0 sa) mX12_pick (sRm 9 0 0) (sZ (gG l D c H0 sa) 0 0 (qI w [106026, 106027, 106028, 106029, 106030, 106031, 126999, 151999, 152999, 153999, 165999] μ (fun z μ1 => ((-99999999) ≤ z ∧ z ≤ 19) ∧ mG [(160, 960)] μ μ1 ∧ (z = -99999999 ∨ (0 ≤ z ∧ z ≤ 19)) ∧ (z = -99999999 ∨ 0 ≤ μ1 126 (160 + 40 * z).toNat) ∧ Q z μ1 ∧ True))) 57 [(0, .ref 106), (1, iv p1), (2, iv p2), (3, iv z29594), (4, iv z29593)] [] (mk w μ16647) 0 0 := by
      intro nL29595
      induction nL29595 with
      | zero => intro z29594 z29593 _ h29596 h29597 h29601 R29602 h29603 h29604 W29605; exact ((vc_X12_pick_W_2 h29604 h29601 ht_f_ties h29597)).elim
      | succ nL29595 ih29606 =>
        intro z29594 z29593 _ h29596 h29597 h29601 R29602 h29603 h29604 W29605
        refine mr_iload (pc := 57) (z := z29593) dX12_pick_57 rfl ?_
        refine sv_aload_n (pc := 59) dX12_pick_59 rfl rfl ?_
        refine gk_X12_6 (pc := 60) dX12_pick_60 wF_X12_37 (A_106 hw) (F16649.f (A_106 hw) rfl q_f_ties) ?_
        refine mr_icmp_ge (pc := 63) (tgt := 121) dX12_pick_63 (by decide) (r32 h29597 rfl) (r32 ht_f_ties rfl) (fun h29639 => ?_) (fun h29639 => ?_)
        · refine mr_iconst (pc := 121) (z := 0) dX12_pick_121 ?_
          refine mr_istore (pc := 122) (lv' := [(4, iv 0), (0, .ref 106), (1, iv p1), (2, iv p2), (3, iv z29594)]) dX12_pick_122 (by decide) rfl ?_
          refine mr_iconst (pc := 124) (z := 0) dX12_pick_124 ?_
          refine mr_istore (pc := 125) (lv' := [(5, iv 0), (4, iv 0), (0, .ref 106), (1, iv p1), (2, iv p2), (3, iv z29594)]) dX12_pick_125 (by decide) rfl ?_
          refine mr_iconst (pc := 127) (z := 1) dX12_pick_127 ?_
          refine mr_istore (pc := 128) (lv' := [(6, iv 1), (5, iv 0), (4, iv 0), (0, .ref 106), (1, iv p1), (2, iv p2), (3, iv z29594)]) dX12_pick_128 (by decide) rfl ?_
          have L30676 : ∀ (nL30676 : Nat) (z30674 z30673 z30672 z30671 : Int) (μ30675 : mM), mT w μ30675 → mF [165999] w μ16647 μ30675 → ((-99999999) ≤ z30674 ∧ z30674 ≤ 19) → (0 ≤ z30673 ∧ z30673 ≤ 1) → ((-2147483648) ≤ z30672 ∧ z30672 ≤ 2147483647) → (0 ≤ z30671 ∧ z30671 ≤ 1) → PK μ30675 → wOK μ30675 z30674 → (z30674 = (-99999999) ∨ (0 ≤ z30674 ∧ z30674 ≤ 19)) → (((4294967296 * (2 - z30673)) - (z30672 % 4294967296)) + z30671) < (nL30676 : Int) → loopF (WL_X12_pick_W_2 w p1 p2 Q f_ties μ16647) False nL30676 (z30674, z30673, z30672, z30671, μ30675) → sV (gG l D c H0 sa) mX12_pick (sRm 9 0 0) (sZ (gG l D c H0 sa) 0 0 (qI w [106026, 106027, 106028, 106029, 106030, 106031, 126999, 151999, 152999, 153999, 165999] μ (fun z μ1 => ((-99999999) ≤ z ∧ z ≤ 19) ∧ mG [(160, 960)] μ μ1 ∧ (z = -99999999 ∨ (0 ≤ z ∧ z ≤ 19)) ∧ (z = -99999999 ∨ 0 ≤ μ1 126 (160 + 40 * z).toNat) ∧ Q z μ1 ∧ True))) 130 [(0, .ref 106), (1, iv p1), (2, iv p2), (3, iv z30674), (4, iv z30673), (5, iv z30672), (6, iv z30671)] [] (mk w μ30675) 0 0 := by
            intro nL30676
            induction nL30676 with
            | zero => intro z30674 z30673 z30672 z30671 μ30675 T30681 F30682 h30677 h30678 h30679 h30680 I30684 R30685 h30686 h30687 W30688; exact ((vc_X12_pick_W_3 h30687 h30680 h30679 h30678)).elim
            | succ nL30676 ih30689 =>
              intro z30674 z30673 z30672 z30671 μ30675 T30681 F30682 h30677 h30678 h30679 h30680 I30684 R30685 h30686 h30687 W30688
              refine mr_iload (pc := 130) (z := z30671) dX12_pick_130 rfl ?_
              refine mr_if_eq (pc := 132) (tgt := 373) dX12_pick_132 (by decide) (r32 h30680 rfl) (fun h31044 => ?_) (fun h31044 => ?_)
              · have h31045 : 0 ≤ z30671 ∧ z30671 ≤ 0 := (vc_X12_ring_22 h31044 h30680)
                refine mr_iload_n (pc := 373) (z := z30674) dX12_pick_373 rfl rfl ?_
                exact mr_iret dX12_pick_374 rfl (le_t rfl) (le_t rfl) T30681 (mF.call (mF.call mF.refl F16649 rfl) F30682 rfl) ⟨h30677, (mG.fr (mG.call mG.refl h16650.1 (List.forall_mem_cons.mpr ⟨⟨_, List.mem_cons_self, vc_X12_candidates_W_2⟩, (fun _ h => absurd h List.not_mem_nil)⟩)) F30682 (A_126 hw) rfl), (vc_X12_pick_W_6 h30677 h30686), R30685, ((W30688 z30674 z30673 z30672 z30671 μ30675 rfl h30677 h30678 h30679 h30680 T30681 F30682).1 h31044), trivial⟩
              have h31046 : 1 ≤ z30671 ∧ z30671 ≤ 1 := (vc_X12_ring_24 h31044 h30680)
              refine mr_iconst (pc := 135) (z := 0) dX12_pick_135 ?_
              refine mr_istore (pc := 136) (lv' := [(7, iv 0), (0, .ref 106), (1, iv p1), (2, iv p2), (3, iv z30674), (4, iv z30673), (5, iv z30672), (6, iv z30671)]) dX12_pick_136 (by decide) rfl ?_
              refine mr_iconst (pc := 138) (z := 0) dX12_pick_138 ?_
              refine mr_istore (pc := 139) (lv' := [(8, iv 0), (7, iv 0), (0, .ref 106), (1, iv p1), (2, iv p2), (3, iv z30674), (4, iv z30673), (5, iv z30672), (6, iv z30671)]) dX12_pick_139 (by decide) rfl ?_
              refine mr_iconst (pc := 141) (z := 0) dX12_pick_141 ?_
              refine mr_istore (pc := 142) (lv' := [(9, iv 0), (8, iv 0), (7, iv 0), (0, .ref 106), (1, iv p1), (2, iv p2), (3, iv z30674), (4, iv z30673), (5, iv z30672), (6, iv z30671)]) dX12_pick_142 (by decide) rfl ?_
              have L34074 : ∀ (nL34074 : Nat) (z34073 z34072 z34071 : Int), True → (0 ≤ z34073 ∧ z34073 ≤ 1) → ((-2147483648) ≤ z34072 ∧ z34072 ≤ 2147483647) → (0 ≤ z34071 ∧ z34071 ≤ 20) → (z34071 ≤ f_ties) → (z34073 = 0 ∨ z30673 = 0 ∨ z30672 % 4294967296 < z34072 % 4294967296) → (z34073 = 0 ∨ hit μ30675 z34071 z34072) → (21 - z34071) < (nL34074 : Int) → loopF (WL_X12_pick_W_3 w p1 p2 f_ties (loopF (WL_X12_pick_W_2 w p1 p2 Q f_ties μ16647) False nL30676) z30674 z30673 z30672 μ30675) False nL34074 (z34073, z34072, z34071) → sV (gG l D c H0 sa) mX12_pick (sRm 9 0 0) (sZ (gG l D c H0 sa) 0 0 (qI w [106026, 106027, 106028, 106029, 106030, 106031, 126999, 151999, 152999, 153999, 165999] μ (fun z μ1 => ((-99999999) ≤ z ∧ z ≤ 19) ∧ mG [(160, 960)] μ μ1 ∧ (z = -99999999 ∨ (0 ≤ z ∧ z ≤ 19)) ∧ (z = -99999999 ∨ 0 ≤ μ1 126 (160 + 40 * z).toNat) ∧ Q z μ1 ∧ True))) 144 [(0, .ref 106), (1, iv p1), (2, iv p2), (3, iv z30674), (4, iv z30673), (5, iv z30672), (7, iv z34073), (8, iv z34072), (9, iv z34071)] [] (mk w μ30675) 0 0 := by
                intro nL34074
                induction nL34074 with
                | zero => intro z34073 z34072 z34071 _ h34075 h34076 h34077 h34081 h34082 R34083 h34084 W34085; exact ((vc_X12_pick_W_8 h34084 h34081 h29601 h29639 ht_f_ties h29597 h34077)).elim
                | succ nL34074 ih34086 =>
                  intro z34073 z34072 z34071 _ h34075 h34076 h34077 h34081 h34082 R34083 h34084 W34085
                  refine mr_iload (pc := 144) (z := z34071) dX12_pick_144 rfl ?_
                  refine sv_aload_n (pc := 146) dX12_pick_146 rfl rfl ?_
                  refine gk_X12_6 (pc := 147) dX12_pick_147 wF_X12_37 (A_106 hw) (F30682.f (A_106 hw) rfl (F16649.f (A_106 hw) rfl q_f_ties)) ?_
                  refine mr_icmp_ge (pc := 150) (tgt := 244) dX12_pick_150 (by decide) (r32 h34077 rfl) (r32 ht_f_ties rfl) (fun h34146 => ?_) (fun h34146 => ?_)
                  · refine mr_iload (pc := 244) (z := z34073) dX12_pick_244 rfl ?_
                    refine mr_istore (pc := 246) (lv' := [(6, iv z34073), (0, .ref 106), (1, iv p1), (2, iv p2), (3, iv z30674), (4, iv z30673), (5, iv z30672), (7, iv z34073), (8, iv z34072), (9, iv z34071)]) dX12_pick_246 (by decide) rfl ?_
                    refine mr_iload (pc := 248) (z := z34073) dX12_pick_248 rfl ?_
                    refine mr_if_ne (pc := 250) (tgt := 256) dX12_pick_250 (by decide) (r32 h34075 rfl) (fun h34147 => ?_) (fun h34147 => ?_)
                    · have h34148 : 1 ≤ z34073 ∧ z34073 ≤ 1 := (vc_X12_pick_W_9 h34147 h34082 h30679 h30678 h34076 h34075)
                      refine mr_iconst (pc := 256) (z := 1) dX12_pick_256 ?_
                      refine mr_istore (pc := 257) (lv' := [(4, iv 1), (6, iv z34073), (0, .ref 106), (1, iv p1), (2, iv p2), (3, iv z30674), (5, iv z30672), (7, iv z34073), (8, iv z34072), (9, iv z34071)]) dX12_pick_257 (by decide) rfl ?_
                      refine mr_iload (pc := 259) (z := z34072) dX12_pick_259 rfl ?_
                      refine mr_istore (pc := 261) (lv' := [(5, iv z34072), (4, iv 1), (6, iv z34073), (0, .ref 106), (1, iv p1), (2, iv p2), (3, iv z30674), (7, iv z34073), (8, iv z34072), (9, iv z34071)]) dX12_pick_261 (by decide) rfl ?_
                      refine mr_iconst (pc := 263) (z := 0) dX12_pick_263 ?_
                      refine mr_istore (pc := 264) (lv' := [(9, iv 0), (5, iv z34072), (4, iv 1), (6, iv z34073), (0, .ref 106), (1, iv p1), (2, iv p2), (3, iv z30674), (7, iv z34073), (8, iv z34072)]) dX12_pick_264 (by decide) rfl ?_
                      have L34933 : ∀ (nL34933 : Nat) (z34931 : Int) (μ34932 : mM), mT w μ34932 → mF [165999] w μ30675 μ34932 → (0 ≤ z34931 ∧ z34931 ≤ 20) → (z34931 ≤ f_ties) → PK μ34932 → lft μ34932 z34072 z34931 → (21 - z34931) < (nL34933 : Int) → loopF (WL_X12_pick_W_4 w p1 p2 f_ties (loopF (WL_X12_pick_W_2 w p1 p2 Q f_ties μ16647) False nL30676) z30674 μ30675 z34073 z34072) False nL34933 (z34931, μ34932) → sV (gG l D c H0 sa) mX12_pick (sRm 9 0 0) (sZ (gG l D c H0 sa) 0 0 (qI w [106026, 106027, 106028, 106029, 106030, 106031, 126999, 151999, 152999, 153999, 165999] μ (fun z μ1 => ((-99999999) ≤ z ∧ z ≤ 19) ∧ mG [(160, 960)] μ μ1 ∧ (z = -99999999 ∨ (0 ≤ z ∧ z ≤ 19)) ∧ (z = -99999999 ∨ 0 ≤ μ1 126 (160 + 40 * z).toNat) ∧ Q z μ1 ∧ True))) 266 [(0, .ref 106), (1, iv p1), (2, iv p2), (3, iv z30674), (4, iv 1), (5, iv z34072), (6, iv z34073), (8, iv z34072), (9, iv z34931)] [] (mk w μ34932) 0 0 := by
                        intro nL34933
                        induction nL34933 with
                        | zero => intro z34931 μ34932 T34935 F34936 h34934 h34938 I34939 R34940 h34941 W34942; exact ((vc_X12_pick_W_12 h34941 h34938 h29601 h29639 h34081 h34146 ht_f_ties h29597 h34077 h34934)).elim
                        | succ nL34933 ih34943 =>
                          intro z34931 μ34932 T34935 F34936 h34934 h34938 I34939 R34940 h34941 W34942
                          refine mr_iload (pc := 266) (z := z34931) dX12_pick_266 rfl ?_
                          refine sv_aload_n (pc := 268) dX12_pick_268 rfl rfl ?_
                          refine gk_X12_6 (pc := 269) dX12_pick_269 wF_X12_37 (A_106 hw) (F34936.f (A_106 hw) rfl (F30682.f (A_106 hw) rfl (F16649.f (A_106 hw) rfl q_f_ties))) ?_
                          refine mr_icmp_ge (pc := 272) (tgt := 341) dX12_pick_272 (by decide) (r32 h34934 rfl) (r32 ht_f_ties rfl) (fun h34982 => ?_) (fun h34982 => ?_)
                          · refine sv_aload_n (pc := 341) dX12_pick_341 rfl rfl ?_
                            refine mr_iload_n (pc := 342) (z := p1) dX12_pick_342 rfl rfl ?_
                            refine mr_iload_n (pc := 343) (z := p2) dX12_pick_343 rfl rfl ?_
                            refine mr_cVP (pc := 344) (c_X12_best_Wl hw T34935 hp1 hp2 (F34936.f (A_106 hw) rfl (F30682.f (A_106 hw) rfl (F16649.f (A_106 hw) rfl q_f_ties))) ((W34942 z34931 μ34932 rfl h34934 T34935 F34936).1 h34982)) (gOk _ _ _ _ _) dX12_pick_344 (tX12_best _ _ _ _ _) ⟨wV_X12_best, wL_X12_best⟩ wM_X12_575 (gCX12 _ _ _ _ _) rfl (A_106 hw) rfl ⟨le_t rfl, le_t rfl⟩ ⟨le_t rfl, le_t rfl⟩ rfl (le_t rfl) fun z34987 h34986 => ?_
                            have B34988 := lft.some R34940 (vc_X12_pick_W_13 h29601 h29639 h34081 h34146 h34938 h34982 h34986.2.2.1 h34986.2.1 ht_f_ties h29597 h34077 h34934 h34986.1) (hit.keep ((hit.or R34083 (vc_X12_pick_W_10 h29601 h29639 h34081 h34146 ht_f_ties h29597 h34077)).resolve_left (vc_X12_pick_W_11 h34082 h34147 h30679 h30678 h34076 h34148)) hw ((mF.call mF.refl F34936 rfl) : mF [165999] w μ30675 μ34932) rfl) h34986.2.2.2.1 (vc_X12_pick_W_14 h29601 h29639 h34081 h34146 h34938 h34982 h34986.2.1 h34986.2.2.1 ht_f_ties h29597 h34077 h34934 h34986.1) (vc_X12_pick_W_15 h34986.2.1 h34986.2.2.1 h29601 h29639 h34081 h34146 h34938 h34982 ht_f_ties h29597 h34077 h34934 h34986.1)
                            have h34989 : 0 ≤ z34987 ∧ z34987 ≤ 19 := (vc_X12_pick_W_16 B34988.1 h34986.2.1 h34986.2.2.1 ht_f_ties h34986.1)
                            refine mr_istore (pc := 347) (lv' := [(9, iv z34987), (0, .ref 106), (1, iv p1), (2, iv p2), (3, iv z30674), (4, iv 1), (5, iv z34072), (6, iv z34073), (8, iv z34072)]) dX12_pick_347 (by decide) rfl ?_
                            refine mr_iload_n (pc := 349) (z := z30674) dX12_pick_349 rfl rfl ?_
                            refine mr_ldc (pc := 350) (z := (-99999999)) dX12_pick_350 wG_X12_29 (by decide) ?_
                            refine mr_icmp_eq (pc := 352) (tgt := 367) dX12_pick_352 (by decide) (r32 h30677 rfl) (r32 (rR (x := (-99999999))) rfl) (fun h34990 => ?_) (fun h34990 => ?_)
                            · have h34991 : (-99999999) ≤ z30674 ∧ z30674 ≤ (-99999999) := (vc_X12_pick_W_17 h34990 h30677 h30686)
                              refine mr_iload (pc := 367) (z := z34987) dX12_pick_367 rfl ?_
                              refine mr_istore_n (pc := 369) (lv' := [(3, iv z34987), (9, iv z34987), (0, .ref 106), (1, iv p1), (2, iv p2), (4, iv 1), (5, iv z34072), (6, iv z34073), (8, iv z34072)]) dX12_pick_369 rfl (by decide) rfl ?_
                              refine sv_goto (pc := 370) (tgt := 130) dX12_pick_370 (by decide) ?_
                              refine mr_lvS (lv' := [(0, .ref 106), (1, iv p1), (2, iv p2), (3, iv z34987), (4, iv 1), (5, iv z34072), (6, iv z34073)]) (List.forall_mem_cons.mpr ⟨rfl, List.forall_mem_cons.mpr ⟨rfl, List.forall_mem_cons.mpr ⟨rfl, List.forall_mem_cons.mpr ⟨rfl, List.forall_mem_cons.mpr ⟨rfl, List.forall_mem_cons.mpr ⟨rfl, List.forall_mem_cons.mpr ⟨rfl, fun _ h => absurd h List.not_mem_nil⟩⟩⟩⟩⟩⟩⟩) ?_
                              exact ih30689 z34987 1 z34072 z34073 μ34932 T34935 (mF.call (mF.call mF.refl F30682 rfl) F34936 rfl) (rW (c := (-99999999)) (d := 19) h34989 rfl) (rW (c := 0) (d := 1) (rR (x := 1)) rfl) h34076 (rW (c := 0) (d := 1) h34148 rfl) I34939 B34988.2 (vc_X12_pick_W_19 h34986.2.1 h34986.2.2.1 B34988.1 h29601 h29639 h34081 h34146 h34938 h34982 ht_f_ties h29597 h34077 h34934 h34989) (vc_X12_pick_W_18 (nS h30687) h31044 h34082 h34147 h31046 h30679 h30678 h34076 h34148) ((h34986.2.2.2.2.1 h34986.1).1 h34990)
                            have h34992 : 0 ≤ z30674 ∧ z30674 ≤ 19 := (vc_X12_pick_W_20 h34990 h30677 h30686)
                            refine sv_aload_n (pc := 355) dX12_pick_355 rfl rfl ?_
                            refine mr_iload_n (pc := 356) (z := p1) dX12_pick_356 rfl rfl ?_
                            refine mr_iload (pc := 357) (z := z34987) dX12_pick_357 rfl ?_
                            refine mr_iload_n (pc := 359) (z := z30674) dX12_pick_359 rfl rfl ?_
                            refine mr_iload_n (pc := 360) (z := p2) dX12_pick_360 rfl rfl ?_
                            refine mr_cVP (pc := 361) (c_X12_beats_W hw T34935 hp1 h34989 h34992 hp2 ((h34986.2.2.2.2.1 h34986.1).2 h34990)) (gOk _ _ _ _ _) dX12_pick_361 (tX12_beats _ _ _ _ _) ⟨wV_X12_beats, wL_X12_beats⟩ wM_X12_568 (gCX12 _ _ _ _ _) rfl (A_106 hw) rfl ⟨le_t rfl, le_t rfl⟩ ⟨le_t rfl, le_t rfl⟩ rfl (le_t rfl) fun z34997 h34996 => ?_
                            refine mr_if_eq (pc := 364) (tgt := 370) dX12_pick_364 (by decide) (r32 h34996.1 rfl) (fun h34998 => ?_) (fun h34998 => ?_)
                            · have h34999 : 0 ≤ z34997 ∧ z34997 ≤ 0 := (vc_X12_ring_22 h34998 h34996.1)
                              refine sv_goto (pc := 370) (tgt := 130) dX12_pick_370 (by decide) ?_
                              refine mr_lvS (lv' := [(0, .ref 106), (1, iv p1), (2, iv p2), (3, iv z30674), (4, iv 1), (5, iv z34072), (6, iv z34073)]) (List.forall_mem_cons.mpr ⟨rfl, List.forall_mem_cons.mpr ⟨rfl, List.forall_mem_cons.mpr ⟨rfl, List.forall_mem_cons.mpr ⟨rfl, List.forall_mem_cons.mpr ⟨rfl, List.forall_mem_cons.mpr ⟨rfl, List.forall_mem_cons.mpr ⟨rfl, fun _ h => absurd h List.not_mem_nil⟩⟩⟩⟩⟩⟩⟩) ?_
                              exact ih30689 z30674 1 z34072 z34073 μ34932 T34935 (mF.call (mF.call mF.refl F30682 rfl) F34936 rfl) (rW (c := (-99999999)) (d := 19) h34992 rfl) (rW (c := 0) (d := 1) (rR (x := 1)) rfl) h34076 (rW (c := 0) (d := 1) h34148 rfl) I34939 (wOK.keep R30685 hw ((mF.call mF.refl F34936 rfl) : mF [165999] w μ30675 μ34932) rfl) (vc_X12_pick_W_22 h34990 h34992 h30686) (vc_X12_pick_W_18 (nS h30687) h31044 h34082 h34147 h31046 h30679 h30678 h34076 h34148) ((h34996.2.1 h34996.1).1 h34998)
                            have h35000 : 1 ≤ z34997 ∧ z34997 ≤ 1 := (vc_X12_ring_24 h34998 h34996.1)
                            refine mr_iload (pc := 367) (z := z34987) dX12_pick_367 rfl ?_
                            refine mr_istore_n (pc := 369) (lv' := [(3, iv z34987), (9, iv z34987), (0, .ref 106), (1, iv p1), (2, iv p2), (4, iv 1), (5, iv z34072), (6, iv z34073), (8, iv z34072)]) dX12_pick_369 rfl (by decide) rfl ?_
                            refine sv_goto (pc := 370) (tgt := 130) dX12_pick_370 (by decide) ?_
                            refine mr_lvS (lv' := [(0, .ref 106), (1, iv p1), (2, iv p2), (3, iv z34987), (4, iv 1), (5, iv z34072), (6, iv z34073)]) (List.forall_mem_cons.mpr ⟨rfl, List.forall_mem_cons.mpr ⟨rfl, List.forall_mem_cons.mpr ⟨rfl, List.forall_mem_cons.mpr ⟨rfl, List.forall_mem_cons.mpr ⟨rfl, List.forall_mem_cons.mpr ⟨rfl, List.forall_mem_cons.mpr ⟨rfl, fun _ h => absurd h List.not_mem_nil⟩⟩⟩⟩⟩⟩⟩) ?_
                            exact ih30689 z34987 1 z34072 z34073 μ34932 T34935 (mF.call (mF.call mF.refl F30682 rfl) F34936 rfl) (rW (c := (-99999999)) (d := 19) h34989 rfl) (rW (c := 0) (d := 1) (rR (x := 1)) rfl) h34076 (rW (c := 0) (d := 1) h34148 rfl) I34939 B34988.2 (vc_X12_pick_W_19 h34986.2.1 h34986.2.2.1 B34988.1 h29601 h29639 h34081 h34146 h34938 h34982 ht_f_ties h29597 h34077 h34934 h34989) (vc_X12_pick_W_18 (nS h30687) h31044 h34082 h34147 h31046 h30679 h30678 h34076 h34148) ((h34996.2.1 h34996.1).2 h34998)
                          have h35001 : 0 ≤ z34931 ∧ z34931 ≤ 19 := (vc_X12_pick_W_24 h34982 h29601 h29639 h34081 h34146 h34938 ht_f_ties h29597 h34077 h34934)
                          have h35002 : 1 ≤ f_ties ∧ f_ties ≤ 20 := (vc_X12_pick_W_25 h34982 h29601 h29639 h34081 h34146 h34938 ht_f_ties h29597 h34077 h35001)
                          refine sv_aload_n (pc := 275) dX12_pick_275 rfl rfl ?_
                          refine gf_X12_85 (pc := 276) dX12_pick_276 wF_X12_457 (A_106 hw) T34935 ?_
                          refine mr_iload (pc := 279) (z := z34931) dX12_pick_279 rfl ?_
                          refine sv_aload_n (pc := 281) dX12_pick_281 rfl rfl ?_
                          refine mr_iconst (pc := 282) (z := 4) dX12_pick_282 ?_
                          refine mr_iload (pc := 283) (z := z34931) dX12_pick_283 rfl ?_
                          refine mr_iadd (pc := 285) (x := 4) (y := z34931) dX12_pick_285 ?_
                          obtain ⟨z35003, q35004⟩ : ∃ z, μ34932 126 ((40 * (4 + z34931)).toNat) = z := ⟨_, rfl⟩
                          have h35005 := rt7 T34935 (A_126 hw) (vc_X12_pick_W_26 h34938 h34982 h29601 h29639 h34081 h34146 h35002 h29597 h34077 h35001) q35004
                          have h35006 : (-1) ≤ z35003 ∧ z35003 ≤ 9 := h35005.2.1 (vc_X12_pick_W_27 h34938 h34982 h29601 h29639 h34081 h34146 h35002 h29597 h34077 h35001)
                          refine mr_cVP (pc := 286) (c_X12_isThere_W hw T34935 (rW (c := 0) (d := 2099) (rAdd (e := 4) (f := 23) (rR (x := 4)) h35001 rfl) rfl) q35004 (((W34942 z34931 μ34932 rfl h34934 T34935 F34936).2 h34982) z35003 q35004 h35005)) (gOk _ _ _ _ _) dX12_pick_286 (tX12_isThere _ _ _ _ _) ⟨wV_X12_isThere, wL_X12_isThere⟩ wM_X12_151 (gCX12 _ _ _ _ _) rfl (A_106 hw) rfl ⟨le_t rfl, le_t rfl⟩ ⟨le_t rfl, le_t rfl⟩ rfl (le_t rfl) fun z35011 h35010 => ?_
                          refine mr_if_eq (pc := 289) (tgt := 333) dX12_pick_289 (by decide) (r32 h35010.1 rfl) (fun h35012 => ?_) (fun h35012 => ?_)
                          · have h35013 : 0 ≤ z35011 ∧ z35011 ≤ 0 := (vc_X12_candidate_32 h35012 h35010.2.1 h35010.2.2.1 h35006 h35010.1)
                            have h35014 : z35003 < 0 := (h35010.2.2.1 (vc_X12_candidate_33 h35010.2.1 h35010.2.2.1 h35012 h35006 h35013))
                            have h35015 : (-1) ≤ z35003 ∧ z35003 ≤ (-1) := (vc_X12_candidate_34 h35014 h35010.2.1 h35010.2.2.1 h35006 h35013)
                            refine mr_iconst (pc := 333) (z := 0) dX12_pick_333 ?_
                            refine ss_165 (pc := 334) dX12_pick_334 (A_165 hw) T34935 (rIx (n := 20) h35001 rfl) (rW (c := 0) (d := 1) (rR (x := 0)) rfl) fun μ35016 u35017 T35018 => ?_
                            refine mr_iinc (pc := 335) (lv' := [(9, iv (z34931 + 1)), (0, .ref 106), (1, iv p1), (2, iv p2), (3, iv z30674), (4, iv 1), (5, iv z34072), (6, iv z34073), (8, iv z34072)]) dX12_pick_335 rfl (by decide) rfl ?_
                            refine sv_goto (pc := 338) (tgt := 266) dX12_pick_338 (by decide) ?_
                            refine mr_lvS (lv' := [(0, .ref 106), (1, iv p1), (2, iv p2), (3, iv z30674), (4, iv 1), (5, iv z34072), (6, iv z34073), (8, iv z34072), (9, iv (z34931 + 1))]) (List.forall_mem_cons.mpr ⟨rfl, List.forall_mem_cons.mpr ⟨rfl, List.forall_mem_cons.mpr ⟨rfl, List.forall_mem_cons.mpr ⟨rfl, List.forall_mem_cons.mpr ⟨rfl, List.forall_mem_cons.mpr ⟨rfl, List.forall_mem_cons.mpr ⟨rfl, List.forall_mem_cons.mpr ⟨rfl, List.forall_mem_cons.mpr ⟨rfl, fun _ h => absurd h List.not_mem_nil⟩⟩⟩⟩⟩⟩⟩⟩⟩) ?_
                            exact ih34943 (z34931 + 1) μ35016 T35018 (mF.up (mF.call mF.refl F34936 rfl) (A_165 hw) u35017 rfl) (rW (c := 0) (d := 20) (rAdd (e := 1) (f := 20) h35001 (rR (x := 1)) rfl) rfl) (vc_X12_pick_W_31 h29601 h29639 h34081 h34146 h34938 h34982 h35002 h29597 h34077 h35001) (PK.keep I34939 hw ((mF.up mF.refl (A_165 hw) u35017 rfl) : mF [165999] w μ34932 μ35016) rfl) (lft.z1 R34940 (vc_X12_pick_W_33 h34938 h34982 h29601 h29639 h34081 h34146 h35002 h29597 h34077 h35001) u35017 (by decide) (vc_X12_pick_W_34 h34938 h34982 h29601 h29639 h34081 h34146 h35002 h29597 h34077 h35001) (u35017.f (Or.inl (mAt.ne (A_165 hw) (A_126 hw) rfl)) q35004) (vc_X12_pick_W_35 h35010.2.1 h35010.2.2.1 h35014 h35012 h35015 h35013)) (vc_X12_pick_W_32 (nS h34941) h34938 h34982 h29601 h29639 h34081 h34146 h35002 h29597 h34077 h35001) (((h35010.2.2.2.1 h35010.1).1 h35012) μ35016 u35017 T35018)
                          have h35019 : 1 ≤ z35011 ∧ z35011 ≤ 1 := (vc_X12_candidate_11 h35012 h35010.2.1 h35010.2.2.1 h35006 h35010.1)
                          have h35020 : 0 ≤ z35003 := (h35010.2.1 (vc_X12_candidate_12 h35010.2.1 h35010.2.2.1 h35012 h35006 h35019))
                          have h35021 : 0 ≤ z35003 ∧ z35003 ≤ 9 := (vc_X12_candidate_13 h35020 h35010.2.1 h35010.2.2.1 h35006 h35019)
                          refine sv_aload_n (pc := 292) dX12_pick_292 rfl rfl ?_
                          refine gf_X12_32 (pc := 293) dX12_pick_293 wF_X12_148 (A_106 hw) T34935 ?_
                          refine mr_bipush (pc := 296) (z := 40) dX12_pick_296 (by decide) ?_
                          refine mr_iconst (pc := 298) (z := 4) dX12_pick_298 ?_
                          refine mr_iload (pc := 299) (z := z34931) dX12_pick_299 rfl ?_
                          refine mr_iadd (pc := 301) (x := 4) (y := z34931) dX12_pick_301 ?_
                          refine mr_imul (pc := 302) (x := 40) (y := (4 + z34931)) dX12_pick_302 ?_
                          refine mr_iconst (pc := 303) (z := 4) dX12_pick_303 ?_
                          refine mr_iadd (pc := 304) (x := (40 * (4 + z34931))) (y := 4) dX12_pick_304 ?_
                          refine la_126 (pc := 305) dX12_pick_305 (A_126 hw) T34935 (rIx (n := 84000) (rAdd (e := 164) (f := 924) (rMulL (n := 40) (e := 160) (f := 920) (rAdd (e := 4) (f := 23) (rR (x := 4)) h35001 rfl) rfl) (rR (x := 4)) rfl) rfl) fun z35022 q35023 h35024 => ?_
                          have h35025 : 0 ≤ z35022 ∧ z35022 ≤ 20 := h35024.2.2.1 (vc_X12_pick_W_39 h34938 h34982 h29601 h29639 h34081 h34146 h35002 h29597 h34077 h35001)
                          refine mr_if_le (pc := 306) (tgt := 333) dX12_pick_306 (by decide) (r32 h35025 rfl) (fun h35026 => ?_) (fun h35026 => ?_)
                          · have h35027 : 0 ≤ z35022 ∧ z35022 ≤ 0 := (vc_X12_write_57 h35026 h35025)
                            refine mr_iconst (pc := 333) (z := 0) dX12_pick_333 ?_
                            refine ss_165 (pc := 334) dX12_pick_334 (A_165 hw) T34935 (rIx (n := 20) h35001 rfl) (rW (c := 0) (d := 1) (rR (x := 0)) rfl) fun μ35028 u35029 T35030 => ?_
                            refine mr_iinc (pc := 335) (lv' := [(9, iv (z34931 + 1)), (0, .ref 106), (1, iv p1), (2, iv p2), (3, iv z30674), (4, iv 1), (5, iv z34072), (6, iv z34073), (8, iv z34072)]) dX12_pick_335 rfl (by decide) rfl ?_
                            refine sv_goto (pc := 338) (tgt := 266) dX12_pick_338 (by decide) ?_
                            refine mr_lvS (lv' := [(0, .ref 106), (1, iv p1), (2, iv p2), (3, iv z30674), (4, iv 1), (5, iv z34072), (6, iv z34073), (8, iv z34072), (9, iv (z34931 + 1))]) (List.forall_mem_cons.mpr ⟨rfl, List.forall_mem_cons.mpr ⟨rfl, List.forall_mem_cons.mpr ⟨rfl, List.forall_mem_cons.mpr ⟨rfl, List.forall_mem_cons.mpr ⟨rfl, List.forall_mem_cons.mpr ⟨rfl, List.forall_mem_cons.mpr ⟨rfl, List.forall_mem_cons.mpr ⟨rfl, List.forall_mem_cons.mpr ⟨rfl, fun _ h => absurd h List.not_mem_nil⟩⟩⟩⟩⟩⟩⟩⟩⟩) ?_
                            exact ih34943 (z34931 + 1) μ35028 T35030 (mF.up (mF.call mF.refl F34936 rfl) (A_165 hw) u35029 rfl) (rW (c := 0) (d := 20) (rAdd (e := 1) (f := 20) h35001 (rR (x := 1)) rfl) rfl) (vc_X12_pick_W_31 h29601 h29639 h34081 h34146 h34938 h34982 h35002 h29597 h34077 h35001) (PK.keep I34939 hw ((mF.up mF.refl (A_165 hw) u35029 rfl) : mF [165999] w μ34932 μ35028) rfl) (lft.z2 R34940 (vc_X12_pick_W_33 h34938 h34982 h29601 h29639 h34081 h34146 h35002 h29597 h34077 h35001) u35029 (by decide) (vc_X12_pick_W_41 h34938 h34982 h29601 h29639 h34081 h34146 h35002 h29597 h34077 h35001) (u35029.f (Or.inl (mAt.ne (A_165 hw) (A_126 hw) rfl)) q35023) (vc_X12_pick_W_42 h35026 h35027)) (vc_X12_pick_W_32 (nS h34941) h34938 h34982 h29601 h29639 h34081 h34146 h35002 h29597 h34077 h35001) (((((h35010.2.2.2.1 h35010.1).2 h35012) z35022 q35023 h35024).1 h35026) μ35028 u35029 T35030)
                          have h35031 : 1 ≤ z35022 ∧ z35022 ≤ 20 := (vc_X12_write_59 h35026 h35025)
                          refine sv_aload_n (pc := 309) dX12_pick_309 rfl rfl ?_
                          refine gf_X12_32 (pc := 310) dX12_pick_310 wF_X12_148 (A_106 hw) T34935 ?_
                          refine mr_bipush (pc := 313) (z := 40) dX12_pick_313 (by decide) ?_
                          refine mr_iconst (pc := 315) (z := 4) dX12_pick_315 ?_
                          refine mr_iload (pc := 316) (z := z34931) dX12_pick_316 rfl ?_
                          refine mr_iadd (pc := 318) (x := 4) (y := z34931) dX12_pick_318 ?_
                          refine mr_imul (pc := 319) (x := 40) (y := (4 + z34931)) dX12_pick_319 ?_
                          refine mr_bipush (pc := 320) (z := 6) dX12_pick_320 (by decide) ?_
                          refine mr_iadd (pc := 322) (x := (40 * (4 + z34931))) (y := 6) dX12_pick_322 ?_
                          refine la_126 (pc := 323) dX12_pick_323 (A_126 hw) T34935 (rIx (n := 84000) (rAdd (e := 166) (f := 926) (rMulL (n := 40) (e := 160) (f := 920) (rAdd (e := 4) (f := 23) (rR (x := 4)) h35001 rfl) rfl) (rR (x := 6)) rfl) rfl) fun z35032 q35033 h35034 => ?_
                          refine mr_iload (pc := 324) (z := z34072) dX12_pick_324 rfl ?_
                          refine mr_icmp_ne (pc := 326) (tgt := 333) dX12_pick_326 (by decide) h35034.1 h34076 (fun h35035 => ?_) (fun h35035 => ?_)
                          · refine mr_iconst (pc := 333) (z := 0) dX12_pick_333 ?_
                            refine ss_165 (pc := 334) dX12_pick_334 (A_165 hw) T34935 (rIx (n := 20) h35001 rfl) (rW (c := 0) (d := 1) (rR (x := 0)) rfl) fun μ35036 u35037 T35038 => ?_
                            refine mr_iinc (pc := 335) (lv' := [(9, iv (z34931 + 1)), (0, .ref 106), (1, iv p1), (2, iv p2), (3, iv z30674), (4, iv 1), (5, iv z34072), (6, iv z34073), (8, iv z34072)]) dX12_pick_335 rfl (by decide) rfl ?_
                            refine sv_goto (pc := 338) (tgt := 266) dX12_pick_338 (by decide) ?_
                            refine mr_lvS (lv' := [(0, .ref 106), (1, iv p1), (2, iv p2), (3, iv z30674), (4, iv 1), (5, iv z34072), (6, iv z34073), (8, iv z34072), (9, iv (z34931 + 1))]) (List.forall_mem_cons.mpr ⟨rfl, List.forall_mem_cons.mpr ⟨rfl, List.forall_mem_cons.mpr ⟨rfl, List.forall_mem_cons.mpr ⟨rfl, List.forall_mem_cons.mpr ⟨rfl, List.forall_mem_cons.mpr ⟨rfl, List.forall_mem_cons.mpr ⟨rfl, List.forall_mem_cons.mpr ⟨rfl, List.forall_mem_cons.mpr ⟨rfl, fun _ h => absurd h List.not_mem_nil⟩⟩⟩⟩⟩⟩⟩⟩⟩) ?_
                            exact ih34943 (z34931 + 1) μ35036 T35038 (mF.up (mF.call mF.refl F34936 rfl) (A_165 hw) u35037 rfl) (rW (c := 0) (d := 20) (rAdd (e := 1) (f := 20) h35001 (rR (x := 1)) rfl) rfl) (vc_X12_pick_W_31 h29601 h29639 h34081 h34146 h34938 h34982 h35002 h29597 h34077 h35001) (PK.keep I34939 hw ((mF.up mF.refl (A_165 hw) u35037 rfl) : mF [165999] w μ34932 μ35036) rfl) (lft.z3 R34940 (vc_X12_pick_W_33 h34938 h34982 h29601 h29639 h34081 h34146 h35002 h29597 h34077 h35001) u35037 (by decide) (vc_X12_pick_W_44 h34938 h34982 h29601 h29639 h34081 h34146 h35002 h29597 h34077 h35001) (u35037.f (Or.inl (mAt.ne (A_165 hw) (A_126 hw) rfl)) q35033) (vc_X12_pick_W_45 h34082 h35035 h34147 h30679 h30678 h34076 h34148 h35034.1)) (vc_X12_pick_W_32 (nS h34941) h34938 h34982 h29601 h29639 h34081 h34146 h35002 h29597 h34077 h35001) (((((((h35010.2.2.2.1 h35010.1).2 h35012) z35022 q35023 h35024).2 h35026) z35032 q35033 h35034).1 h35035) μ35036 u35037 T35038)
                          refine mr_iconst (pc := 329) (z := 1) dX12_pick_329 ?_
                          refine sv_goto (pc := 330) (tgt := 334) dX12_pick_330 (by decide) ?_
                          refine ss_165 (pc := 334) dX12_pick_334 (A_165 hw) T34935 (rIx (n := 20) h35001 rfl) (rW (c := 0) (d := 1) (rR (x := 1)) rfl) fun μ35039 u35040 T35041 => ?_
                          refine mr_iinc (pc := 335) (lv' := [(9, iv (z34931 + 1)), (0, .ref 106), (1, iv p1), (2, iv p2), (3, iv z30674), (4, iv 1), (5, iv z34072), (6, iv z34073), (8, iv z34072)]) dX12_pick_335 rfl (by decide) rfl ?_
                          refine sv_goto (pc := 338) (tgt := 266) dX12_pick_338 (by decide) ?_
                          refine mr_lvS (lv' := [(0, .ref 106), (1, iv p1), (2, iv p2), (3, iv z30674), (4, iv 1), (5, iv z34072), (6, iv z34073), (8, iv z34072), (9, iv (z34931 + 1))]) (List.forall_mem_cons.mpr ⟨rfl, List.forall_mem_cons.mpr ⟨rfl, List.forall_mem_cons.mpr ⟨rfl, List.forall_mem_cons.mpr ⟨rfl, List.forall_mem_cons.mpr ⟨rfl, List.forall_mem_cons.mpr ⟨rfl, List.forall_mem_cons.mpr ⟨rfl, List.forall_mem_cons.mpr ⟨rfl, List.forall_mem_cons.mpr ⟨rfl, fun _ h => absurd h List.not_mem_nil⟩⟩⟩⟩⟩⟩⟩⟩⟩) ?_
                          exact ih34943 (z34931 + 1) μ35039 T35041 (mF.up (mF.call mF.refl F34936 rfl) (A_165 hw) u35040 rfl) (rW (c := 0) (d := 20) (rAdd (e := 1) (f := 20) h35001 (rR (x := 1)) rfl) rfl) (vc_X12_pick_W_31 h29601 h29639 h34081 h34146 h34938 h34982 h35002 h29597 h34077 h35001) (PK.keep I34939 hw ((mF.up mF.refl (A_165 hw) u35040 rfl) : mF [165999] w μ34932 μ35039) rfl) (lft.p1 R34940 (vc_X12_pick_W_33 h34938 h34982 h29601 h29639 h34081 h34146 h35002 h29597 h34077 h35001) u35040 rfl (vc_X12_pick_W_34 h34938 h34982 h29601 h29639 h34081 h34146 h35002 h29597 h34077 h35001) (u35040.f (Or.inl (mAt.ne (A_165 hw) (A_126 hw) rfl)) q35004) (vc_X12_pick_W_46 h35010.2.1 h35010.2.2.1 h35020 h35012 h35021 h35019)) (vc_X12_pick_W_32 (nS h34941) h34938 h34982 h29601 h29639 h34081 h34146 h35002 h29597 h34077 h35001) (((((((h35010.2.2.2.1 h35010.1).2 h35012) z35022 q35023 h35024).2 h35026) z35032 q35033 h35034).2 h35035) μ35039 u35040 T35041)
                      refine mr_lvS (lv' := [(0, .ref 106), (1, iv p1), (2, iv p2), (3, iv z30674), (4, iv 1), (5, iv z34072), (6, iv z34073), (8, iv z34072), (9, iv 0)]) (List.forall_mem_cons.mpr ⟨rfl, List.forall_mem_cons.mpr ⟨rfl, List.forall_mem_cons.mpr ⟨rfl, List.forall_mem_cons.mpr ⟨rfl, List.forall_mem_cons.mpr ⟨rfl, List.forall_mem_cons.mpr ⟨rfl, List.forall_mem_cons.mpr ⟨rfl, List.forall_mem_cons.mpr ⟨rfl, List.forall_mem_cons.mpr ⟨rfl, fun _ h => absurd h List.not_mem_nil⟩⟩⟩⟩⟩⟩⟩⟩⟩) ?_
                      exact L34933 22 0 μ30675 T30681 mF.refl (rW (c := 0) (d := 20) (rR (x := 0)) rfl) (vc_X12_pick_W_47 h29601 h29639 h34081 h34146 ht_f_ties h29597 h34077) I30684 lft.zero vc_X12_tieOf_12 (((W34085 z34073 z34072 z34071 rfl h34075 h34076 h34077).1 h34146).1 h34147)
                    have h35042 : 0 ≤ z34073 ∧ z34073 ≤ 0 := (vc_X12_pick_W_49 h34147 h34082 h30679 h30678 h34076 h34075)
                    refine sv_goto (pc := 253) (tgt := 130) dX12_pick_253 (by decide) ?_
                    refine mr_lvS (lv' := [(0, .ref 106), (1, iv p1), (2, iv p2), (3, iv z30674), (4, iv z30673), (5, iv z30672), (6, iv z34073)]) (List.forall_mem_cons.mpr ⟨rfl, List.forall_mem_cons.mpr ⟨rfl, List.forall_mem_cons.mpr ⟨rfl, List.forall_mem_cons.mpr ⟨rfl, List.forall_mem_cons.mpr ⟨rfl, List.forall_mem_cons.mpr ⟨rfl, List.forall_mem_cons.mpr ⟨rfl, fun _ h => absurd h List.not_mem_nil⟩⟩⟩⟩⟩⟩⟩) ?_
                    exact ih30689 z30674 z30673 z30672 z34073 μ30675 T30681 (mF.call mF.refl F30682 rfl) h30677 h30678 h30679 (rW (c := 0) (d := 1) h35042 rfl) I30684 R30685 (vc_X12_pick_W_51 h30677 h30686) (vc_X12_pick_W_50 (nS h30687) h31044 h34082 h34147 h31046 h30679 h30678 h34076 h35042) (((W34085 z34073 z34072 z34071 rfl h34075 h34076 h34077).1 h34146).2 h34147)
                  have h35043 : 0 ≤ z34071 ∧ z34071 ≤ 19 := (vc_X12_pick_W_52 h34146 h29601 h29639 h34081 ht_f_ties h29597 h34077)
                  have h35044 : 1 ≤ f_ties ∧ f_ties ≤ 20 := (vc_X12_pick_W_53 h34146 h29601 h29639 h34081 ht_f_ties h29597 h35043)
                  refine sv_aload_n (pc := 153) dX12_pick_153 rfl rfl ?_
                  refine mr_iconst (pc := 154) (z := 4) dX12_pick_154 ?_
                  refine mr_iload (pc := 155) (z := z34071) dX12_pick_155 rfl ?_
                  refine mr_iadd (pc := 157) (x := 4) (y := z34071) dX12_pick_157 ?_
                  obtain ⟨z35045, q35046⟩ : ∃ z, μ30675 126 ((40 * (4 + z34071)).toNat) = z := ⟨_, rfl⟩
                  have h35047 := rt7 T30681 (A_126 hw) (vc_X12_pick_W_54 h34081 h34146 h29601 h29639 h35044 h29597 h35043) q35046
                  have h35048 : (-1) ≤ z35045 ∧ z35045 ≤ 9 := h35047.2.1 (vc_X12_pick_W_55 h34081 h34146 h29601 h29639 h35044 h29597 h35043)
                  refine mr_cVP (pc := 158) (c_X12_isThere_W hw T30681 (rW (c := 0) (d := 2099) (rAdd (e := 4) (f := 23) (rR (x := 4)) h35043 rfl) rfl) q35046 (((W34085 z34073 z34072 z34071 rfl h34075 h34076 h34077).2 h34146) z35045 q35046 h35047)) (gOk _ _ _ _ _) dX12_pick_158 (tX12_isThere _ _ _ _ _) ⟨wV_X12_isThere, wL_X12_isThere⟩ wM_X12_151 (gCX12 _ _ _ _ _) rfl (A_106 hw) rfl ⟨le_t rfl, le_t rfl⟩ ⟨le_t rfl, le_t rfl⟩ rfl (le_t rfl) fun z35053 h35052 => ?_
                  refine mr_if_eq (pc := 161) (tgt := 238) dX12_pick_161 (by decide) (r32 h35052.1 rfl) (fun h35054 => ?_) (fun h35054 => ?_)
                  · have h35055 : 0 ≤ z35053 ∧ z35053 ≤ 0 := (vc_X12_candidate_32 h35054 h35052.2.1 h35052.2.2.1 h35048 h35052.1)
                    have h35056 : z35045 < 0 := (h35052.2.2.1 (vc_X12_candidate_33 h35052.2.1 h35052.2.2.1 h35054 h35048 h35055))
                    have h35057 : (-1) ≤ z35045 ∧ z35045 ≤ (-1) := (vc_X12_candidate_34 h35056 h35052.2.1 h35052.2.2.1 h35048 h35055)
                    refine mr_iinc (pc := 238) (lv' := [(9, iv (z34071 + 1)), (0, .ref 106), (1, iv p1), (2, iv p2), (3, iv z30674), (4, iv z30673), (5, iv z30672), (7, iv z34073), (8, iv z34072)]) dX12_pick_238 rfl (by decide) rfl ?_
                    refine sv_goto (pc := 241) (tgt := 144) dX12_pick_241 (by decide) ?_
                    refine mr_lvS (lv' := [(0, .ref 106), (1, iv p1), (2, iv p2), (3, iv z30674), (4, iv z30673), (5, iv z30672), (7, iv z34073), (8, iv z34072), (9, iv (z34071 + 1))]) (List.forall_mem_cons.mpr ⟨rfl, List.forall_mem_cons.mpr ⟨rfl, List.forall_mem_cons.mpr ⟨rfl, List.forall_mem_cons.mpr ⟨rfl, List.forall_mem_cons.mpr ⟨rfl, List.forall_mem_cons.mpr ⟨rfl, List.forall_mem_cons.mpr ⟨rfl, List.forall_mem_cons.mpr ⟨rfl, List.forall_mem_cons.mpr ⟨rfl, fun _ h => absurd h List.not_mem_nil⟩⟩⟩⟩⟩⟩⟩⟩⟩) ?_
                    exact ih34086 z34073 z34072 (z34071 + 1) trivial h34075 h34076 (rW (c := 0) (d := 20) (rAdd (e := 1) (f := 20) h35043 (rR (x := 1)) rfl) rfl) (vc_X12_pick_W_59 h29601 h29639 h34081 h34146 h35044 h29597 h35043) (vc_X12_pick_W_60 h34082 h30679 h30678 h34076 h34075) (hit.or R34083 (vc_X12_pick_W_62 h34081 h34146 h29601 h29639 h35044 h29597 h35043)) (vc_X12_pick_W_61 (nS h34084) h34081 h34146 h29601 h29639 h35044 h29597 h35043) ((h35052.2.2.2.1 h35052.1).1 h35054)
                  have h35058 : 1 ≤ z35053 ∧ z35053 ≤ 1 := (vc_X12_candidate_11 h35054 h35052.2.1 h35052.2.2.1 h35048 h35052.1)
                  have h35059 : 0 ≤ z35045 := (h35052.2.1 (vc_X12_candidate_12 h35052.2.1 h35052.2.2.1 h35054 h35048 h35058))
                  have h35060 : 0 ≤ z35045 ∧ z35045 ≤ 9 := (vc_X12_candidate_13 h35059 h35052.2.1 h35052.2.2.1 h35048 h35058)
                  refine sv_aload_n (pc := 164) dX12_pick_164 rfl rfl ?_
                  refine gf_X12_32 (pc := 165) dX12_pick_165 wF_X12_148 (A_106 hw) T30681 ?_
                  refine mr_bipush (pc := 168) (z := 40) dX12_pick_168 (by decide) ?_
                  refine mr_iconst (pc := 170) (z := 4) dX12_pick_170 ?_
                  refine mr_iload (pc := 171) (z := z34071) dX12_pick_171 rfl ?_
                  refine mr_iadd (pc := 173) (x := 4) (y := z34071) dX12_pick_173 ?_
                  refine mr_imul (pc := 174) (x := 40) (y := (4 + z34071)) dX12_pick_174 ?_
                  refine mr_iconst (pc := 175) (z := 4) dX12_pick_175 ?_
                  refine mr_iadd (pc := 176) (x := (40 * (4 + z34071))) (y := 4) dX12_pick_176 ?_
                  refine la_126 (pc := 177) dX12_pick_177 (A_126 hw) T30681 (rIx (n := 84000) (rAdd (e := 164) (f := 924) (rMulL (n := 40) (e := 160) (f := 920) (rAdd (e := 4) (f := 23) (rR (x := 4)) h35043 rfl) rfl) (rR (x := 4)) rfl) rfl) fun z35061 q35062 h35063 => ?_
                  have h35064 : 0 ≤ z35061 ∧ z35061 ≤ 20 := h35063.2.2.1 (vc_X12_pick_W_66 h34081 h34146 h29601 h29639 h35044 h29597 h35043)
                  refine mr_if_ne (pc := 178) (tgt := 184) dX12_pick_178 (by decide) (r32 h35064 rfl) (fun h35065 => ?_) (fun h35065 => ?_)
                  · have h35066 : 1 ≤ z35061 ∧ z35061 ≤ 20 := (vc_X12_waysMatch_2 h35065 h35064)
                    refine sv_aload_n (pc := 184) dX12_pick_184 rfl rfl ?_
                    refine gf_X12_32 (pc := 185) dX12_pick_185 wF_X12_148 (A_106 hw) T30681 ?_
                    refine mr_bipush (pc := 188) (z := 40) dX12_pick_188 (by decide) ?_
                    refine mr_iconst (pc := 190) (z := 4) dX12_pick_190 ?_
                    refine mr_iload (pc := 191) (z := z34071) dX12_pick_191 rfl ?_
                    refine mr_iadd (pc := 193) (x := 4) (y := z34071) dX12_pick_193 ?_
                    refine mr_imul (pc := 194) (x := 40) (y := (4 + z34071)) dX12_pick_194 ?_
                    refine mr_bipush (pc := 195) (z := 6) dX12_pick_195 (by decide) ?_
                    refine mr_iadd (pc := 197) (x := (40 * (4 + z34071))) (y := 6) dX12_pick_197 ?_
                    refine la_126 (pc := 198) dX12_pick_198 (A_126 hw) T30681 (rIx (n := 84000) (rAdd (e := 166) (f := 926) (rMulL (n := 40) (e := 160) (f := 920) (rAdd (e := 4) (f := 23) (rR (x := 4)) h35043 rfl) rfl) (rR (x := 6)) rfl) rfl) fun z35067 q35068 h35069 => ?_
                    refine mr_istore (pc := 199) (lv' := [(10, iv z35067), (0, .ref 106), (1, iv p1), (2, iv p2), (3, iv z30674), (4, iv z30673), (5, iv z30672), (7, iv z34073), (8, iv z34072), (9, iv z34071)]) dX12_pick_199 (by decide) rfl ?_
                    refine mr_iload (pc := 201) (z := z30673) dX12_pick_201 rfl ?_
                    refine mr_if_eq (pc := 203) (tgt := 216) dX12_pick_203 (by decide) (r32 h30678 rfl) (fun h35070 => ?_) (fun h35070 => ?_)
                    · have h35071 : 0 ≤ z30673 ∧ z30673 ≤ 0 := (vc_X12_pick_W_68 h35070 h34082 h30679 h30678 h34076 h34075)
                      refine mr_iload (pc := 216) (z := z34073) dX12_pick_216 rfl ?_
                      refine mr_if_eq (pc := 218) (tgt := 231) dX12_pick_218 (by decide) (r32 h34075 rfl) (fun h35072 => ?_) (fun h35072 => ?_)
                      · have h35073 : 0 ≤ z34073 ∧ z34073 ≤ 0 := (vc_X12_pick_W_69 h35072 h34082 h30679 h35071 h34076 h34075)
                        refine mr_iload (pc := 231) (z := z35067) dX12_pick_231 rfl ?_
                        refine mr_istore (pc := 233) (lv' := [(8, iv z35067), (10, iv z35067), (0, .ref 106), (1, iv p1), (2, iv p2), (3, iv z30674), (4, iv z30673), (5, iv z30672), (7, iv z34073), (9, iv z34071)]) dX12_pick_233 (by decide) rfl ?_
                        refine mr_iconst (pc := 235) (z := 1) dX12_pick_235 ?_
                        refine mr_istore (pc := 236) (lv' := [(7, iv 1), (8, iv z35067), (10, iv z35067), (0, .ref 106), (1, iv p1), (2, iv p2), (3, iv z30674), (4, iv z30673), (5, iv z30672), (9, iv z34071)]) dX12_pick_236 (by decide) rfl ?_
                        refine mr_iinc (pc := 238) (lv' := [(9, iv (z34071 + 1)), (7, iv 1), (8, iv z35067), (10, iv z35067), (0, .ref 106), (1, iv p1), (2, iv p2), (3, iv z30674), (4, iv z30673), (5, iv z30672)]) dX12_pick_238 rfl (by decide) rfl ?_
                        refine sv_goto (pc := 241) (tgt := 144) dX12_pick_241 (by decide) ?_
                        refine mr_lvS (lv' := [(0, .ref 106), (1, iv p1), (2, iv p2), (3, iv z30674), (4, iv z30673), (5, iv z30672), (7, iv 1), (8, iv z35067), (9, iv (z34071 + 1))]) (List.forall_mem_cons.mpr ⟨rfl, List.forall_mem_cons.mpr ⟨rfl, List.forall_mem_cons.mpr ⟨rfl, List.forall_mem_cons.mpr ⟨rfl, List.forall_mem_cons.mpr ⟨rfl, List.forall_mem_cons.mpr ⟨rfl, List.forall_mem_cons.mpr ⟨rfl, List.forall_mem_cons.mpr ⟨rfl, List.forall_mem_cons.mpr ⟨rfl, fun _ h => absurd h List.not_mem_nil⟩⟩⟩⟩⟩⟩⟩⟩⟩) ?_
                        exact ih34086 1 z35067 (z34071 + 1) trivial (rW (c := 0) (d := 1) (rR (x := 1)) rfl) h35069.1 (rW (c := 0) (d := 20) (rAdd (e := 1) (f := 20) h35043 (rR (x := 1)) rfl) rfl) (vc_X12_pick_W_59 h29601 h29639 h34081 h34146 h35044 h29597 h35043) (vc_X12_pick_W_70 h34082 h35070 h35072 h30679 h35071 h34076 h35073 h35069.1) (Or.inr (hit.new (vc_X12_pick_W_71 h34081 h34146 h29601 h29639 h35044 h29597 h35043) (vc_X12_pick_W_72 h34081 h34146 h29601 h29639 h35044 h29597 h35043) q35046 (vc_X12_pick_W_46 h35052.2.1 h35052.2.2.1 h35059 h35054 h35060 h35058) (vc_X12_pick_W_74 h34081 h34146 h29601 h29639 h35044 h29597 h35043) q35062 (vc_X12_pick_W_75 h35065 h35066) (vc_X12_pick_W_76 h34081 h34146 h29601 h29639 h35044 h29597 h35043) q35068)) (vc_X12_pick_W_61 (nS h34084) h34081 h34146 h29601 h29639 h35044 h29597 h35043) (((((((h35052.2.2.2.1 h35052.1).2 h35054) z35061 q35062 h35063).1 h35065) z35067 q35068 h35069).1 h35070).1 h35072)
                      have h35074 : 1 ≤ z34073 ∧ z34073 ≤ 1 := (vc_X12_pick_W_77 h35072 h34082 h30679 h35071 h34076 h34075)
                      refine mr_iload (pc := 221) (z := z35067) dX12_pick_221 rfl ?_
                      refine mr_iload (pc := 223) (z := z34072) dX12_pick_223 rfl ?_
                      have W35080 := (((((((h35052.2.2.2.1 h35052.1).2 h35054) z35061 q35062 h35063).1 h35065) z35067 q35068 h35069).1 h35070).2 h35072)
                      refine mr_cSP (pc := 225) (c_X12_isBelow_W hw T30681 h35069.1 h34076 W35080) (gOk _ _ _ _ _) dX12_pick_225 (tX12_isBelow _ _ _ _ _) wS_X12_isBelow wM_X12_578 ⟨le_t rfl, le_t rfl⟩ ⟨le_t rfl, le_t rfl⟩ rfl (le_t rfl) fun z35079 h35078 => ?_
                      refine mr_if_eq (pc := 228) (tgt := 238) dX12_pick_228 (by decide) (r32 h35078.1 rfl) (fun h35081 => ?_) (fun h35081 => ?_)
                      · have h35082 : 0 ≤ z35079 ∧ z35079 ≤ 0 := (vc_X12_pick_W_78 h35081 h35078.2.1 h35078.2.2.1 h34076 h35069.1 h35078.1)
                        have h35083 : z34072 % 4294967296 ≤ z35067 % 4294967296 := (h35078.2.2.1 (vc_X12_pick_W_79 h35078.2.1 h35078.2.2.1 h35081 h34082 h30679 h35071 h34076 h35074 h35069.1 h35082))
                        refine mr_iinc (pc := 238) (lv' := [(9, iv (z34071 + 1)), (10, iv z35067), (0, .ref 106), (1, iv p1), (2, iv p2), (3, iv z30674), (4, iv z30673), (5, iv z30672), (7, iv z34073), (8, iv z34072)]) dX12_pick_238 rfl (by decide) rfl ?_
                        refine sv_goto (pc := 241) (tgt := 144) dX12_pick_241 (by decide) ?_
                        refine mr_lvS (lv' := [(0, .ref 106), (1, iv p1), (2, iv p2), (3, iv z30674), (4, iv z30673), (5, iv z30672), (7, iv z34073), (8, iv z34072), (9, iv (z34071 + 1))]) (List.forall_mem_cons.mpr ⟨rfl, List.forall_mem_cons.mpr ⟨rfl, List.forall_mem_cons.mpr ⟨rfl, List.forall_mem_cons.mpr ⟨rfl, List.forall_mem_cons.mpr ⟨rfl, List.forall_mem_cons.mpr ⟨rfl, List.forall_mem_cons.mpr ⟨rfl, List.forall_mem_cons.mpr ⟨rfl, List.forall_mem_cons.mpr ⟨rfl, fun _ h => absurd h List.not_mem_nil⟩⟩⟩⟩⟩⟩⟩⟩⟩) ?_
                        exact ih34086 z34073 z34072 (z34071 + 1) trivial (rW (c := 0) (d := 1) h35074 rfl) h34076 (rW (c := 0) (d := 20) (rAdd (e := 1) (f := 20) h35043 (rR (x := 1)) rfl) rfl) (vc_X12_pick_W_59 h29601 h29639 h34081 h34146 h35044 h29597 h35043) (vc_X12_pick_W_80 h34082 h35070 h35072 h35078.2.1 h35078.2.2.1 h35083 h35081 h30679 h35071 h34076 h35074 h35069.1 h35082) (hit.or R34083 (vc_X12_pick_W_62 h34081 h34146 h29601 h29639 h35044 h29597 h35043)) (vc_X12_pick_W_61 (nS h34084) h34081 h34146 h29601 h29639 h35044 h29597 h35043) ((h35078.2.2.2.1 h35078.1).1 h35081)
                      have h35084 : 1 ≤ z35079 ∧ z35079 ≤ 1 := (vc_X12_pick_W_81 h35081 h35078.2.1 h35078.2.2.1 h34076 h35069.1 h35078.1)
                      have h35085 : z35067 % 4294967296 < z34072 % 4294967296 := (h35078.2.1 (vc_X12_pick_W_82 h35078.2.1 h35078.2.2.1 h35081 h34082 h30679 h35071 h34076 h35074 h35069.1 h35084))
                      refine mr_iload (pc := 231) (z := z35067) dX12_pick_231 rfl ?_
                      refine mr_istore (pc := 233) (lv' := [(8, iv z35067), (10, iv z35067), (0, .ref 106), (1, iv p1), (2, iv p2), (3, iv z30674), (4, iv z30673), (5, iv z30672), (7, iv z34073), (9, iv z34071)]) dX12_pick_233 (by decide) rfl ?_
                      refine mr_iconst (pc := 235) (z := 1) dX12_pick_235 ?_
                      refine mr_istore (pc := 236) (lv' := [(7, iv 1), (8, iv z35067), (10, iv z35067), (0, .ref 106), (1, iv p1), (2, iv p2), (3, iv z30674), (4, iv z30673), (5, iv z30672), (9, iv z34071)]) dX12_pick_236 (by decide) rfl ?_
                      refine mr_iinc (pc := 238) (lv' := [(9, iv (z34071 + 1)), (7, iv 1), (8, iv z35067), (10, iv z35067), (0, .ref 106), (1, iv p1), (2, iv p2), (3, iv z30674), (4, iv z30673), (5, iv z30672)]) dX12_pick_238 rfl (by decide) rfl ?_
                      refine sv_goto (pc := 241) (tgt := 144) dX12_pick_241 (by decide) ?_
                      refine mr_lvS (lv' := [(0, .ref 106), (1, iv p1), (2, iv p2), (3, iv z30674), (4, iv z30673), (5, iv z30672), (7, iv 1), (8, iv z35067), (9, iv (z34071 + 1))]) (List.forall_mem_cons.mpr ⟨rfl, List.forall_mem_cons.mpr ⟨rfl, List.forall_mem_cons.mpr ⟨rfl, List.forall_mem_cons.mpr ⟨rfl, List.forall_mem_cons.mpr ⟨rfl, List.forall_mem_cons.mpr ⟨rfl, List.forall_mem_cons.mpr ⟨rfl, List.forall_mem_cons.mpr ⟨rfl, List.forall_mem_cons.mpr ⟨rfl, fun _ h => absurd h List.not_mem_nil⟩⟩⟩⟩⟩⟩⟩⟩⟩) ?_
                      exact ih34086 1 z35067 (z34071 + 1) trivial (rW (c := 0) (d := 1) (rR (x := 1)) rfl) h35069.1 (rW (c := 0) (d := 20) (rAdd (e := 1) (f := 20) h35043 (rR (x := 1)) rfl) rfl) (vc_X12_pick_W_59 h29601 h29639 h34081 h34146 h35044 h29597 h35043) (vc_X12_pick_W_83 h34082 h35070 h35078.2.1 h35078.2.2.1 h35085 h35072 h35081 h30679 h35071 h34076 h35074 h35069.1 h35084) (Or.inr (hit.new (vc_X12_pick_W_71 h34081 h34146 h29601 h29639 h35044 h29597 h35043) (vc_X12_pick_W_72 h34081 h34146 h29601 h29639 h35044 h29597 h35043) q35046 (vc_X12_pick_W_46 h35052.2.1 h35052.2.2.1 h35059 h35054 h35060 h35058) (vc_X12_pick_W_74 h34081 h34146 h29601 h29639 h35044 h29597 h35043) q35062 (vc_X12_pick_W_75 h35065 h35066) (vc_X12_pick_W_76 h34081 h34146 h29601 h29639 h35044 h29597 h35043) q35068)) (vc_X12_pick_W_61 (nS h34084) h34081 h34146 h29601 h29639 h35044 h29597 h35043) ((h35078.2.2.2.1 h35078.1).2 h35081)
                    have h35086 : 1 ≤ z30673 ∧ z30673 ≤ 1 := (vc_X12_pick_W_84 h35070 h34082 h30679 h30678 h34076 h34075)
                    refine mr_iload (pc := 206) (z := z30672) dX12_pick_206 rfl ?_
                    refine mr_iload (pc := 208) (z := z35067) dX12_pick_208 rfl ?_
                    have W35092 := ((((((h35052.2.2.2.1 h35052.1).2 h35054) z35061 q35062 h35063).1 h35065) z35067 q35068 h35069).2 h35070)
                    refine mr_cSP (pc := 210) (c_X12_isBelow_W hw T30681 h30679 h35069.1 W35092) (gOk _ _ _ _ _) dX12_pick_210 (tX12_isBelow _ _ _ _ _) wS_X12_isBelow wM_X12_578 ⟨le_t rfl, le_t rfl⟩ ⟨le_t rfl, le_t rfl⟩ rfl (le_t rfl) fun z35091 h35090 => ?_
                    refine mr_if_eq (pc := 213) (tgt := 238) dX12_pick_213 (by decide) (r32 h35090.1 rfl) (fun h35093 => ?_) (fun h35093 => ?_)
                    · have h35094 : 0 ≤ z35091 ∧ z35091 ≤ 0 := (vc_X12_pick_W_85 h35093 h35090.2.1 h35090.2.2.1 h30679 h35069.1 h35090.1)
                      have h35095 : z35067 % 4294967296 ≤ z30672 % 4294967296 := (h35090.2.2.1 (vc_X12_pick_W_86 h35090.2.1 h35090.2.2.1 h35093 h34082 h30679 h35086 h34076 h34075 h35069.1 h35094))
                      refine mr_iinc (pc := 238) (lv' := [(9, iv (z34071 + 1)), (10, iv z35067), (0, .ref 106), (1, iv p1), (2, iv p2), (3, iv z30674), (4, iv z30673), (5, iv z30672), (7, iv z34073), (8, iv z34072)]) dX12_pick_238 rfl (by decide) rfl ?_
                      refine sv_goto (pc := 241) (tgt := 144) dX12_pick_241 (by decide) ?_
                      refine mr_lvS (lv' := [(0, .ref 106), (1, iv p1), (2, iv p2), (3, iv z30674), (4, iv z30673), (5, iv z30672), (7, iv z34073), (8, iv z34072), (9, iv (z34071 + 1))]) (List.forall_mem_cons.mpr ⟨rfl, List.forall_mem_cons.mpr ⟨rfl, List.forall_mem_cons.mpr ⟨rfl, List.forall_mem_cons.mpr ⟨rfl, List.forall_mem_cons.mpr ⟨rfl, List.forall_mem_cons.mpr ⟨rfl, List.forall_mem_cons.mpr ⟨rfl, List.forall_mem_cons.mpr ⟨rfl, List.forall_mem_cons.mpr ⟨rfl, fun _ h => absurd h List.not_mem_nil⟩⟩⟩⟩⟩⟩⟩⟩⟩) ?_
                      exact ih34086 z34073 z34072 (z34071 + 1) trivial h34075 h34076 (rW (c := 0) (d := 20) (rAdd (e := 1) (f := 20) h35043 (rR (x := 1)) rfl) rfl) (vc_X12_pick_W_59 h29601 h29639 h34081 h34146 h35044 h29597 h35043) (vc_X12_pick_W_87 h34082 h35070 h35090.2.1 h35090.2.2.1 h35095 h35093 h30679 h35086 h34076 h34075 h35069.1 h35094) (hit.or R34083 (vc_X12_pick_W_62 h34081 h34146 h29601 h29639 h35044 h29597 h35043)) (vc_X12_pick_W_61 (nS h34084) h34081 h34146 h29601 h29639 h35044 h29597 h35043) ((h35090.2.2.2.1 h35090.1).1 h35093)
                    have h35096 : 1 ≤ z35091 ∧ z35091 ≤ 1 := (vc_X12_pick_W_88 h35093 h35090.2.1 h35090.2.2.1 h30679 h35069.1 h35090.1)
                    have h35097 : z30672 % 4294967296 < z35067 % 4294967296 := (h35090.2.1 (vc_X12_pick_W_89 h35090.2.1 h35090.2.2.1 h35093 h34082 h30679 h35086 h34076 h34075 h35069.1 h35096))
                    refine mr_iload (pc := 216) (z := z34073) dX12_pick_216 rfl ?_
                    refine mr_if_eq (pc := 218) (tgt := 231) dX12_pick_218 (by decide) (r32 h34075 rfl) (fun h35098 => ?_) (fun h35098 => ?_)
                    · have h35099 : 0 ≤ z34073 ∧ z34073 ≤ 0 := (vc_X12_pick_W_90 h35098 h34082 h30679 h35086 h34076 h34075)
                      refine mr_iload (pc := 231) (z := z35067) dX12_pick_231 rfl ?_
                      refine mr_istore (pc := 233) (lv' := [(8, iv z35067), (10, iv z35067), (0, .ref 106), (1, iv p1), (2, iv p2), (3, iv z30674), (4, iv z30673), (5, iv z30672), (7, iv z34073), (9, iv z34071)]) dX12_pick_233 (by decide) rfl ?_
                      refine mr_iconst (pc := 235) (z := 1) dX12_pick_235 ?_
                      refine mr_istore (pc := 236) (lv' := [(7, iv 1), (8, iv z35067), (10, iv z35067), (0, .ref 106), (1, iv p1), (2, iv p2), (3, iv z30674), (4, iv z30673), (5, iv z30672), (9, iv z34071)]) dX12_pick_236 (by decide) rfl ?_
                      refine mr_iinc (pc := 238) (lv' := [(9, iv (z34071 + 1)), (7, iv 1), (8, iv z35067), (10, iv z35067), (0, .ref 106), (1, iv p1), (2, iv p2), (3, iv z30674), (4, iv z30673), (5, iv z30672)]) dX12_pick_238 rfl (by decide) rfl ?_
                      refine sv_goto (pc := 241) (tgt := 144) dX12_pick_241 (by decide) ?_
                      refine mr_lvS (lv' := [(0, .ref 106), (1, iv p1), (2, iv p2), (3, iv z30674), (4, iv z30673), (5, iv z30672), (7, iv 1), (8, iv z35067), (9, iv (z34071 + 1))]) (List.forall_mem_cons.mpr ⟨rfl, List.forall_mem_cons.mpr ⟨rfl, List.forall_mem_cons.mpr ⟨rfl, List.forall_mem_cons.mpr ⟨rfl, List.forall_mem_cons.mpr ⟨rfl, List.forall_mem_cons.mpr ⟨rfl, List.forall_mem_cons.mpr ⟨rfl, List.forall_mem_cons.mpr ⟨rfl, List.forall_mem_cons.mpr ⟨rfl, fun _ h => absurd h List.not_mem_nil⟩⟩⟩⟩⟩⟩⟩⟩⟩) ?_
                      exact ih34086 1 z35067 (z34071 + 1) trivial (rW (c := 0) (d := 1) (rR (x := 1)) rfl) h35069.1 (rW (c := 0) (d := 20) (rAdd (e := 1) (f := 20) h35043 (rR (x := 1)) rfl) rfl) (vc_X12_pick_W_59 h29601 h29639 h34081 h34146 h35044 h29597 h35043) (vc_X12_pick_W_91 h34082 h35070 h35090.2.1 h35090.2.2.1 h35097 h35093 h35098 h30679 h35086 h34076 h35099 h35069.1 h35096) (Or.inr (hit.new (vc_X12_pick_W_71 h34081 h34146 h29601 h29639 h35044 h29597 h35043) (vc_X12_pick_W_72 h34081 h34146 h29601 h29639 h35044 h29597 h35043) q35046 (vc_X12_pick_W_46 h35052.2.1 h35052.2.2.1 h35059 h35054 h35060 h35058) (vc_X12_pick_W_74 h34081 h34146 h29601 h29639 h35044 h29597 h35043) q35062 (vc_X12_pick_W_75 h35065 h35066) (vc_X12_pick_W_76 h34081 h34146 h29601 h29639 h35044 h29597 h35043) q35068)) (vc_X12_pick_W_61 (nS h34084) h34081 h34146 h29601 h29639 h35044 h29597 h35043) (((h35090.2.2.2.1 h35090.1).2 h35093).1 h35098)
                    have h35100 : 1 ≤ z34073 ∧ z34073 ≤ 1 := (vc_X12_pick_W_92 h35098 h34082 h30679 h35086 h34076 h34075)
                    refine mr_iload (pc := 221) (z := z35067) dX12_pick_221 rfl ?_
                    refine mr_iload (pc := 223) (z := z34072) dX12_pick_223 rfl ?_
                    refine mr_cSP (pc := 225) (c_X12_isBelow_W hw T30681 h35069.1 h34076 (((h35090.2.2.2.1 h35090.1).2 h35093).2 h35098)) (gOk _ _ _ _ _) dX12_pick_225 (tX12_isBelow _ _ _ _ _) wS_X12_isBelow wM_X12_578 ⟨le_t rfl, le_t rfl⟩ ⟨le_t rfl, le_t rfl⟩ rfl (le_t rfl) fun z35105 h35104 => ?_
                    refine mr_if_eq (pc := 228) (tgt := 238) dX12_pick_228 (by decide) (r32 h35104.1 rfl) (fun h35106 => ?_) (fun h35106 => ?_)
                    · have h35107 : 0 ≤ z35105 ∧ z35105 ≤ 0 := (vc_X12_pick_W_78 h35106 h35104.2.1 h35104.2.2.1 h34076 h35069.1 h35104.1)
                      have h35108 : z34072 % 4294967296 ≤ z35067 % 4294967296 := (h35104.2.2.1 (vc_X12_pick_W_94 h35104.2.1 h35104.2.2.1 h35106 h34082 h35090.2.1 h35090.2.2.1 h35097 h30679 h35086 h34076 h35100 h35069.1 h35096 h35107))
                      refine mr_iinc (pc := 238) (lv' := [(9, iv (z34071 + 1)), (10, iv z35067), (0, .ref 106), (1, iv p1), (2, iv p2), (3, iv z30674), (4, iv z30673), (5, iv z30672), (7, iv z34073), (8, iv z34072)]) dX12_pick_238 rfl (by decide) rfl ?_
                      refine sv_goto (pc := 241) (tgt := 144) dX12_pick_241 (by decide) ?_
                      refine mr_lvS (lv' := [(0, .ref 106), (1, iv p1), (2, iv p2), (3, iv z30674), (4, iv z30673), (5, iv z30672), (7, iv z34073), (8, iv z34072), (9, iv (z34071 + 1))]) (List.forall_mem_cons.mpr ⟨rfl, List.forall_mem_cons.mpr ⟨rfl, List.forall_mem_cons.mpr ⟨rfl, List.forall_mem_cons.mpr ⟨rfl, List.forall_mem_cons.mpr ⟨rfl, List.forall_mem_cons.mpr ⟨rfl, List.forall_mem_cons.mpr ⟨rfl, List.forall_mem_cons.mpr ⟨rfl, List.forall_mem_cons.mpr ⟨rfl, fun _ h => absurd h List.not_mem_nil⟩⟩⟩⟩⟩⟩⟩⟩⟩) ?_
                      exact ih34086 z34073 z34072 (z34071 + 1) trivial (rW (c := 0) (d := 1) h35100 rfl) h34076 (rW (c := 0) (d := 20) (rAdd (e := 1) (f := 20) h35043 (rR (x := 1)) rfl) rfl) (vc_X12_pick_W_59 h29601 h29639 h34081 h34146 h35044 h29597 h35043) (vc_X12_pick_W_95 h34082 h35070 h35090.2.1 h35090.2.2.1 h35097 h35098 h35104.2.1 h35104.2.2.1 h35108 h35093 h35106 h30679 h35086 h34076 h35100 h35069.1 h35096 h35107) (hit.or R34083 (vc_X12_pick_W_62 h34081 h34146 h29601 h29639 h35044 h29597 h35043)) (vc_X12_pick_W_61 (nS h34084) h34081 h34146 h29601 h29639 h35044 h29597 h35043) ((h35104.2.2.2.1 h35104.1).1 h35106)
                    have h35109 : 1 ≤ z35105 ∧ z35105 ≤ 1 := (vc_X12_pick_W_81 h35106 h35104.2.1 h35104.2.2.1 h34076 h35069.1 h35104.1)
                    have h35110 : z35067 % 4294967296 < z34072 % 4294967296 := (h35104.2.1 (vc_X12_pick_W_97 h35104.2.1 h35104.2.2.1 h35106 h34082 h35090.2.1 h35090.2.2.1 h35097 h30679 h35086 h34076 h35100 h35069.1 h35096 h35109))
                    refine mr_iload (pc := 231) (z := z35067) dX12_pick_231 rfl ?_
                    refine mr_istore (pc := 233) (lv' := [(8, iv z35067), (10, iv z35067), (0, .ref 106), (1, iv p1), (2, iv p2), (3, iv z30674), (4, iv z30673), (5, iv z30672), (7, iv z34073), (9, iv z34071)]) dX12_pick_233 (by decide) rfl ?_
                    refine mr_iconst (pc := 235) (z := 1) dX12_pick_235 ?_
                    refine mr_istore (pc := 236) (lv' := [(7, iv 1), (8, iv z35067), (10, iv z35067), (0, .ref 106), (1, iv p1), (2, iv p2), (3, iv z30674), (4, iv z30673), (5, iv z30672), (9, iv z34071)]) dX12_pick_236 (by decide) rfl ?_
                    refine mr_iinc (pc := 238) (lv' := [(9, iv (z34071 + 1)), (7, iv 1), (8, iv z35067), (10, iv z35067), (0, .ref 106), (1, iv p1), (2, iv p2), (3, iv z30674), (4, iv z30673), (5, iv z30672)]) dX12_pick_238 rfl (by decide) rfl ?_
                    refine sv_goto (pc := 241) (tgt := 144) dX12_pick_241 (by decide) ?_
                    refine mr_lvS (lv' := [(0, .ref 106), (1, iv p1), (2, iv p2), (3, iv z30674), (4, iv z30673), (5, iv z30672), (7, iv 1), (8, iv z35067), (9, iv (z34071 + 1))]) (List.forall_mem_cons.mpr ⟨rfl, List.forall_mem_cons.mpr ⟨rfl, List.forall_mem_cons.mpr ⟨rfl, List.forall_mem_cons.mpr ⟨rfl, List.forall_mem_cons.mpr ⟨rfl, List.forall_mem_cons.mpr ⟨rfl, List.forall_mem_cons.mpr ⟨rfl, List.forall_mem_cons.mpr ⟨rfl, List.forall_mem_cons.mpr ⟨rfl, fun _ h => absurd h List.not_mem_nil⟩⟩⟩⟩⟩⟩⟩⟩⟩) ?_
                    exact ih34086 1 z35067 (z34071 + 1) trivial (rW (c := 0) (d := 1) (rR (x := 1)) rfl) h35069.1 (rW (c := 0) (d := 20) (rAdd (e := 1) (f := 20) h35043 (rR (x := 1)) rfl) rfl) (vc_X12_pick_W_59 h29601 h29639 h34081 h34146 h35044 h29597 h35043) (vc_X12_pick_W_98 h34082 h35070 h35090.2.1 h35090.2.2.1 h35097 h35104.2.1 h35104.2.2.1 h35110 h35093 h35098 h35106 h30679 h35086 h34076 h35100 h35069.1 h35096 h35109) (Or.inr (hit.new (vc_X12_pick_W_71 h34081 h34146 h29601 h29639 h35044 h29597 h35043) (vc_X12_pick_W_72 h34081 h34146 h29601 h29639 h35044 h29597 h35043) q35046 (vc_X12_pick_W_46 h35052.2.1 h35052.2.2.1 h35059 h35054 h35060 h35058) (vc_X12_pick_W_74 h34081 h34146 h29601 h29639 h35044 h29597 h35043) q35062 (vc_X12_pick_W_75 h35065 h35066) (vc_X12_pick_W_76 h34081 h34146 h29601 h29639 h35044 h29597 h35043) q35068)) (vc_X12_pick_W_61 (nS h34084) h34081 h34146 h29601 h29639 h35044 h29597 h35043) ((h35104.2.2.2.1 h35104.1).2 h35106)
                  have h35111 : 0 ≤ z35061 ∧ z35061 ≤ 0 := (vc_X12_waysMatch_23 h35065 h35064)
                  refine sv_goto (pc := 181) (tgt := 238) dX12_pick_181 (by decide) ?_
                  refine mr_iinc (pc := 238) (lv' := [(9, iv (z34071 + 1)), (0, .ref 106), (1, iv p1), (2, iv p2), (3, iv z30674), (4, iv z30673), (5, iv z30672), (7, iv z34073), (8, iv z34072)]) dX12_pick_238 rfl (by decide) rfl ?_
                  refine sv_goto (pc := 241) (tgt := 144) dX12_pick_241 (by decide) ?_
                  refine mr_lvS (lv' := [(0, .ref 106), (1, iv p1), (2, iv p2), (3, iv z30674), (4, iv z30673), (5, iv z30672), (7, iv z34073), (8, iv z34072), (9, iv (z34071 + 1))]) (List.forall_mem_cons.mpr ⟨rfl, List.forall_mem_cons.mpr ⟨rfl, List.forall_mem_cons.mpr ⟨rfl, List.forall_mem_cons.mpr ⟨rfl, List.forall_mem_cons.mpr ⟨rfl, List.forall_mem_cons.mpr ⟨rfl, List.forall_mem_cons.mpr ⟨rfl, List.forall_mem_cons.mpr ⟨rfl, List.forall_mem_cons.mpr ⟨rfl, fun _ h => absurd h List.not_mem_nil⟩⟩⟩⟩⟩⟩⟩⟩⟩) ?_
                  exact ih34086 z34073 z34072 (z34071 + 1) trivial h34075 h34076 (rW (c := 0) (d := 20) (rAdd (e := 1) (f := 20) h35043 (rR (x := 1)) rfl) rfl) (vc_X12_pick_W_59 h29601 h29639 h34081 h34146 h35044 h29597 h35043) (vc_X12_pick_W_60 h34082 h30679 h30678 h34076 h34075) (hit.or R34083 (vc_X12_pick_W_62 h34081 h34146 h29601 h29639 h35044 h29597 h35043)) (vc_X12_pick_W_61 (nS h34084) h34081 h34146 h29601 h29639 h35044 h29597 h35043) ((((h35052.2.2.2.1 h35052.1).2 h35054) z35061 q35062 h35063).2 h35065)
              refine mr_lvS (lv' := [(0, .ref 106), (1, iv p1), (2, iv p2), (3, iv z30674), (4, iv z30673), (5, iv z30672), (7, iv 0), (8, iv 0), (9, iv 0)]) (List.forall_mem_cons.mpr ⟨rfl, List.forall_mem_cons.mpr ⟨rfl, List.forall_mem_cons.mpr ⟨rfl, List.forall_mem_cons.mpr ⟨rfl, List.forall_mem_cons.mpr ⟨rfl, List.forall_mem_cons.mpr ⟨rfl, List.forall_mem_cons.mpr ⟨rfl, List.forall_mem_cons.mpr ⟨rfl, List.forall_mem_cons.mpr ⟨rfl, fun _ h => absurd h List.not_mem_nil⟩⟩⟩⟩⟩⟩⟩⟩⟩) ?_
              exact L34074 22 0 0 0 trivial (rW (c := 0) (d := 1) (rR (x := 0)) rfl) (rW (c := (-2147483648)) (d := 2147483647) (rR (x := 0)) rfl) (rW (c := 0) (d := 20) (rR (x := 0)) rfl) (vc_X12_pick_W_100 h29601 h29639 ht_f_ties h29597) (vc_X12_pick_W_101 h30679 h30678) (Or.inl rfl) vc_X12_tieOf_12 ((W30688 z30674 z30673 z30672 z30671 μ30675 rfl h30677 h30678 h30679 h30680 T30681 F30682).2 h31044)
          refine mr_lvS (lv' := [(0, .ref 106), (1, iv p1), (2, iv p2), (3, iv z29594), (4, iv 0), (5, iv 0), (6, iv 1)]) (List.forall_mem_cons.mpr ⟨rfl, List.forall_mem_cons.mpr ⟨rfl, List.forall_mem_cons.mpr ⟨rfl, List.forall_mem_cons.mpr ⟨rfl, List.forall_mem_cons.mpr ⟨rfl, List.forall_mem_cons.mpr ⟨rfl, List.forall_mem_cons.mpr ⟨rfl, fun _ h => absurd h List.not_mem_nil⟩⟩⟩⟩⟩⟩⟩) ?_
          exact L30676 8589934594 z29594 0 0 1 μ16647 T16648 mF.refl h29596 (rW (c := 0) (d := 1) (rR (x := 0)) rfl) (rW (c := (-2147483648)) (d := 2147483647) (rR (x := 0)) rfl) (rW (c := 0) (d := 1) (rR (x := 1)) rfl) (PK.keep hIPK hw ((mF.call mF.refl F16649 rfl) : mF [106026, 106027, 106028, 106029, 106030, 106031, 126999, 151999, 152999, 153999] w μ μ16647) rfl) R29602 (vc_X12_pick_W_51 h29596 h29603) vc_X12_pick_W_102 ((W29605 z29594 z29593 rfl h29596 h29597).1 h29639)
        have h35112 : 0 ≤ z29593 ∧ z29593 ≤ 19 := (vc_X12_pick_W_104 h29639 h29601 ht_f_ties h29597)
        have h35113 : 1 ≤ f_ties ∧ f_ties ≤ 20 := (vc_X12_pick_W_105 h29639 h29601 ht_f_ties h35112)
        refine sv_aload_n (pc := 66) dX12_pick_66 rfl rfl ?_
        refine mr_iconst (pc := 67) (z := 4) dX12_pick_67 ?_
        refine mr_iload (pc := 68) (z := z29593) dX12_pick_68 rfl ?_
        refine mr_iadd (pc := 70) (x := 4) (y := z29593) dX12_pick_70 ?_
        obtain ⟨z35114, q35115⟩ : ∃ z, μ16647 126 ((40 * (4 + z29593)).toNat) = z := ⟨_, rfl⟩
        have h35116 := rt7 T16648 (A_126 hw) (vc_X12_pick_W_106 h29601 h29639 h35113 h35112) q35115
        have h35117 : (-1) ≤ z35114 ∧ z35114 ≤ 9 := h35116.2.1 (vc_X12_pick_W_107 h29601 h29639 h35113 h35112)
        refine mr_cVP (pc := 71) (c_X12_isThere_W hw T16648 (rW (c := 0) (d := 2099) (rAdd (e := 4) (f := 23) (rR (x := 4)) h35112 rfl) rfl) q35115 (((W29605 z29594 z29593 rfl h29596 h29597).2 h29639) z35114 q35115 h35116)) (gOk _ _ _ _ _) dX12_pick_71 (tX12_isThere _ _ _ _ _) ⟨wV_X12_isThere, wL_X12_isThere⟩ wM_X12_151 (gCX12 _ _ _ _ _) rfl (A_106 hw) rfl ⟨le_t rfl, le_t rfl⟩ ⟨le_t rfl, le_t rfl⟩ rfl (le_t rfl) fun z35122 h35121 => ?_
        refine mr_if_eq (pc := 74) (tgt := 115) dX12_pick_74 (by decide) (r32 h35121.1 rfl) (fun h35123 => ?_) (fun h35123 => ?_)
        · have h35124 : 0 ≤ z35122 ∧ z35122 ≤ 0 := (vc_X12_candidate_32 h35123 h35121.2.1 h35121.2.2.1 h35117 h35121.1)
          have h35125 : z35114 < 0 := (h35121.2.2.1 (vc_X12_candidate_33 h35121.2.1 h35121.2.2.1 h35123 h35117 h35124))
          have h35126 : (-1) ≤ z35114 ∧ z35114 ≤ (-1) := (vc_X12_candidate_34 h35125 h35121.2.1 h35121.2.2.1 h35117 h35124)
          refine mr_iinc (pc := 115) (lv' := [(4, iv (z29593 + 1)), (0, .ref 106), (1, iv p1), (2, iv p2), (3, iv z29594)]) dX12_pick_115 rfl (by decide) rfl ?_
          refine sv_goto (pc := 118) (tgt := 57) dX12_pick_118 (by decide) ?_
          refine mr_lvS (lv' := [(0, .ref 106), (1, iv p1), (2, iv p2), (3, iv z29594), (4, iv (z29593 + 1))]) (List.forall_mem_cons.mpr ⟨rfl, List.forall_mem_cons.mpr ⟨rfl, List.forall_mem_cons.mpr ⟨rfl, List.forall_mem_cons.mpr ⟨rfl, List.forall_mem_cons.mpr ⟨rfl, fun _ h => absurd h List.not_mem_nil⟩⟩⟩⟩⟩) ?_
          exact ih29606 z29594 (z29593 + 1) trivial h29596 (rW (c := 0) (d := 20) (rAdd (e := 1) (f := 20) h35112 (rR (x := 1)) rfl) rfl) (vc_X12_pick_W_111 h29601 h29639 h35113 h35112) R29602 (vc_X12_pick_W_51 h29596 h29603) (vc_X12_pick_W_112 (nS h29604) h29601 h29639 h35113 h35112) ((h35121.2.2.2.1 h35121.1).1 h35123)
        have h35127 : 1 ≤ z35122 ∧ z35122 ≤ 1 := (vc_X12_candidate_11 h35123 h35121.2.1 h35121.2.2.1 h35117 h35121.1)
        have h35128 : 0 ≤ z35114 := (h35121.2.1 (vc_X12_candidate_12 h35121.2.1 h35121.2.2.1 h35123 h35117 h35127))
        have h35129 : 0 ≤ z35114 ∧ z35114 ≤ 9 := (vc_X12_candidate_13 h35128 h35121.2.1 h35121.2.2.1 h35117 h35127)
        refine sv_aload_n (pc := 77) dX12_pick_77 rfl rfl ?_
        refine gf_X12_32 (pc := 78) dX12_pick_78 wF_X12_148 (A_106 hw) T16648 ?_
        refine mr_bipush (pc := 81) (z := 40) dX12_pick_81 (by decide) ?_
        refine mr_iconst (pc := 83) (z := 4) dX12_pick_83 ?_
        refine mr_iload (pc := 84) (z := z29593) dX12_pick_84 rfl ?_
        refine mr_iadd (pc := 86) (x := 4) (y := z29593) dX12_pick_86 ?_
        refine mr_imul (pc := 87) (x := 40) (y := (4 + z29593)) dX12_pick_87 ?_
        refine mr_iconst (pc := 88) (z := 4) dX12_pick_88 ?_
        refine mr_iadd (pc := 89) (x := (40 * (4 + z29593))) (y := 4) dX12_pick_89 ?_
        refine la_126 (pc := 90) dX12_pick_90 (A_126 hw) T16648 (rIx (n := 84000) (rAdd (e := 164) (f := 924) (rMulL (n := 40) (e := 160) (f := 920) (rAdd (e := 4) (f := 23) (rR (x := 4)) h35112 rfl) rfl) (rR (x := 4)) rfl) rfl) fun z35130 q35131 h35132 => ?_
        have h35133 : 0 ≤ z35130 ∧ z35130 ≤ 20 := h35132.2.2.1 (vc_X12_pick_W_116 h29601 h29639 h35113 h35112)
        refine mr_if_ne (pc := 91) (tgt := 115) dX12_pick_91 (by decide) (r32 h35133 rfl) (fun h35134 => ?_) (fun h35134 => ?_)
        · have h35135 : 1 ≤ z35130 ∧ z35130 ≤ 20 := (vc_X12_waysMatch_2 h35134 h35133)
          refine mr_iinc (pc := 115) (lv' := [(4, iv (z29593 + 1)), (0, .ref 106), (1, iv p1), (2, iv p2), (3, iv z29594)]) dX12_pick_115 rfl (by decide) rfl ?_
          refine sv_goto (pc := 118) (tgt := 57) dX12_pick_118 (by decide) ?_
          refine mr_lvS (lv' := [(0, .ref 106), (1, iv p1), (2, iv p2), (3, iv z29594), (4, iv (z29593 + 1))]) (List.forall_mem_cons.mpr ⟨rfl, List.forall_mem_cons.mpr ⟨rfl, List.forall_mem_cons.mpr ⟨rfl, List.forall_mem_cons.mpr ⟨rfl, List.forall_mem_cons.mpr ⟨rfl, fun _ h => absurd h List.not_mem_nil⟩⟩⟩⟩⟩) ?_
          exact ih29606 z29594 (z29593 + 1) trivial h29596 (rW (c := 0) (d := 20) (rAdd (e := 1) (f := 20) h35112 (rR (x := 1)) rfl) rfl) (vc_X12_pick_W_111 h29601 h29639 h35113 h35112) R29602 (vc_X12_pick_W_51 h29596 h29603) (vc_X12_pick_W_112 (nS h29604) h29601 h29639 h35113 h35112) ((((h35121.2.2.2.1 h35121.1).2 h35123) z35130 q35131 h35132).1 h35134)
        have h35136 : 0 ≤ z35130 ∧ z35130 ≤ 0 := (vc_X12_waysMatch_23 h35134 h35133)
        refine mr_iload_n (pc := 94) (z := z29594) dX12_pick_94 rfl rfl ?_
        refine mr_ldc (pc := 95) (z := (-99999999)) dX12_pick_95 wG_X12_29 (by decide) ?_
        refine mr_icmp_eq (pc := 97) (tgt := 112) dX12_pick_97 (by decide) (r32 h29596 rfl) (r32 (rR (x := (-99999999))) rfl) (fun h35137 => ?_) (fun h35137 => ?_)
        · have h35138 : (-99999999) ≤ z29594 ∧ z29594 ≤ (-99999999) := (vc_X12_pick_W_17 h35137 h29596 h29603)
          refine mr_iload (pc := 112) (z := z29593) dX12_pick_112 rfl ?_
          refine mr_istore_n (pc := 114) (lv' := [(3, iv z29593), (0, .ref 106), (1, iv p1), (2, iv p2), (4, iv z29593)]) dX12_pick_114 rfl (by decide) rfl ?_
          refine mr_iinc (pc := 115) (lv' := [(4, iv (z29593 + 1)), (3, iv z29593), (0, .ref 106), (1, iv p1), (2, iv p2)]) dX12_pick_115 rfl (by decide) rfl ?_
          refine sv_goto (pc := 118) (tgt := 57) dX12_pick_118 (by decide) ?_
          refine mr_lvS (lv' := [(0, .ref 106), (1, iv p1), (2, iv p2), (3, iv z29593), (4, iv (z29593 + 1))]) (List.forall_mem_cons.mpr ⟨rfl, List.forall_mem_cons.mpr ⟨rfl, List.forall_mem_cons.mpr ⟨rfl, List.forall_mem_cons.mpr ⟨rfl, List.forall_mem_cons.mpr ⟨rfl, fun _ h => absurd h List.not_mem_nil⟩⟩⟩⟩⟩) ?_
          exact ih29606 z29593 (z29593 + 1) trivial (rW (c := (-99999999)) (d := 19) h35112 rfl) (rW (c := 0) (d := 20) (rAdd (e := 1) (f := 20) h35112 (rR (x := 1)) rfl) rfl) (vc_X12_pick_W_111 h29601 h29639 h35113 h35112) (wOK.of (vc_X12_pick_W_120 h29601 h29639 h35113 h35112) q35115 (vc_X12_pick_W_46 h35121.2.1 h35121.2.2.1 h35128 h35123 h35129 h35127)) (vc_X12_pick_W_122 h29601 h29639 h35113 h35112) (vc_X12_pick_W_112 (nS h29604) h29601 h29639 h35113 h35112) (((((h35121.2.2.2.1 h35121.1).2 h35123) z35130 q35131 h35132).2 h35134).1 h35137)
        have h35139 : 0 ≤ z29594 ∧ z29594 ≤ 19 := (vc_X12_pick_W_20 h35137 h29596 h29603)
        refine sv_aload_n (pc := 100) dX12_pick_100 rfl rfl ?_
        refine mr_iload_n (pc := 101) (z := p1) dX12_pick_101 rfl rfl ?_
        refine mr_iload (pc := 102) (z := z29593) dX12_pick_102 rfl ?_
        refine mr_iload_n (pc := 104) (z := z29594) dX12_pick_104 rfl rfl ?_
        refine mr_iload_n (pc := 105) (z := p2) dX12_pick_105 rfl rfl ?_
        refine mr_cVP (pc := 106) (c_X12_beats_W hw T16648 hp1 h35112 h35139 hp2 (((((h35121.2.2.2.1 h35121.1).2 h35123) z35130 q35131 h35132).2 h35134).2 h35137)) (gOk _ _ _ _ _) dX12_pick_106 (tX12_beats _ _ _ _ _) ⟨wV_X12_beats, wL_X12_beats⟩ wM_X12_568 (gCX12 _ _ _ _ _) rfl (A_106 hw) rfl ⟨le_t rfl, le_t rfl⟩ ⟨le_t rfl, le_t rfl⟩ rfl (le_t rfl) fun z35144 h35143 => ?_
        refine mr_if_eq (pc := 109) (tgt := 115) dX12_pick_109 (by decide) (r32 h35143.1 rfl) (fun h35145 => ?_) (fun h35145 => ?_)
        · have h35146 : 0 ≤ z35144 ∧ z35144 ≤ 0 := (vc_X12_ring_22 h35145 h35143.1)
          refine mr_iinc (pc := 115) (lv' := [(4, iv (z29593 + 1)), (0, .ref 106), (1, iv p1), (2, iv p2), (3, iv z29594)]) dX12_pick_115 rfl (by decide) rfl ?_
          refine sv_goto (pc := 118) (tgt := 57) dX12_pick_118 (by decide) ?_
          refine mr_lvS (lv' := [(0, .ref 106), (1, iv p1), (2, iv p2), (3, iv z29594), (4, iv (z29593 + 1))]) (List.forall_mem_cons.mpr ⟨rfl, List.forall_mem_cons.mpr ⟨rfl, List.forall_mem_cons.mpr ⟨rfl, List.forall_mem_cons.mpr ⟨rfl, List.forall_mem_cons.mpr ⟨rfl, fun _ h => absurd h List.not_mem_nil⟩⟩⟩⟩⟩) ?_
          exact ih29606 z29594 (z29593 + 1) trivial (rW (c := (-99999999)) (d := 19) h35139 rfl) (rW (c := 0) (d := 20) (rAdd (e := 1) (f := 20) h35112 (rR (x := 1)) rfl) rfl) (vc_X12_pick_W_111 h29601 h29639 h35113 h35112) R29602 (vc_X12_pick_W_22 h35137 h35139 h29603) (vc_X12_pick_W_112 (nS h29604) h29601 h29639 h35113 h35112) ((h35143.2.1 h35143.1).1 h35145)
        have h35147 : 1 ≤ z35144 ∧ z35144 ≤ 1 := (vc_X12_ring_24 h35145 h35143.1)
        refine mr_iload (pc := 112) (z := z29593) dX12_pick_112 rfl ?_
        refine mr_istore_n (pc := 114) (lv' := [(3, iv z29593), (0, .ref 106), (1, iv p1), (2, iv p2), (4, iv z29593)]) dX12_pick_114 rfl (by decide) rfl ?_
        refine mr_iinc (pc := 115) (lv' := [(4, iv (z29593 + 1)), (3, iv z29593), (0, .ref 106), (1, iv p1), (2, iv p2)]) dX12_pick_115 rfl (by decide) rfl ?_
        refine sv_goto (pc := 118) (tgt := 57) dX12_pick_118 (by decide) ?_
        refine mr_lvS (lv' := [(0, .ref 106), (1, iv p1), (2, iv p2), (3, iv z29593), (4, iv (z29593 + 1))]) (List.forall_mem_cons.mpr ⟨rfl, List.forall_mem_cons.mpr ⟨rfl, List.forall_mem_cons.mpr ⟨rfl, List.forall_mem_cons.mpr ⟨rfl, List.forall_mem_cons.mpr ⟨rfl, fun _ h => absurd h List.not_mem_nil⟩⟩⟩⟩⟩) ?_
        exact ih29606 z29593 (z29593 + 1) trivial (rW (c := (-99999999)) (d := 19) h35112 rfl) (rW (c := 0) (d := 20) (rAdd (e := 1) (f := 20) h35112 (rR (x := 1)) rfl) rfl) (vc_X12_pick_W_111 h29601 h29639 h35113 h35112) (wOK.of (vc_X12_pick_W_120 h29601 h29639 h35113 h35112) q35115 (vc_X12_pick_W_46 h35121.2.1 h35121.2.2.1 h35128 h35123 h35129 h35127)) (vc_X12_pick_W_122 h29601 h29639 h35113 h35112) (vc_X12_pick_W_112 (nS h29604) h29601 h29639 h35113 h35112) ((h35143.2.1 h35143.1).2 h35145)
    refine mr_lvS (lv' := [(0, .ref 106), (1, iv p1), (2, iv p2), (3, iv (-99999999)), (4, iv 0)]) (List.forall_mem_cons.mpr ⟨rfl, List.forall_mem_cons.mpr ⟨rfl, List.forall_mem_cons.mpr ⟨rfl, List.forall_mem_cons.mpr ⟨rfl, List.forall_mem_cons.mpr ⟨rfl, fun _ h => absurd h List.not_mem_nil⟩⟩⟩⟩⟩) ?_
    exact L29595 22 (-99999999) 0 trivial (rW (c := (-99999999)) (d := 19) (rR (x := (-99999999))) rfl) (rW (c := 0) (d := 20) (rR (x := 0)) rfl) (vc_X12_best_Wl_33 ht_f_ties) (Or.inl rfl) vc_X12_best_Wl_35 vc_X12_tieOf_12 (((h16650.2.1 T16648 F16649) z16651 q16652 h16653).1 h16654)
  have h35148 : 0 ≤ z16651 ∧ z16651 ≤ 0 := (vc_X12_ring_22 h16654 h16653)
  refine mr_iconst (pc := 15) (z := 0) dX12_pick_15 ?_
  refine mr_istore_n (pc := 16) (lv' := [(3, iv 0), (0, .ref 106), (1, iv p1), (2, iv p2)]) dX12_pick_16 rfl (by decide) rfl ?_
  have L35471 : ∀ (nL35471 : Nat) (z35469 : Int) (μ35470 : mM), mT w μ35470 → mF [165999] w μ16647 μ35470 → (0 ≤ z35469 ∧ z35469 ≤ 20) → (z35469 ≤ f_ties) → PK μ35470 → leftOK μ35470 z35469 → (21 - z35469) < (nL35471 : Int) → loopF (WL_X12_pick_W_5 w p1 p2 Q f_ties μ16647) False nL35471 (z35469, μ35470) → sV (gG l D c H0 sa) mX12_pick (sRm 9 0 0) (sZ (gG l D c H0 sa) 0 0 (qI w [106026, 106027, 106028, 106029, 106030, 106031, 126999, 151999, 152999, 153999, 165999] μ (fun z μ1 => ((-99999999) ≤ z ∧ z ≤ 19) ∧ mG [(160, 960)] μ μ1 ∧ (z = -99999999 ∨ (0 ≤ z ∧ z ≤ 19)) ∧ (z = -99999999 ∨ 0 ≤ μ1 126 (160 + 40 * z).toNat) ∧ Q z μ1 ∧ True))) 17 [(0, .ref 106), (1, iv p1), (2, iv p2), (3, iv z35469)] [] (mk w μ35470) 0 0 := by
    intro nL35471
    induction nL35471 with
    | zero => intro z35469 μ35470 T35473 F35474 h35472 h35476 I35477 R35478 h35479 W35480; exact ((vc_X12_pick_W_2 h35479 h35476 ht_f_ties h35472)).elim
    | succ nL35471 ih35481 =>
      intro z35469 μ35470 T35473 F35474 h35472 h35476 I35477 R35478 h35479 W35480
      refine mr_iload_n (pc := 17) (z := z35469) dX12_pick_17 rfl rfl ?_
      refine sv_aload_n (pc := 18) dX12_pick_18 rfl rfl ?_
      refine gk_X12_6 (pc := 19) dX12_pick_19 wF_X12_37 (A_106 hw) (F35474.f (A_106 hw) rfl (F16649.f (A_106 hw) rfl q_f_ties)) ?_
      refine mr_icmp_ge (pc := 22) (tgt := 44) dX12_pick_22 (by decide) (r32 h35472 rfl) (r32 ht_f_ties rfl) (fun h35496 => ?_) (fun h35496 => ?_)
      · refine sv_aload_n (pc := 44) dX12_pick_44 rfl rfl ?_
        refine mr_iload_n (pc := 45) (z := p1) dX12_pick_45 rfl rfl ?_
        refine mr_iload_n (pc := 46) (z := p2) dX12_pick_46 rfl rfl ?_
        refine mr_cVP (pc := 47) (c_X12_best_Wl hw T35473 hp1 hp2 (F35474.f (A_106 hw) rfl (F16649.f (A_106 hw) rfl q_f_ties)) ((W35480 z35469 μ35470 rfl h35472 T35473 F35474).1 h35496)) (gOk _ _ _ _ _) dX12_pick_47 (tX12_best _ _ _ _ _) ⟨wV_X12_best, wL_X12_best⟩ wM_X12_575 (gCX12 _ _ _ _ _) rfl (A_106 hw) rfl ⟨le_t rfl, le_t rfl⟩ ⟨le_t rfl, le_t rfl⟩ rfl (le_t rfl) fun z35501 h35500 => ?_
        exact mr_iret dX12_pick_50 rfl (le_t rfl) (le_t rfl) T35473 (mF.call (mF.call mF.refl F16649 rfl) F35474 rfl) ⟨h35500.1, (mG.fr (mG.call mG.refl h16650.1 (List.forall_mem_cons.mpr ⟨⟨_, List.mem_cons_self, vc_X12_candidates_W_2⟩, (fun _ h => absurd h List.not_mem_nil)⟩)) F35474 (A_126 hw) rfl), (vc_X12_pick_W_131 h35500.2.1 h35500.2.2.1 h35476 h35496 ht_f_ties h35472 h35500.1), (leftOK.best (n := f_ties) (fun j j0 j1 => R35478 j j0 (Int.lt_of_lt_of_le j1 (vc_X12_pick_W_132 h35476 h35496 h35500.2.2.1 h35500.2.1 ht_f_ties h35472 h35500.1))) h35500.2.2.2.1 (vc_X12_pick_W_133 h35476 h35496 h35500.2.1 h35500.2.2.1 ht_f_ties h35472 h35500.1) (vc_X12_pick_W_131 h35500.2.1 h35500.2.2.1 h35476 h35496 ht_f_ties h35472 h35500.1)), (h35500.2.2.2.2.1 h35500.1), trivial⟩
      have h35502 : 0 ≤ z35469 ∧ z35469 ≤ 19 := (vc_X12_pick_W_104 h35496 h35476 ht_f_ties h35472)
      have h35503 : 1 ≤ f_ties ∧ f_ties ≤ 20 := (vc_X12_pick_W_105 h35496 h35476 ht_f_ties h35502)
      refine sv_aload_n (pc := 25) dX12_pick_25 rfl rfl ?_
      refine gf_X12_85 (pc := 26) dX12_pick_26 wF_X12_457 (A_106 hw) T35473 ?_
      refine mr_iload_n (pc := 29) (z := z35469) dX12_pick_29 rfl rfl ?_
      refine sv_aload_n (pc := 30) dX12_pick_30 rfl rfl ?_
      refine mr_iconst (pc := 31) (z := 4) dX12_pick_31 ?_
      refine mr_iload_n (pc := 32) (z := z35469) dX12_pick_32 rfl rfl ?_
      refine mr_iadd (pc := 33) (x := 4) (y := z35469) dX12_pick_33 ?_
      obtain ⟨z35504, q35505⟩ : ∃ z, μ35470 126 ((40 * (4 + z35469)).toNat) = z := ⟨_, rfl⟩
      have h35506 := rt7 T35473 (A_126 hw) (vc_X12_pick_W_106 h35476 h35496 h35503 h35502) q35505
      have h35507 : (-1) ≤ z35504 ∧ z35504 ≤ 9 := h35506.2.1 (vc_X12_pick_W_107 h35476 h35496 h35503 h35502)
      refine mr_cVP (pc := 34) (c_X12_isThere_W hw T35473 (rW (c := 0) (d := 2099) (rAdd (e := 4) (f := 23) (rR (x := 4)) h35502 rfl) rfl) q35505 (((W35480 z35469 μ35470 rfl h35472 T35473 F35474).2 h35496) z35504 q35505 h35506)) (gOk _ _ _ _ _) dX12_pick_34 (tX12_isThere _ _ _ _ _) ⟨wV_X12_isThere, wL_X12_isThere⟩ wM_X12_151 (gCX12 _ _ _ _ _) rfl (A_106 hw) rfl ⟨le_t rfl, le_t rfl⟩ ⟨le_t rfl, le_t rfl⟩ rfl (le_t rfl) fun z35512 h35511 => ?_
      refine ss_165 (pc := 37) dX12_pick_37 (A_165 hw) T35473 (rIx (n := 20) h35502 rfl) h35511.1 fun μ35513 u35514 T35515 => ?_
      refine mr_iinc (pc := 38) (lv' := [(3, iv (z35469 + 1)), (0, .ref 106), (1, iv p1), (2, iv p2)]) dX12_pick_38 rfl (by decide) rfl ?_
      refine sv_goto (pc := 41) (tgt := 17) dX12_pick_41 (by decide) ?_
      refine mr_lvS (lv' := [(0, .ref 106), (1, iv p1), (2, iv p2), (3, iv (z35469 + 1))]) (List.forall_mem_cons.mpr ⟨rfl, List.forall_mem_cons.mpr ⟨rfl, List.forall_mem_cons.mpr ⟨rfl, List.forall_mem_cons.mpr ⟨rfl, fun _ h => absurd h List.not_mem_nil⟩⟩⟩⟩) ?_
      exact ih35481 (z35469 + 1) μ35513 T35515 (mF.up (mF.call mF.refl F35474 rfl) (A_165 hw) u35514 rfl) (rW (c := 0) (d := 20) (rAdd (e := 1) (f := 20) h35502 (rR (x := 1)) rfl) rfl) (vc_X12_pick_W_111 h35476 h35496 h35503 h35502) (PK.keep I35477 hw ((mF.up mF.refl (A_165 hw) u35514 rfl) : mF [165999] w μ35470 μ35513) rfl) (leftOK.put R35478 (vc_X12_pick_W_140 h35476 h35496 h35503 h35502) u35514 (vc_X12_pick_W_120 h35476 h35496 h35503 h35502) (u35514.f (Or.inl (mAt.ne (A_165 hw) (A_126 hw) rfl)) q35505) (vc_X12_pick_W_142 h35511.2.1 h35511.2.2.1 h35507 h35511.1)) (vc_X12_pick_W_112 (nS h35479) h35476 h35496 h35503 h35502) ((h35511.2.2.2.1 h35511.1) μ35513 u35514 T35515)
  refine mr_lvS (lv' := [(0, .ref 106), (1, iv p1), (2, iv p2), (3, iv 0)]) (List.forall_mem_cons.mpr ⟨rfl, List.forall_mem_cons.mpr ⟨rfl, List.forall_mem_cons.mpr ⟨rfl, List.forall_mem_cons.mpr ⟨rfl, fun _ h => absurd h List.not_mem_nil⟩⟩⟩⟩) ?_
  exact L35471 22 0 μ16647 T16648 mF.refl (rW (c := 0) (d := 20) (rR (x := 0)) rfl) (vc_X12_best_Wl_33 ht_f_ties) (PK.keep hIPK hw ((mF.call mF.refl F16649 rfl) : mF [106026, 106027, 106028, 106029, 106030, 106031, 126999, 151999, 152999, 153999] w μ μ16647) rfl) leftOK.zero vc_X12_tieOf_12 (((h16650.2.1 T16648 F16649) z16651 q16652 h16653).2 h16654)
def WJ_X12_say_W_1 (w : mW) (p2 : Int) (Q : mM → Prop) (z761 : Int) (μ763 : mM) (μ856 : mM) : Prop := mT w μ856 → mF [106026, 106027, 106028, 106029, 106030, 106031, 126999, 151999, 152999, 153999] w μ763 μ856 → WP_X12_same_W w μ856 (2) (530 + z761) (fun z869 _ => (0 ≤ z869 ∧ z869 ≤ 1) → ((z869 = 0) → ∀ z872 : Int, μ856 155 (z761.toNat) = z872 → (0 ≤ z872 ∧ z872 ≤ 1) → ((z872 = 0) → ∀ z877 : Int, μ856 126 (((40 * 2) : Int).toNat) = z877 → ((-2147483648 ≤ z877 ∧ z877 ≤ 2147483647) ∧ (((40 * 2) : Int) % 40 = 0 → -1 ≤ z877 ∧ z877 ≤ 9) ∧ (((40 * 2) : Int) % 40 = 4 → 0 ≤ z877 ∧ z877 ≤ 20) ∧ (((40 * 2) : Int) % 40 = 5 → 0 ≤ z877 ∧ z877 ≤ 8)) → WP_X12_copy_W w μ856 (2) (530 + z761) (fun μ881 => mT w μ881 → mF [126999] w μ856 μ881 → ∀ z885 : Int, μ881 126 ((40 * (530 + z761)).toNat) = z885 → ∀ μ891 : mM, mU μ881 155 (z761.toNat) (1 : Int) μ891 → mT w μ891 → ∀ z894 : Int, μ891 106 71 = z894 → (0 ≤ z894 ∧ z894 ≤ 2000000000) → ∀ μ897 : mM, mU μ891 156 (z761.toNat) z894 μ897 → mT w μ897 → WP_X12_copy_W w μ897 (2) (930 + z761) (fun μ900 => mT w μ900 → mF [126999] w μ897 μ900 → ∀ z904 : Int, μ900 126 ((40 * (930 + z761)).toNat) = z904 → ∀ z910 : Int, μ900 113 (p2.toNat) = z910 → (0 ≤ z910 ∧ z910 ≤ 1000) → ∀ μ913 : mM, mU μ900 157 (z761.toNat) (z894 + z910) μ913 → mT w μ913 → ∀ z917 : Int, μ913 106 72 = z917 → ((-2147483648) ≤ z917 ∧ z917 ≤ 2147483647) → ∀ μ920 : mM, mU μ913 158 (z761.toNat) z917 μ920 → mT w μ920 → ∀ z923 : Int, (-2147483648 ≤ z923 ∧ z923 ≤ 2147483647) → (z923 - (z917 + 1)) % 4294967296 = 0 → ∀ μ926 : mM, mU μ920 106 (72) z923 μ926 → mT w μ926 → Q μ926))) ∧ ((¬ z872 = 0) → ∀ z930 : Int, μ856 106 71 = z930 → (0 ≤ z930 ∧ z930 ≤ 2000000000) → ∀ z933 : Int, μ856 156 (z761.toNat) = z933 → (0 ≤ z933 ∧ z933 ≤ 2000000000) → ∀ z936 : Int, μ856 114 (p2.toNat) = z936 → (0 ≤ z936 ∧ z936 ≤ 1000) → (((z933 + z936) ≤ z930) → ∀ z940 : Int, μ856 126 (((40 * 2) : Int).toNat) = z940 → ((-2147483648 ≤ z940 ∧ z940 ≤ 2147483647) ∧ (((40 * 2) : Int) % 40 = 0 → -1 ≤ z940 ∧ z940 ≤ 9) ∧ (((40 * 2) : Int) % 40 = 4 → 0 ≤ z940 ∧ z940 ≤ 20) ∧ (((40 * 2) : Int) % 40 = 5 → 0 ≤ z940 ∧ z940 ≤ 8)) → WP_X12_copy_W w μ856 (2) (530 + z761) (fun μ944 => mT w μ944 → mF [126999] w μ856 μ944 → ∀ z949 : Int, μ944 126 ((40 * (530 + z761)).toNat) = z949 → ∀ μ955 : mM, mU μ944 155 (z761.toNat) (1 : Int) μ955 → mT w μ955 → ∀ μ958 : mM, mU μ955 156 (z761.toNat) z930 μ958 → mT w μ958 → WP_X12_copy_W w μ958 (2) (930 + z761) (fun μ961 => mT w μ961 → mF [126999] w μ958 μ961 → ∀ z965 : Int, μ961 126 ((40 * (930 + z761)).toNat) = z965 → ∀ z971 : Int, μ961 113 (p2.toNat) = z971 → (0 ≤ z971 ∧ z971 ≤ 1000) → ∀ μ974 : mM, mU μ961 157 (z761.toNat) (z930 + z971) μ974 → mT w μ974 → ∀ z978 : Int, μ974 106 72 = z978 → ((-2147483648) ≤ z978 ∧ z978 ≤ 2147483647) → ∀ μ981 : mM, mU μ974 158 (z761.toNat) z978 μ981 → mT w μ981 → ∀ z984 : Int, (-2147483648 ≤ z984 ∧ z984 ≤ 2147483647) → (z984 - (z978 + 1)) % 4294967296 = 0 → ∀ μ987 : mM, mU μ981 106 (72) z984 μ987 → mT w μ987 → Q μ987))) ∧ ((z930 < (z933 + z936)) → ∀ z990 : Int, μ856 159 (z761.toNat) = z990 → ((-1) ≤ z990 ∧ z990 ≤ 2000001000) → ((0 ≤ z990) → Q μ856) ∧ ((z990 < 0) → ∀ μ1013 : mM, mU μ856 159 (z761.toNat) (z933 + z936) μ1013 → mT w μ1013 → ∀ z1017 : Int, μ1013 106 72 = z1017 → ((-2147483648) ≤ z1017 ∧ z1017 ≤ 2147483647) → ∀ μ1020 : mM, mU μ1013 160 (z761.toNat) z1017 μ1020 → mT w μ1020 → ∀ z1023 : Int, (-2147483648 ≤ z1023 ∧ z1023 ≤ 2147483647) → (z1023 - (z1017 + 1)) % 4294967296 = 0 → ∀ μ1026 : mM, mU μ1020 106 (72) z1023 μ1026 → mT w μ1026 → Q μ1026)))) ∧ ((¬ z869 = 0) → Q μ856))
def WJ_X12_say_W_2 (w : mW) (p2 : Int) (Q : mM → Prop) (z761 : Int) (μ763 : mM) (μ1048 : mM) (z1080 : Int) (μ1082 : mM) : Prop := (0 ≤ z1080 ∧ z1080 ≤ 1) → mT w μ1082 → mF [106026, 106027, 106028, 106029, 106030, 106031, 126999, 151999, 152999, 153999] w μ1048 μ1082 → ∀ μ1091 : mM, mU μ1082 126 ((81 : Int).toNat) (100 : Int) μ1091 → mT w μ1091 → ((¬ z1080 = 0) → (WJ_X12_say_W_1 w p2 Q z761 μ763) μ1091) ∧ ((z1080 = 0) → WP_X12_nothing_W w μ1091 (2) (fun μ1097 => mT w μ1097 → mF [126999] w μ1091 μ1097 → ∀ z1101 : Int, μ1097 126 (((40 * 2) : Int).toNat) = z1101 → (WJ_X12_say_W_1 w p2 Q z761 μ763) μ1097))
def WP_X12_say_W (w : mW) (μ : mM) (p1 : Int) (p2 : Int) (p3 : Int) (Q : mM → Prop) : Prop := ∀ f_e0 : Int, μ 110 ((2 * p2).toNat) = f_e0 → (0 ≤ f_e0 ∧ f_e0 ≤ 9) → ∀ f_e1 : Int, μ 110 (((2 * p2) + 1).toNat) = f_e1 → (0 ≤ f_e1 ∧ f_e1 ≤ 9) → ∀ f_ties : Int, μ 106 6 = f_ties → (0 ≤ f_ties ∧ f_ties ≤ 20) → WP_X12_sideOf_W w μ p2 p1 (fun z756 _ => (0 ≤ z756 ∧ z756 ≤ 1) → WP_X12_slot_W w μ p2 z756 p3 (fun z761 _ => (0 ≤ z761 ∧ z761 ≤ 449) → WP_X12_nothing_W w μ (2) (fun μ763 => mT w μ763 → mF [126999] w μ μ763 → ∀ z767 : Int, μ763 126 (((40 * 2) : Int).toNat) = z767 → ∀ z774 : Int, μ763 161 (((10 * p1) + p3).toNat) = z774 → (z774 = -99999999 ∨ z774 = -4 ∨ (0 ≤ z774 ∧ z774 ≤ 19)) → ∀ z778 : Int, μ763 126 ((40 * (30 + ((10 * p1) + p3))).toNat) = z778 → ((-2147483648 ≤ z778 ∧ z778 ≤ 2147483647) ∧ ((40 * (30 + ((10 * p1) + p3))) % 40 = 0 → -1 ≤ z778 ∧ z778 ≤ 9) ∧ ((40 * (30 + ((10 * p1) + p3))) % 40 = 4 → 0 ≤ z778 ∧ z778 ≤ 20) ∧ ((40 * (30 + ((10 * p1) + p3))) % 40 = 5 → 0 ≤ z778 ∧ z778 ≤ 8)) → ((z774 = (-99999999)) → (WJ_X12_say_W_1 w p2 Q z761 μ763) μ763) ∧ ((¬ z774 = (-99999999)) → ((z774 = p2) → (WJ_X12_say_W_1 w p2 Q z761 μ763) μ763) ∧ ((¬ z774 = p2) → WP_X12_copy_W w μ763 (30 + ((10 * p1) + p3)) (2) (fun μ1035 => mT w μ1035 → mF [126999] w μ763 μ1035 → ∀ z1039 : Int, μ1035 126 (((40 * 2) : Int).toNat) = z1039 → ∀ μ1045 : mM, mU μ1035 126 ((81 : Int).toNat) (100 : Int) μ1045 → mT w μ1045 → WP_X12_front_W w μ1045 (2) p1 (fun z1052 μ1048 => mT w μ1048 → mF [126999] w μ1045 μ1048 → (0 ≤ z1052 ∧ z1052 ≤ 1) → ((z1052 = 0) → (WJ_X12_say_W_2 w p2 Q z761 μ763 μ1048) (0 : Int) μ1048) ∧ ((¬ z1052 = 0) → ∀ z1111 : Int, μ1048 115 ((((4 * p2) + (2 * z756)) + 1).toNat) = z1111 → (z1111 = -99999999 ∨ (0 ≤ z1111 ∧ z1111 ≤ 11)) → ∀ z1115 : Int, μ1048 106 39 = z1115 → (0 ≤ z1115 ∧ z1115 ≤ 12) → WP_X12_partnerOf_Wpt w μ1048 p2 p1 (fun z1123 _ => (0 ≤ z1123 ∧ z1123 ≤ 9) → WP_X12_through_W w μ1048 z1111 (2) p1 z1123 (p2) (fun z1128 μ1124 => mT w μ1124 → mF [106026, 106027, 106028, 106029, 106030, 106031, 126999, 151999, 152999, 153999] w μ1048 μ1124 → (0 ≤ z1128 ∧ z1128 ≤ 1) → ∀ z1129 : Int, μ1124 126 (((40 * 2) : Int).toNat) = z1129 → ((z1128 = 0) → (WJ_X12_say_W_2 w p2 Q z761 μ763 μ1048) (0 : Int) μ1124) ∧ ((¬ z1128 = 0) → (WJ_X12_say_W_2 w p2 Q z761 μ763 μ1048) (1 : Int) μ1124)))))))))))
theorem vc_X12_say_W_3  : (0 : Int) ≤ ((40 : Int) * (2 : Int)) := by omega
theorem vc_X12_say_W_4  : (((40 : Int) * (2 : Int)) : Int) % (40 : Int) = (0 : Int) := by omega
theorem vc_X12_say_W_7 {f_e0 f_e1 f_ties p1 p2 p3 z756 z761 : Int} (h0 : f_e0 = p1 ∨ f_e1 = p1) (h1 : (z756 = 0 → f_e0 = p1)) (h2 : (z756 = 1 → ¬ f_e0 = p1)) (h3 : z761 = (((20 * p2) + (10 * z756)) + p3)) (h4 : p2 < f_ties) (h5 : 0 ≤ f_e0 ∧ f_e0 ≤ 9) (h6 : 0 ≤ f_e1 ∧ f_e1 ≤ 9) (h7 : 1 ≤ f_ties ∧ f_ties ≤ 20) (h8 : 0 ≤ p1 ∧ p1 ≤ 9) (h9 : 0 ≤ p2 ∧ p2 ≤ 19) (h10 : 0 ≤ p3 ∧ p3 ≤ 9) (h11 : 0 ≤ z756 ∧ z756 ≤ 1) (h12 : 0 ≤ z761 ∧ z761 ≤ 399) : 0 ≤ (40 * (30 + ((10 * p1) + p3))) := by omega
theorem vc_X12_say_W_8 {f_e0 f_e1 f_ties p1 p2 p3 z756 z761 : Int} (h0 : f_e0 = p1 ∨ f_e1 = p1) (h1 : (z756 = 0 → f_e0 = p1)) (h2 : (z756 = 1 → ¬ f_e0 = p1)) (h3 : z761 = (((20 * p2) + (10 * z756)) + p3)) (h4 : p2 < f_ties) (h5 : 0 ≤ f_e0 ∧ f_e0 ≤ 9) (h6 : 0 ≤ f_e1 ∧ f_e1 ≤ 9) (h7 : 1 ≤ f_ties ∧ f_ties ≤ 20) (h8 : 0 ≤ p1 ∧ p1 ≤ 9) (h9 : 0 ≤ p2 ∧ p2 ≤ 19) (h10 : 0 ≤ p3 ∧ p3 ≤ 9) (h11 : 0 ≤ z756 ∧ z756 ≤ 1) (h12 : 0 ≤ z761 ∧ z761 ≤ 399) : (40 * (30 + ((10 * p1) + p3))) % 40 = 0 := by omega
theorem vc_X12_say_W_9  : ((40 : Int) * (2 : Int)) ≤ ((40 : Int) * (2 : Int)) ∧ (((40 : Int) * (2 : Int)) + (1 : Int)) ≤ (((40 : Int) * (2 : Int)) + (1 : Int)) := by omega
theorem vc_X12_say_W_10  : ((1 : Int) ≤ (((40 : Int) * (2 : Int)) : Int) ∧ ((((40 : Int) * (2 : Int)) + (1 : Int)) : Int) ≤ (1200 : Int)) ∨ (5200 : Int) ≤ (((40 : Int) * (2 : Int)) : Int) := by omega
theorem vc_X12_say_W_11 {f_e0 f_e1 f_ties p1 p2 p3 z756 z761 : Int} (h0 : f_e0 = p1 ∨ f_e1 = p1) (h1 : (z756 = 0 → f_e0 = p1)) (h2 : (z756 = 1 → ¬ f_e0 = p1)) (h3 : z761 = (((20 * p2) + (10 * z756)) + p3)) (h4 : p2 < f_ties) (h5 : 0 ≤ f_e0 ∧ f_e0 ≤ 9) (h6 : 0 ≤ f_e1 ∧ f_e1 ≤ 9) (h7 : 1 ≤ f_ties ∧ f_ties ≤ 20) (h8 : 0 ≤ p1 ∧ p1 ≤ 9) (h9 : 0 ≤ p2 ∧ p2 ≤ 19) (h10 : 0 ≤ p3 ∧ p3 ≤ 9) (h11 : 0 ≤ z756 ∧ z756 ≤ 1) (h12 : 0 ≤ z761 ∧ z761 ≤ 399) : (40 * (30 + ((10 * p1) + p3))) = 1200 + 40 * ((10 * p1) + p3) := by omega
theorem vc_X12_say_W_14 {f_e0 f_ties p1 p2 p3 z756 z761 : Int} (h0 : z761 = (((20 * p2) + (10 * z756)) + p3)) (h1 : p2 < f_ties) (h2 : (z756 = 0 → f_e0 = p1)) (h3 : (z756 = 1 → ¬ f_e0 = p1)) (h4 : 0 ≤ f_e0 ∧ f_e0 ≤ 9) (h5 : 1 ≤ f_ties ∧ f_ties ≤ 20) (h6 : 0 ≤ p1 ∧ p1 ≤ 9) (h7 : 0 ≤ p2 ∧ p2 ≤ 19) (h8 : 0 ≤ p3 ∧ p3 ≤ 9) (h9 : 0 ≤ z756 ∧ z756 ≤ 1) (h10 : 0 ≤ z761 ∧ z761 ≤ 399) : (2 : Int) < (530 + z761) ∨ (530 + z761) < (2 : Int) := by omega
theorem vc_X12_say_W_15 {f_e0 f_ties p1 p2 p3 z756 z761 : Int} (h0 : z761 = (((20 * p2) + (10 * z756)) + p3)) (h1 : p2 < f_ties) (h2 : (z756 = 0 → f_e0 = p1)) (h3 : (z756 = 1 → ¬ f_e0 = p1)) (h4 : 0 ≤ f_e0 ∧ f_e0 ≤ 9) (h5 : 1 ≤ f_ties ∧ f_ties ≤ 20) (h6 : 0 ≤ p1 ∧ p1 ≤ 9) (h7 : 0 ≤ p2 ∧ p2 ≤ 19) (h8 : 0 ≤ p3 ∧ p3 ≤ 9) (h9 : 0 ≤ z756 ∧ z756 ≤ 1) (h10 : 0 ≤ z761 ∧ z761 ≤ 399) : 0 ≤ (40 * (530 + z761)) := by omega
theorem vc_X12_say_W_16 {f_e0 f_ties p1 p2 p3 z756 z761 : Int} (h0 : z761 = (((20 * p2) + (10 * z756)) + p3)) (h1 : p2 < f_ties) (h2 : (z756 = 0 → f_e0 = p1)) (h3 : (z756 = 1 → ¬ f_e0 = p1)) (h4 : 0 ≤ f_e0 ∧ f_e0 ≤ 9) (h5 : 1 ≤ f_ties ∧ f_ties ≤ 20) (h6 : 0 ≤ p1 ∧ p1 ≤ 9) (h7 : 0 ≤ p2 ∧ p2 ≤ 19) (h8 : 0 ≤ p3 ∧ p3 ≤ 9) (h9 : 0 ≤ z756 ∧ z756 ≤ 1) (h10 : 0 ≤ z761 ∧ z761 ≤ 399) : (40 * (530 + z761)) % 40 = 0 := by omega
theorem vc_X12_say_W_17 {f_e0 f_ties p1 p2 p3 z756 z761 : Int} (h0 : z761 = (((20 * p2) + (10 * z756)) + p3)) (h1 : p2 < f_ties) (h2 : (z756 = 0 → f_e0 = p1)) (h3 : (z756 = 1 → ¬ f_e0 = p1)) (h4 : 0 ≤ f_e0 ∧ f_e0 ≤ 9) (h5 : 1 ≤ f_ties ∧ f_ties ≤ 20) (h6 : 0 ≤ p1 ∧ p1 ≤ 9) (h7 : 0 ≤ p2 ∧ p2 ≤ 19) (h8 : 0 ≤ p3 ∧ p3 ≤ 9) (h9 : 0 ≤ z756 ∧ z756 ≤ 1) (h10 : 0 ≤ z761 ∧ z761 ≤ 399) : (40 * 2) < (40 * (530 + z761)) ∨ ((40 * (530 + z761)) + 40) ≤ (40 * 2) := by omega
theorem vc_X12_say_W_18 {f_e0 f_ties p1 p2 p3 z756 z761 : Int} (h0 : z761 = (((20 * p2) + (10 * z756)) + p3)) (h1 : p2 < f_ties) (h2 : (z756 = 0 → f_e0 = p1)) (h3 : (z756 = 1 → ¬ f_e0 = p1)) (h4 : 0 ≤ f_e0 ∧ f_e0 ≤ 9) (h5 : 1 ≤ f_ties ∧ f_ties ≤ 20) (h6 : 0 ≤ p1 ∧ p1 ≤ 9) (h7 : 0 ≤ p2 ∧ p2 ≤ 19) (h8 : 0 ≤ p3 ∧ p3 ≤ 9) (h9 : 0 ≤ z756 ∧ z756 ≤ 1) (h10 : 0 ≤ z761 ∧ z761 ≤ 399) : (2 : Int) < (930 + z761) ∨ (930 + z761) < (2 : Int) := by omega
theorem vc_X12_say_W_19 {f_e0 f_ties p1 p2 p3 z756 z761 : Int} (h0 : z761 = (((20 * p2) + (10 * z756)) + p3)) (h1 : p2 < f_ties) (h2 : (z756 = 0 → f_e0 = p1)) (h3 : (z756 = 1 → ¬ f_e0 = p1)) (h4 : 0 ≤ f_e0 ∧ f_e0 ≤ 9) (h5 : 1 ≤ f_ties ∧ f_ties ≤ 20) (h6 : 0 ≤ p1 ∧ p1 ≤ 9) (h7 : 0 ≤ p2 ∧ p2 ≤ 19) (h8 : 0 ≤ p3 ∧ p3 ≤ 9) (h9 : 0 ≤ z756 ∧ z756 ≤ 1) (h10 : 0 ≤ z761 ∧ z761 ≤ 399) : 0 ≤ (40 * (930 + z761)) := by omega
theorem vc_X12_say_W_20 {f_e0 f_ties p1 p2 p3 z756 z761 : Int} (h0 : z761 = (((20 * p2) + (10 * z756)) + p3)) (h1 : p2 < f_ties) (h2 : (z756 = 0 → f_e0 = p1)) (h3 : (z756 = 1 → ¬ f_e0 = p1)) (h4 : 0 ≤ f_e0 ∧ f_e0 ≤ 9) (h5 : 1 ≤ f_ties ∧ f_ties ≤ 20) (h6 : 0 ≤ p1 ∧ p1 ≤ 9) (h7 : 0 ≤ p2 ∧ p2 ≤ 19) (h8 : 0 ≤ p3 ∧ p3 ≤ 9) (h9 : 0 ≤ z756 ∧ z756 ≤ 1) (h10 : 0 ≤ z761 ∧ z761 ≤ 399) : (40 * (930 + z761)) % 40 = 0 := by omega
theorem vc_X12_say_W_21 {f_e0 f_ties p1 p2 p3 z756 z761 : Int} (h0 : z761 = (((20 * p2) + (10 * z756)) + p3)) (h1 : p2 < f_ties) (h2 : (z756 = 0 → f_e0 = p1)) (h3 : (z756 = 1 → ¬ f_e0 = p1)) (h4 : 0 ≤ f_e0 ∧ f_e0 ≤ 9) (h5 : 1 ≤ f_ties ∧ f_ties ≤ 20) (h6 : 0 ≤ p1 ∧ p1 ≤ 9) (h7 : 0 ≤ p2 ∧ p2 ≤ 19) (h8 : 0 ≤ p3 ∧ p3 ≤ 9) (h9 : 0 ≤ z756 ∧ z756 ≤ 1) (h10 : 0 ≤ z761 ∧ z761 ≤ 399) : 0 ≤ z761 := by omega
theorem vc_X12_say_W_22 {f_e0 f_ties p1 p2 p3 z756 z761 z894 z910 : Int} (h0 : p2 < f_ties) (h1 : z761 = (((20 * p2) + (10 * z756)) + p3)) (h2 : (z756 = 0 → f_e0 = p1)) (h3 : (z756 = 1 → ¬ f_e0 = p1)) (h4 : 0 ≤ f_e0 ∧ f_e0 ≤ 9) (h5 : 1 ≤ f_ties ∧ f_ties ≤ 20) (h6 : 0 ≤ p1 ∧ p1 ≤ 9) (h7 : 0 ≤ p2 ∧ p2 ≤ 19) (h8 : 0 ≤ p3 ∧ p3 ≤ 9) (h9 : 0 ≤ z756 ∧ z756 ≤ 1) (h10 : 0 ≤ z761 ∧ z761 ≤ 399) (h11 : 0 ≤ z894 ∧ z894 ≤ 2000000000) (h12 : 0 ≤ z910 ∧ z910 ≤ 1000) : (z894 + z910) < 0 ∨ z761 < 20 * f_ties := by omega
theorem vc_X12_say_W_23  : (80 : Int) ≤ ((40 : Int) * (2 : Int)) ∧ (((40 : Int) * (2 : Int)) + (1 : Int)) ≤ (120 : Int) := by omega
theorem vc_X12_say_W_24  : (80 : Int) ≤ (80 : Int) ∧ (120 : Int) ≤ (120 : Int) := by omega
theorem vc_X12_say_W_25  : (21200 : Int) ≤ (21200 : Int) ∧ (53200 : Int) ≤ (53200 : Int) := by omega
theorem vc_X12_say_W_26 {f_e0 f_ties p1 p2 p3 z756 z761 : Int} (h0 : z761 = (((20 * p2) + (10 * z756)) + p3)) (h1 : p2 < f_ties) (h2 : (z756 = 0 → f_e0 = p1)) (h3 : (z756 = 1 → ¬ f_e0 = p1)) (h4 : 0 ≤ f_e0 ∧ f_e0 ≤ 9) (h5 : 1 ≤ f_ties ∧ f_ties ≤ 20) (h6 : 0 ≤ p1 ∧ p1 ≤ 9) (h7 : 0 ≤ p2 ∧ p2 ≤ 19) (h8 : 0 ≤ p3 ∧ p3 ≤ 9) (h9 : 0 ≤ z756 ∧ z756 ≤ 1) (h10 : 0 ≤ z761 ∧ z761 ≤ 399) : 21200 ≤ (40 * (530 + z761)) ∧ ((40 * (530 + z761)) + 40) ≤ 53200 := by omega
theorem vc_X12_say_W_27 {f_e0 f_ties p1 p2 p3 z756 z761 : Int} (h0 : z761 = (((20 * p2) + (10 * z756)) + p3)) (h1 : p2 < f_ties) (h2 : (z756 = 0 → f_e0 = p1)) (h3 : (z756 = 1 → ¬ f_e0 = p1)) (h4 : 0 ≤ f_e0 ∧ f_e0 ≤ 9) (h5 : 1 ≤ f_ties ∧ f_ties ≤ 20) (h6 : 0 ≤ p1 ∧ p1 ≤ 9) (h7 : 0 ≤ p2 ∧ p2 ≤ 19) (h8 : 0 ≤ p3 ∧ p3 ≤ 9) (h9 : 0 ≤ z756 ∧ z756 ≤ 1) (h10 : 0 ≤ z761 ∧ z761 ≤ 399) : 21200 ≤ (40 * (930 + z761)) ∧ ((40 * (930 + z761)) + 40) ≤ 53200 := by omega
theorem vc_X12_say_W_28 {f_e0 f_ties p1 p2 p3 z756 z761 : Int} (h0 : z761 = (((20 * p2) + (10 * z756)) + p3)) (h1 : p2 < f_ties) (h2 : (z756 = 0 → f_e0 = p1)) (h3 : (z756 = 1 → ¬ f_e0 = p1)) (h4 : 0 ≤ f_e0 ∧ f_e0 ≤ 9) (h5 : 1 ≤ f_ties ∧ f_ties ≤ 20) (h6 : 0 ≤ p1 ∧ p1 ≤ 9) (h7 : 0 ≤ p2 ∧ p2 ≤ 19) (h8 : 0 ≤ p3 ∧ p3 ≤ 9) (h9 : 0 ≤ z756 ∧ z756 ≤ 1) (h10 : 0 ≤ z761 ∧ z761 ≤ 399) : (40 * (530 + z761)) ≤ (40 * (530 + z761)) ∧ ((40 * (530 + z761)) + 40) ≤ ((40 * (530 + z761)) + 40) := by omega
theorem vc_X12_say_W_29 {f_e0 f_ties p1 p2 p3 z756 z761 : Int} (h0 : z761 = (((20 * p2) + (10 * z756)) + p3)) (h1 : p2 < f_ties) (h2 : (z756 = 0 → f_e0 = p1)) (h3 : (z756 = 1 → ¬ f_e0 = p1)) (h4 : 0 ≤ f_e0 ∧ f_e0 ≤ 9) (h5 : 1 ≤ f_ties ∧ f_ties ≤ 20) (h6 : 0 ≤ p1 ∧ p1 ≤ 9) (h7 : 0 ≤ p2 ∧ p2 ≤ 19) (h8 : 0 ≤ p3 ∧ p3 ≤ 9) (h9 : 0 ≤ z756 ∧ z756 ≤ 1) (h10 : 0 ≤ z761 ∧ z761 ≤ 399) : (40 * (930 + z761)) ≤ (40 * (930 + z761)) ∧ ((40 * (930 + z761)) + 40) ≤ ((40 * (930 + z761)) + 40) := by omega
theorem vc_X12_say_W_30 {f_e0 f_ties p1 p2 p3 z756 z761 : Int} (h0 : z761 = (((20 * p2) + (10 * z756)) + p3)) (h1 : p2 < f_ties) (h2 : (z756 = 0 → f_e0 = p1)) (h3 : (z756 = 1 → ¬ f_e0 = p1)) (h4 : 0 ≤ f_e0 ∧ f_e0 ≤ 9) (h5 : 1 ≤ f_ties ∧ f_ties ≤ 20) (h6 : 0 ≤ p1 ∧ p1 ≤ 9) (h7 : 0 ≤ p2 ∧ p2 ≤ 19) (h8 : 0 ≤ p3 ∧ p3 ≤ 9) (h9 : 0 ≤ z756 ∧ z756 ≤ 1) (h10 : 0 ≤ z761 ∧ z761 ≤ 399) : (1 ≤ (40 * (930 + z761)) ∧ ((40 * (930 + z761)) + 40) ≤ 1200) ∨ 5200 ≤ (40 * (930 + z761)) := by omega
theorem vc_X12_say_W_31 {f_e0 f_ties p1 p2 p3 z756 z761 : Int} (h0 : z761 = (((20 * p2) + (10 * z756)) + p3)) (h1 : p2 < f_ties) (h2 : (z756 = 0 → f_e0 = p1)) (h3 : (z756 = 1 → ¬ f_e0 = p1)) (h4 : 0 ≤ f_e0 ∧ f_e0 ≤ 9) (h5 : 1 ≤ f_ties ∧ f_ties ≤ 20) (h6 : 0 ≤ p1 ∧ p1 ≤ 9) (h7 : 0 ≤ p2 ∧ p2 ≤ 19) (h8 : 0 ≤ p3 ∧ p3 ≤ 9) (h9 : 0 ≤ z756 ∧ z756 ≤ 1) (h10 : 0 ≤ z761 ∧ z761 ≤ 399) : (1 ≤ (40 * (530 + z761)) ∧ ((40 * (530 + z761)) + 40) ≤ 1200) ∨ 5200 ≤ (40 * (530 + z761)) := by omega
theorem vc_X12_say_W_33 {f_e0 f_ties p1 p2 p3 z756 z761 z930 z933 z936 z971 : Int} (h0 : p2 < f_ties) (h1 : z761 = (((20 * p2) + (10 * z756)) + p3)) (h2 : (z933 + z936) ≤ z930) (h3 : (z756 = 0 → f_e0 = p1)) (h4 : (z756 = 1 → ¬ f_e0 = p1)) (h5 : 0 ≤ f_e0 ∧ f_e0 ≤ 9) (h6 : 1 ≤ f_ties ∧ f_ties ≤ 20) (h7 : 0 ≤ p1 ∧ p1 ≤ 9) (h8 : 0 ≤ p2 ∧ p2 ≤ 19) (h9 : 0 ≤ p3 ∧ p3 ≤ 9) (h10 : 0 ≤ z756 ∧ z756 ≤ 1) (h11 : 0 ≤ z761 ∧ z761 ≤ 399) (h12 : 0 ≤ z930 ∧ z930 ≤ 2000000000) (h13 : 0 ≤ z933 ∧ z933 ≤ 2000000000) (h14 : 0 ≤ z936 ∧ z936 ≤ 1000) (h15 : 0 ≤ z971 ∧ z971 ≤ 1000) : (z930 + z971) < 0 ∨ z761 < 20 * f_ties := by omega
theorem vc_X12_say_W_36 {f_e0 f_ties p1 p2 p3 z756 z761 z930 z933 z936 : Int} (h0 : p2 < f_ties) (h1 : z761 = (((20 * p2) + (10 * z756)) + p3)) (h2 : z930 < (z933 + z936)) (h3 : (z756 = 0 → f_e0 = p1)) (h4 : (z756 = 1 → ¬ f_e0 = p1)) (h5 : 0 ≤ f_e0 ∧ f_e0 ≤ 9) (h6 : 1 ≤ f_ties ∧ f_ties ≤ 20) (h7 : 0 ≤ p1 ∧ p1 ≤ 9) (h8 : 0 ≤ p2 ∧ p2 ≤ 19) (h9 : 0 ≤ p3 ∧ p3 ≤ 9) (h10 : 0 ≤ z756 ∧ z756 ≤ 1) (h11 : 0 ≤ z761 ∧ z761 ≤ 399) (h12 : 0 ≤ z930 ∧ z930 ≤ 2000000000) (h13 : 0 ≤ z933 ∧ z933 ≤ 2000000000) (h14 : 0 ≤ z936 ∧ z936 ≤ 1000) : (z933 + z936) < 0 ∨ z761 < 20 * f_ties := by omega
theorem vc_X12_say_W_38 {z774 z778 : Int} (h0 : z774 = (-99999999)) (h1 : z774 = -99999999 ∨ 0 ≤ z778) (h2 : (-99999999) ≤ z774 ∧ z774 ≤ 19) (h3 : z774 = -99999999 ∨ z774 = -4 ∨ (0 ≤ z774 ∧ z774 ≤ 19)) (h4 : (-1) ≤ z778 ∧ z778 ≤ 9) : (-99999999) ≤ z774 ∧ z774 ≤ (-99999999) := by omega
theorem vc_X12_say_W_39 {z774 z778 : Int} (h0 : ¬ z774 = (-99999999)) (h1 : z774 = -99999999 ∨ 0 ≤ z778) (h2 : (-99999999) ≤ z774 ∧ z774 ≤ 19) (h3 : z774 = -99999999 ∨ z774 = -4 ∨ (0 ≤ z774 ∧ z774 ≤ 19)) (h4 : (-1) ≤ z778 ∧ z778 ≤ 9) : (-4) ≤ z774 ∧ z774 ≤ 19 := by omega
theorem vc_X12_say_W_40 {f_ties p2 p3 z756 z761 z774 z778 : Int} (h0 : z774 = p2) (h1 : p2 < f_ties) (h2 : z761 = (((20 * p2) + (10 * z756)) + p3)) (h3 : z774 = -99999999 ∨ 0 ≤ z778) (h4 : ¬ z774 = (-99999999)) (h5 : 1 ≤ f_ties ∧ f_ties ≤ 20) (h6 : 0 ≤ p2 ∧ p2 ≤ 19) (h7 : 0 ≤ p3 ∧ p3 ≤ 9) (h8 : 0 ≤ z756 ∧ z756 ≤ 1) (h9 : 0 ≤ z761 ∧ z761 ≤ 399) (h10 : (-4) ≤ z774 ∧ z774 ≤ 19) (h11 : z774 = -99999999 ∨ z774 = -4 ∨ (0 ≤ z774 ∧ z774 ≤ 19)) (h12 : (-1) ≤ z778 ∧ z778 ≤ 9) : 0 ≤ z774 ∧ z774 ≤ 19 := by omega
theorem vc_X12_say_W_41 {f_e0 f_e1 f_ties p1 p2 p3 z756 z761 z774 : Int} (h0 : f_e0 = p1 ∨ f_e1 = p1) (h1 : (z756 = 0 → f_e0 = p1)) (h2 : (z756 = 1 → ¬ f_e0 = p1)) (h3 : z761 = (((20 * p2) + (10 * z756)) + p3)) (h4 : p2 < f_ties) (h5 : ¬ z774 = p2) (h6 : 0 ≤ f_e0 ∧ f_e0 ≤ 9) (h7 : 0 ≤ f_e1 ∧ f_e1 ≤ 9) (h8 : 1 ≤ f_ties ∧ f_ties ≤ 20) (h9 : 0 ≤ p1 ∧ p1 ≤ 9) (h10 : 0 ≤ p2 ∧ p2 ≤ 19) (h11 : 0 ≤ p3 ∧ p3 ≤ 9) (h12 : 0 ≤ z756 ∧ z756 ≤ 1) (h13 : 0 ≤ z761 ∧ z761 ≤ 399) (h14 : (-4) ≤ z774 ∧ z774 ≤ 19) (h15 : z774 = -99999999 ∨ z774 = -4 ∨ (0 ≤ z774 ∧ z774 ≤ 19)) : (30 + ((10 * p1) + p3)) < (2 : Int) ∨ (2 : Int) < (30 + ((10 * p1) + p3)) := by omega
theorem vc_X12_say_W_42  : (-(2147483648 : Int) ≤ ((100 : Int) : Int) ∧ ((100 : Int) : Int) ≤ (2147483647 : Int)) ∧ (((81 : Int) : Int) % (40 : Int) = (0 : Int) → -(1 : Int) ≤ ((100 : Int) : Int) ∧ ((100 : Int) : Int) ≤ (9 : Int)) ∧ (((81 : Int) : Int) % (40 : Int) = (4 : Int) → (0 : Int) ≤ ((100 : Int) : Int) ∧ ((100 : Int) : Int) ≤ (20 : Int)) ∧ (((81 : Int) : Int) % (40 : Int) = (5 : Int) → (0 : Int) ≤ ((100 : Int) : Int) ∧ ((100 : Int) : Int) ≤ (8 : Int)) := by omega
theorem vc_X12_say_W_44  : (80 : Int) ≤ ((40 : Int) * (2 : Int)) ∧ (((40 : Int) * (2 : Int)) + (40 : Int)) ≤ (120 : Int) := by omega
theorem vc_X12_say_W_45  : (0 : Int) ≤ (81 : Int) ∧ (80 : Int) ≤ (81 : Int) ∧ (81 : Int) < (120 : Int) := by omega
theorem vc_X12_say_W_46  : (80 : Int) ≤ (((40 : Int) * (2 : Int)) + (1 : Int)) ∧ (((40 : Int) * (2 : Int)) + (40 : Int)) ≤ (120 : Int) := by omega
theorem vc_X12_say_W_47  : (0 : Int) ≤ (81 : Int) ∧ (81 : Int) ≤ (81 : Int) ∧ (81 : Int) < ((81 : Int) + (1 : Int)) := by omega
theorem vc_X12_say_W_48  : ((1 : Int) ≤ ((81 : Int) : Int) ∧ (((81 : Int) + (1 : Int)) : Int) ≤ (1200 : Int)) ∨ (5200 : Int) ≤ ((81 : Int) : Int) := by omega
theorem vc_X12_say_W_52  : ((40 : Int) * (2 : Int)) ≤ ((40 : Int) * (2 : Int)) ∧ (((40 : Int) * (2 : Int)) + (40 : Int)) ≤ (((40 : Int) * (2 : Int)) + (40 : Int)) := by omega
theorem vc_X12_say_W_53  : (0 : Int) ≤ (81 : Int) ∧ ((40 : Int) * (2 : Int)) ≤ (81 : Int) ∧ (81 : Int) < (((40 : Int) * (2 : Int)) + (40 : Int)) := by omega
theorem vc_X12_say_W_54  : ((40 : Int) * (2 : Int)) ≤ (((40 : Int) * (2 : Int)) + (1 : Int)) ∧ (((40 : Int) * (2 : Int)) + (40 : Int)) ≤ (((40 : Int) * (2 : Int)) + (40 : Int)) := by omega
theorem vc_X12_say_W_55  : ((1 : Int) ≤ ((((40 : Int) * (2 : Int)) + (1 : Int)) : Int) ∧ ((((40 : Int) * (2 : Int)) + (40 : Int)) : Int) ≤ (1200 : Int)) ∨ (5200 : Int) ≤ ((((40 : Int) * (2 : Int)) + (1 : Int)) : Int) := by omega
theorem vc_X12_say_W_56  : ((1 : Int) ≤ (((40 : Int) * (2 : Int)) : Int) ∧ ((((40 : Int) * (2 : Int)) + (40 : Int)) : Int) ≤ (1200 : Int)) ∨ (5200 : Int) ≤ (((40 : Int) * (2 : Int)) : Int) := by omega
theorem vc_X12_say_W_59 {f_e0 f_e1 f_ties p1 p2 p3 z756 z761 z774 z778 : Int} (h0 : p2 < f_ties) (h1 : (z756 = 0 → f_e0 = p1)) (h2 : (z756 = 1 → ¬ f_e0 = p1)) (h3 : z761 = (((20 * p2) + (10 * z756)) + p3)) (h4 : ¬ z774 = p2) (h5 : f_e0 = p1 ∨ f_e1 = p1) (h6 : z774 = -99999999 ∨ 0 ≤ z778) (h7 : ¬ z774 = (-99999999)) (h8 : 0 ≤ f_e0 ∧ f_e0 ≤ 9) (h9 : 0 ≤ f_e1 ∧ f_e1 ≤ 9) (h10 : 1 ≤ f_ties ∧ f_ties ≤ 20) (h11 : 0 ≤ p1 ∧ p1 ≤ 9) (h12 : 0 ≤ p2 ∧ p2 ≤ 19) (h13 : 0 ≤ p3 ∧ p3 ≤ 9) (h14 : 0 ≤ z756 ∧ z756 ≤ 1) (h15 : 0 ≤ z761 ∧ z761 ≤ 399) (h16 : (-4) ≤ z774 ∧ z774 ≤ 19) (h17 : z774 = -99999999 ∨ z774 = -4 ∨ (0 ≤ z774 ∧ z774 ≤ 19)) (h18 : (-1) ≤ z778 ∧ z778 ≤ 9) : (((4 * p2) + (2 * z756)) + 1) < 4 * f_ties := by omega
theorem vc_X12_say_W_60  : ((40 * 2) : Int).toNat ≠ (81 : Int).toNat := by omega
theorem vc_X12_say_W_61  : ((40 : Int) * (2 : Int)) < (((40 : Int) * (2 : Int)) + (1 : Int)) ∨ (((40 : Int) * (2 : Int)) + (40 : Int)) ≤ ((40 : Int) * (2 : Int)) := by omega
theorem vc_X12_say_W_62 {f_e0 f_ties p1 p2 p3 z756 z761 z774 z778 : Int} (h0 : p2 < f_ties) (h1 : z761 = (((20 * p2) + (10 * z756)) + p3)) (h2 : ¬ z774 = p2) (h3 : (z756 = 0 → f_e0 = p1)) (h4 : (z756 = 1 → ¬ f_e0 = p1)) (h5 : z774 = -99999999 ∨ 0 ≤ z778) (h6 : ¬ z774 = (-99999999)) (h7 : 0 ≤ f_e0 ∧ f_e0 ≤ 9) (h8 : 1 ≤ f_ties ∧ f_ties ≤ 20) (h9 : 0 ≤ p1 ∧ p1 ≤ 9) (h10 : 0 ≤ p2 ∧ p2 ≤ 19) (h11 : 0 ≤ p3 ∧ p3 ≤ 9) (h12 : 0 ≤ z756 ∧ z756 ≤ 1) (h13 : 0 ≤ z761 ∧ z761 ≤ 399) (h14 : (-4) ≤ z774 ∧ z774 ≤ 19) (h15 : z774 = -99999999 ∨ z774 = -4 ∨ (0 ≤ z774 ∧ z774 ≤ 19)) (h16 : (-1) ≤ z778 ∧ z778 ≤ 9) : p2 < f_ties := by omega
theorem vc_X12_say_W_63 {f_e0 f_e1 p1 p2 p3 z1123 z756 z761 : Int} (h0 : f_e0 = p1 ∨ f_e1 = p1) (h1 : (z756 = 0 → f_e0 = p1)) (h2 : (z756 = 1 → ¬ f_e0 = p1)) (h3 : (f_e0 = p1 → z1123 = f_e1) ∧ (¬ f_e0 = p1 → z1123 = f_e0)) (h4 : z761 = (((20 * p2) + (10 * z756)) + p3)) (h5 : 0 ≤ f_e0 ∧ f_e0 ≤ 9) (h6 : 0 ≤ f_e1 ∧ f_e1 ≤ 9) (h7 : 0 ≤ p1 ∧ p1 ≤ 9) (h8 : 0 ≤ p2 ∧ p2 ≤ 19) (h9 : 0 ≤ p3 ∧ p3 ≤ 9) (h10 : 0 ≤ z1123 ∧ z1123 ≤ 9) (h11 : 0 ≤ z756 ∧ z756 ≤ 1) (h12 : 0 ≤ z761 ∧ z761 ≤ 399) : (f_e0 = p1 ∧ f_e1 = z1123) ∨ (f_e0 = z1123 ∧ f_e1 = p1) := by omega
theorem vc_X12_say_W_64 {p2 z1039 z774 z778 : Int} (h0 : z774 = -99999999 ∨ 0 ≤ z778) (h1 : z1039 = z778) (h2 : ¬ z774 = (-99999999)) (h3 : ¬ z774 = p2) (h4 : 0 ≤ p2 ∧ p2 ≤ 19) (h5 : (-1) ≤ z1039 ∧ z1039 ≤ 9) (h6 : (-4) ≤ z774 ∧ z774 ≤ 19) (h7 : z774 = -99999999 ∨ z774 = -4 ∨ (0 ≤ z774 ∧ z774 ≤ 19)) (h8 : (-1) ≤ z778 ∧ z778 ≤ 9) : 0 ≤ z778 := by omega
set_option maxRecDepth 4000 in
set_option maxHeartbeats 4000000 in
theorem c_X12_say_W {l : Launch} {D : va_G} {c : Nat → ClassId} {H0 : Heap} {sa : Nat × Nat × (Nat → Int32)} {w : mW} {μ : mM} (hw : mWF w) (hT : mT w μ) {p1 : Int} (hp1 : 0 ≤ p1 ∧ p1 ≤ 9) {p2 : Int} (hp2 : 0 ≤ p2 ∧ p2 ≤ 19) {p3 : Int} (hp3 : 0 ≤ p3 ∧ p3 ≤ 9) {f_e0 : Int} (q_f_e0 : μ 110 ((2 * p2).toNat) = f_e0) {f_e1 : Int} (q_f_e1 : μ 110 (((2 * p2) + 1).toNat) = f_e1) {f_ties : Int} (q_f_ties : μ 106 6 = f_ties) (hq0 : p2 < f_ties) (hq1 : f_e0 = p1 ∨ f_e1 = p1) (hIG1 : G1 μ) (hIEV : EV μ) (hIPK : PK μ) {Q : mM → Prop} (hQ : WP_X12_say_W w μ p1 p2 p3 Q) : sC (gG l D c H0 sa) mX12_say 7 0 0 [.ref 106, iv p1, iv p2, iv p3] (mk w μ) (qV w [106026, 106027, 106028, 106029, 106030, 106031, 106072, 126999, 151999, 152999, 153999, 155999, 156999, 157999, 158999, 159999, 160999] μ (fun μ1 => mG [(80, 120), (21200, 53200)] μ μ1 ∧ G1 μ1 ∧ EV μ1 ∧ Q μ1 ∧ True)) := by
  refine sC.of rfl (by decide) (le_t rfl) ?_
  have ht_f_e0 : (0 ≤ f_e0 ∧ f_e0 ≤ 9) := by rw [← q_f_e0]; exact hT 110 110 (A_110 hw) ((2 * p2).toNat)
  have ht_f_e1 : (0 ≤ f_e1 ∧ f_e1 ≤ 9) := by rw [← q_f_e1]; exact hT 110 110 (A_110 hw) (((2 * p2) + 1).toNat)
  have ht_f_ties : (0 ≤ f_ties ∧ f_ties ≤ 20) := by rw [← q_f_ties]; exact hT 106 106 (A_106 hw) 6
  have h1 : 1 ≤ f_ties ∧ f_ties ≤ 20 := (vc_X3_putAttributes_11 hq0 ht_f_ties hp2)
  refine mr_lvE (lv' := [(0, .ref 106), (1, iv p1), (2, iv p2), (3, iv p3)]) rfl ?_
  refine sv_aload_n (pc := 0) dX12_say_0 rfl rfl ?_
  refine mr_iload_n (pc := 1) (z := p2) dX12_say_1 rfl rfl ?_
  refine mr_iload_n (pc := 2) (z := p1) dX12_say_2 rfl rfl ?_
  refine mr_cVP (pc := 3) (c_X12_sideOf_W hw hT hp2 (rW (c := (-2147483648)) (d := 2147483647) hp1 rfl) q_f_e0 (((hQ f_e0 q_f_e0 ht_f_e0) f_e1 q_f_e1 ht_f_e1) f_ties q_f_ties ht_f_ties)) (gOk _ _ _ _ _) dX12_say_3 (tX12_sideOf _ _ _ _ _) ⟨wV_X12_sideOf, wL_X12_sideOf⟩ wM_X12_542 (gCX12 _ _ _ _ _) rfl (A_106 hw) rfl ⟨le_t rfl, le_t rfl⟩ ⟨le_t rfl, le_t rfl⟩ rfl (le_t rfl) fun z756 h755 => ?_
  refine mr_istore (pc := 6) (lv' := [(4, iv z756), (0, .ref 106), (1, iv p1), (2, iv p2), (3, iv p3)]) dX12_say_6 (by decide) rfl ?_
  refine mr_iload_n (pc := 8) (z := p2) dX12_say_8 rfl rfl ?_
  refine mr_iload (pc := 9) (z := z756) dX12_say_9 rfl ?_
  refine mr_iload_n (pc := 11) (z := p3) dX12_say_11 rfl rfl ?_
  refine mr_cSP (pc := 12) (c_X12_slot_W hw hT (rW (c := 0) (d := 20) hp2 rfl) (rW (c := 0) (d := 2) h755.1 rfl) hp3 (h755.2.2.2.1 h755.1)) (gOk _ _ _ _ _) dX12_say_12 (tX12_slot _ _ _ _ _) wS_X12_slot wM_X12_545 ⟨le_t rfl, le_t rfl⟩ ⟨le_t rfl, le_t rfl⟩ rfl (le_t rfl) fun z761 h760 => ?_
  have h762 : 0 ≤ z761 ∧ z761 ≤ 399 := (vc_X12_candidate_5 h760.2.1 hq0 h755.2.1 h755.2.2.1 ht_f_e0 h1 hp1 hp2 hp3 h755.1 h760.1)
  refine mr_istore (pc := 15) (lv' := [(5, iv z761), (4, iv z756), (0, .ref 106), (1, iv p1), (2, iv p2), (3, iv p3)]) dX12_say_15 (by decide) rfl ?_
  refine mr_bipush (pc := 17) (z := 10) dX12_say_17 (by decide) ?_
  refine mr_iload_n (pc := 19) (z := p1) dX12_say_19 rfl rfl ?_
  refine mr_imul (pc := 20) (x := 10) (y := p1) dX12_say_20 ?_
  refine mr_iload_n (pc := 21) (z := p3) dX12_say_21 rfl rfl ?_
  refine mr_iadd (pc := 22) (x := (10 * p1)) (y := p3) dX12_say_22 ?_
  refine mr_istore (pc := 23) (lv' := [(6, iv ((10 * p1) + p3)), (5, iv z761), (4, iv z756), (0, .ref 106), (1, iv p1), (2, iv p2), (3, iv p3)]) dX12_say_23 (by decide) rfl ?_
  refine sv_aload_n (pc := 25) dX12_say_25 rfl rfl ?_
  refine mr_iconst (pc := 26) (z := 2) dX12_say_26 ?_
  refine mr_cVV (pc := 27) (c_X12_nothing_W hw hT (rW (c := 0) (d := 2099) (rR (x := 2)) rfl) (h760.2.2.1 h760.1)) (gOk _ _ _ _ _) dX12_say_27 (tX12_nothing _ _ _ _ _) ⟨wV_X12_nothing, wL_X12_nothing⟩ wM_X12_539 (gCX12 _ _ _ _ _) rfl (A_106 hw) rfl ⟨le_t rfl, le_t rfl⟩ ⟨le_t rfl, le_t rfl⟩ rfl (le_t rfl) fun μ763 T764 F765 h766 => ?_
  obtain ⟨z767, q768, h769⟩ := h766
  have h770 := rt7 T764 (A_126 hw) vc_X12_say_W_3 q768
  have h771 : (-1) ≤ z767 ∧ z767 ≤ 9 := h770.2.1 vc_X12_say_W_4
  have q772 : μ763 126 (((40 * 2) : Int).toNat) = (-1) := q768.trans h769.2.1
  have h773 : (-1) ≤ z767 ∧ z767 ≤ (-1) := (vc_X12_candidate_4 h769.2.1 h771)
  refine sv_aload_n (pc := 30) dX12_say_30 rfl rfl ?_
  refine gf_X12_81 (pc := 31) dX12_say_31 wF_X12_445 (A_106 hw) T764 ?_
  refine mr_iload (pc := 34) (z := ((10 * p1) + p3)) dX12_say_34 rfl ?_
  refine la_161 (pc := 36) dX12_say_36 (A_161 hw) T764 (rIx (n := 100) (rAdd (e := 0) (f := 99) (rMulL (n := 10) (e := 0) (f := 90) hp1 rfl) hp3 rfl) rfl) fun z774 q775 h776 => ?_
  have h777 : (-99999999) ≤ z774 ∧ z774 ≤ 19 := (vc_X12_sends_3 h776)
  obtain ⟨z778, q779⟩ : ∃ z, μ763 126 ((40 * (30 + ((10 * p1) + p3))).toNat) = z := ⟨_, rfl⟩
  have h780 := rt7 T764 (A_126 hw) (vc_X12_say_W_7 hq1 h755.2.1 h755.2.2.1 h760.2.1 hq0 ht_f_e0 ht_f_e1 h1 hp1 hp2 hp3 h755.1 h762) q779
  have h781 : (-1) ≤ z778 ∧ z778 ≤ 9 := h780.2.1 (vc_X12_say_W_8 hq1 h755.2.1 h755.2.2.1 h760.2.1 hq0 ht_f_e0 ht_f_e1 h1 hp1 hp2 hp3 h755.1 h762)
  have h782 : z774 = -99999999 ∨ 0 ≤ z778 := G1.at (G1.keep hIG1 hw ((mF.call mF.refl F765 rfl) : mF [126999] w μ μ763) rfl rfl ((mG.call mG.refl h769.1 (List.forall_mem_cons.mpr ⟨⟨_, List.mem_cons_self, vc_X12_say_W_9⟩, (fun _ h => absurd h List.not_mem_nil)⟩)) : mG [((40 * 2), ((40 * 2) + 1))] μ μ763) (List.forall_mem_cons.mpr ⟨vc_X12_say_W_10, (fun _ h => absurd h List.not_mem_nil)⟩)) (rAdd (e := 0) (f := 99) (rMulL (n := 10) (e := 0) (f := 90) hp1 rfl) hp3 rfl) q775 (vc_X12_say_W_11 hq1 h755.2.1 h755.2.2.1 h760.2.1 hq0 ht_f_e0 ht_f_e1 h1 hp1 hp2 hp3 h755.1 h762) q779
  refine mr_ldc (pc := 37) (z := (-99999999)) dX12_say_37 wG_X12_29 (by decide) ?_
  have J863 : ∀ (μ856 : mM), (mT w μ856) → (mF [106026, 106027, 106028, 106029, 106030, 106031, 126999, 151999, 152999, 153999] w μ763 μ856) → (mG [(80, 120), (21200, 53200)] μ763 μ856) → (G1 μ856) → (EV μ856) → (PK μ856) → ((WJ_X12_say_W_1 w p2 Q z761 μ763) μ856) → sV (gG l D c H0 sa) mX12_say (sRm 7 0 0) (sZ (gG l D c H0 sa) 0 0 (qV w [106026, 106027, 106028, 106029, 106030, 106031, 106072, 126999, 151999, 152999, 153999, 155999, 156999, 157999, 158999, 159999, 160999] μ (fun μ1 => mG [(80, 120), (21200, 53200)] μ μ1 ∧ G1 μ1 ∧ EV μ1 ∧ Q μ1 ∧ True))) 137 [(0, .ref 106), (2, iv p2), (5, iv z761)] [] (mk w μ856) 0 0 := by
    intro μ856 T857 F858 G859 I860 I861 I862 W864
    refine sv_aload_n (pc := 137) dX12_say_137 rfl rfl ?_
    refine mr_iconst (pc := 138) (z := 2) dX12_say_138 ?_
    refine mr_sipush (pc := 139) (z := 530) dX12_say_139 (by decide) ?_
    refine mr_iload (pc := 142) (z := z761) dX12_say_142 rfl ?_
    refine mr_iadd (pc := 144) (x := 530) (y := z761) dX12_say_144 ?_
    refine mr_cVP (pc := 145) (c_X12_same_W hw T857 (rW (c := 0) (d := 2099) (rR (x := 2)) rfl) (rW (c := 0) (d := 2099) (rAdd (e := 530) (f := 929) (rR (x := 530)) h762 rfl) rfl) (W864 T857 F858)) (gOk _ _ _ _ _) dX12_say_145 (tX12_same _ _ _ _ _) ⟨wV_X12_same, wL_X12_same⟩ wM_X12_584 (gCX12 _ _ _ _ _) rfl (A_106 hw) rfl ⟨le_t rfl, le_t rfl⟩ ⟨le_t rfl, le_t rfl⟩ rfl (le_t rfl) fun z869 h868 => ?_
    refine mr_if_eq (pc := 148) (tgt := 152) dX12_say_148 (by decide) (r32 h868.1 rfl) (fun h870 => ?_) (fun h870 => ?_)
    · have h871 : 0 ≤ z869 ∧ z869 ≤ 0 := (vc_X12_ring_22 h870 h868.1)
      refine sv_aload_n (pc := 152) dX12_say_152 rfl rfl ?_
      refine gf_X12_75 (pc := 153) dX12_say_153 wF_X12_427 (A_106 hw) T857 ?_
      refine mr_iload (pc := 156) (z := z761) dX12_say_156 rfl ?_
      refine la_155 (pc := 158) dX12_say_158 (A_155 hw) T857 (rIx (n := 400) h762 rfl) fun z872 q873 h874 => ?_
      refine mr_if_eq (pc := 159) (tgt := 236) dX12_say_159 (by decide) (r32 h874 rfl) (fun h875 => ?_) (fun h875 => ?_)
      · have h876 : 0 ≤ z872 ∧ z872 ≤ 0 := (vc_X12_ring_22 h875 h874)
        refine sv_aload_n (pc := 236) dX12_say_236 rfl rfl ?_
        refine mr_iconst (pc := 237) (z := 2) dX12_say_237 ?_
        refine mr_sipush (pc := 238) (z := 530) dX12_say_238 (by decide) ?_
        refine mr_iload (pc := 241) (z := z761) dX12_say_241 rfl ?_
        refine mr_iadd (pc := 243) (x := 530) (y := z761) dX12_say_243 ?_
        obtain ⟨z877, q878⟩ : ∃ z, μ856 126 (((40 * 2) : Int).toNat) = z := ⟨_, rfl⟩
        have h879 := rt7 T857 (A_126 hw) vc_X12_say_W_3 q878
        have h880 : (-1) ≤ z877 ∧ z877 ≤ 9 := h879.2.1 vc_X12_say_W_4
        refine mr_cVV (pc := 244) (c_X12_copy_W hw T857 (rW (c := 0) (d := 2099) (rR (x := 2)) rfl) (rW (c := 0) (d := 2099) (rAdd (e := 530) (f := 929) (rR (x := 530)) h762 rfl) rfl) q878 (vc_X12_say_W_14 h760.2.1 hq0 h755.2.1 h755.2.2.1 ht_f_e0 h1 hp1 hp2 hp3 h755.1 h762) (((((h868.2.1 h868.1).1 h870) z872 q873 h874).1 h875) z877 q878 h879)) (gOk _ _ _ _ _) dX12_say_244 (tX12_copy _ _ _ _ _) ⟨wV_X12_copy, wL_X12_copy⟩ wM_X12_559 (gCX12 _ _ _ _ _) rfl (A_106 hw) rfl ⟨le_t rfl, le_t rfl⟩ ⟨le_t rfl, le_t rfl⟩ rfl (le_t rfl) fun μ881 T882 F883 h884 => ?_
        obtain ⟨z885, q886, h887⟩ := h884
        have h888 := rt7 T882 (A_126 hw) (vc_X12_say_W_15 h760.2.1 hq0 h755.2.1 h755.2.2.1 ht_f_e0 h1 hp1 hp2 hp3 h755.1 h762) q886
        have h889 : (-1) ≤ z885 ∧ z885 ≤ 9 := h888.2.1 (vc_X12_say_W_16 h760.2.1 hq0 h755.2.1 h755.2.2.1 ht_f_e0 h1 hp1 hp2 hp3 h755.1 h762)
        have q890 : μ881 126 ((40 * (530 + z761)).toNat) = z877 := q886.trans h887.2.1
        refine sv_aload_n (pc := 247) dX12_say_247 rfl rfl ?_
        refine gf_X12_75 (pc := 248) dX12_say_248 wF_X12_427 (A_106 hw) T882 ?_
        refine mr_iload (pc := 251) (z := z761) dX12_say_251 rfl ?_
        refine mr_iconst (pc := 253) (z := 1) dX12_say_253 ?_
        refine ss_155 (pc := 254) dX12_say_254 (A_155 hw) T882 (rIx (n := 400) h762 rfl) (rW (c := 0) (d := 1) (rR (x := 1)) rfl) fun μ891 u892 T893 => ?_
        refine sv_aload_n (pc := 255) dX12_say_255 rfl rfl ?_
        refine gf_X12_76 (pc := 256) dX12_say_256 wF_X12_430 (A_106 hw) T893 ?_
        refine mr_iload (pc := 259) (z := z761) dX12_say_259 rfl ?_
        refine sv_aload_n (pc := 261) dX12_say_261 rfl rfl ?_
        refine gf_X12_71 (pc := 262) dX12_say_262 wF_X12_591 (A_106 hw) T893 fun z894 q895 h896 => ?_
        refine ss_156 (pc := 265) dX12_say_265 (A_156 hw) T893 (rIx (n := 400) h762 rfl) h896 fun μ897 u898 T899 => ?_
        refine sv_aload_n (pc := 266) dX12_say_266 rfl rfl ?_
        refine mr_iconst (pc := 267) (z := 2) dX12_say_267 ?_
        refine mr_sipush (pc := 268) (z := 930) dX12_say_268 (by decide) ?_
        refine mr_iload (pc := 271) (z := z761) dX12_say_271 rfl ?_
        refine mr_iadd (pc := 273) (x := 930) (y := z761) dX12_say_273 ?_
        refine mr_cVV (pc := 274) (c_X12_copy_W hw T899 (rW (c := 0) (d := 2099) (rR (x := 2)) rfl) (rW (c := 0) (d := 2099) (rAdd (e := 930) (f := 1329) (rR (x := 930)) h762 rfl) rfl) (u898.f (Or.inl (mAt.ne (A_156 hw) (A_126 hw) rfl)) (u892.f (Or.inl (mAt.ne (A_155 hw) (A_126 hw) rfl)) (h887.1.f vc_X12_say_W_3 (List.forall_mem_cons.mpr ⟨(vc_X12_say_W_17 h760.2.1 hq0 h755.2.1 h755.2.2.1 ht_f_e0 h1 hp1 hp2 hp3 h755.1 h762), (fun _ h => absurd h List.not_mem_nil)⟩) q878))) (vc_X12_say_W_18 h760.2.1 hq0 h755.2.1 h755.2.2.1 ht_f_e0 h1 hp1 hp2 hp3 h755.1 h762) (((((h887.2.2.1 T882 F883) z885 q886) μ891 u892 T893) z894 q895 h896) μ897 u898 T899)) (gOk _ _ _ _ _) dX12_say_274 (tX12_copy _ _ _ _ _) ⟨wV_X12_copy, wL_X12_copy⟩ wM_X12_559 (gCX12 _ _ _ _ _) rfl (A_106 hw) rfl ⟨le_t rfl, le_t rfl⟩ ⟨le_t rfl, le_t rfl⟩ rfl (le_t rfl) fun μ900 T901 F902 h903 => ?_
        obtain ⟨z904, q905, h906⟩ := h903
        have h907 := rt7 T901 (A_126 hw) (vc_X12_say_W_19 h760.2.1 hq0 h755.2.1 h755.2.2.1 ht_f_e0 h1 hp1 hp2 hp3 h755.1 h762) q905
        have h908 : (-1) ≤ z904 ∧ z904 ≤ 9 := h907.2.1 (vc_X12_say_W_20 h760.2.1 hq0 h755.2.1 h755.2.2.1 ht_f_e0 h1 hp1 hp2 hp3 h755.1 h762)
        have q909 : μ900 126 ((40 * (930 + z761)).toNat) = z877 := q905.trans h906.2.1
        refine sv_aload_n (pc := 277) dX12_say_277 rfl rfl ?_
        refine gf_X12_77 (pc := 278) dX12_say_278 wF_X12_433 (A_106 hw) T901 ?_
        refine mr_iload (pc := 281) (z := z761) dX12_say_281 rfl ?_
        refine sv_aload_n (pc := 283) dX12_say_283 rfl rfl ?_
        refine gk_X12_71 (pc := 284) dX12_say_284 wF_X12_591 (A_106 hw) (F902.f (A_106 hw) rfl (u898.f (Or.inl (mAt.ne (A_156 hw) (A_106 hw) rfl)) q895)) ?_
        refine sv_aload_n (pc := 287) dX12_say_287 rfl rfl ?_
        refine gf_X12_10 (pc := 288) dX12_say_288 wF_X12_57 (A_106 hw) T901 ?_
        refine mr_iload_n (pc := 291) (z := p2) dX12_say_291 rfl rfl ?_
        refine la_113 (pc := 292) dX12_say_292 (A_113 hw) T901 (rIx (n := 20) hp2 rfl) fun z910 q911 h912 => ?_
        refine mr_iadd (pc := 293) (x := z894) (y := z910) dX12_say_293 ?_
        refine ss_157 (pc := 294) dX12_say_294 (A_157 hw) T901 (rIx (n := 400) h762 rfl) (rW (c := (-1)) (d := 2000001000) (rAdd (e := 0) (f := 2000001000) h896 h912 rfl) rfl) fun μ913 u914 T915 => ?_
        have I916 : EV μ913 := EV.up1 (EV.keep I861 hw ((mF.call (mF.up (mF.up (mF.call mF.refl F883 rfl) (A_155 hw) u892 rfl) (A_156 hw) u898 rfl) F902 rfl) : mF [126999, 155999, 156999] w μ856 μ900) rfl) u914 (u914.f (Or.inl (mAt.ne (A_157 hw) (A_106 hw) rfl)) (F902.f (A_106 hw) rfl (u898.f (Or.inl (mAt.ne (A_156 hw) (A_106 hw) rfl)) (u892.f (Or.inl (mAt.ne (A_155 hw) (A_106 hw) rfl)) (F883.f (A_106 hw) rfl (F858.f (A_106 hw) rfl (F765.f (A_106 hw) rfl q_f_ties))))))) (vc_X12_say_W_21 h760.2.1 hq0 h755.2.1 h755.2.2.1 ht_f_e0 h1 hp1 hp2 hp3 h755.1 h762) (vc_X12_say_W_22 hq0 h760.2.1 h755.2.1 h755.2.2.1 ht_f_e0 h1 hp1 hp2 hp3 h755.1 h762 h896 h912)
        refine sv_aload_n (pc := 295) dX12_say_295 rfl rfl ?_
        refine gf_X12_78 (pc := 296) dX12_say_296 wF_X12_436 (A_106 hw) T915 ?_
        refine mr_iload (pc := 299) (z := z761) dX12_say_299 rfl ?_
        refine sv_aload_n (pc := 301) dX12_say_301 rfl rfl ?_
        refine gf_X12_72 (pc := 302) dX12_say_302 wF_X12_594 (A_106 hw) T915 fun z917 q918 h919 => ?_
        refine ss_158 (pc := 305) dX12_say_305 (A_158 hw) T915 (rIx (n := 400) h762 rfl) h919 fun μ920 u921 T922 => ?_
        refine sv_aload_n (pc := 306) dX12_say_306 rfl rfl ?_
        refine sv_dup (pc := 307) dX12_say_307 rfl ?_
        refine gk_X12_72 (pc := 308) dX12_say_308 wF_X12_594 (A_106 hw) (u921.f (Or.inl (mAt.ne (A_158 hw) (A_106 hw) rfl)) q918) ?_
        refine mr_iconst (pc := 311) (z := 1) dX12_say_311 ?_
        refine mr_iadd (pc := 312) (x := z917) (y := 1) dX12_say_312 ?_
        refine mr_wrapF fun z923 h924 h925 => ?_
        refine pf_X12_72 (pc := 313) dX12_say_313 wF_X12_594 (A_106 hw) T922 h924 fun μ926 u927 T928 => ?_
        exact mr_vret dX12_say_316 rfl (le_t rfl) (le_t rfl) T928 (mF.up (mF.up (mF.up (mF.call (mF.up (mF.up (mF.call (mF.call (mF.call mF.refl F765 rfl) F858 rfl) F883 rfl) (A_155 hw) u892 rfl) (A_156 hw) u898 rfl) F902 rfl) (A_157 hw) u914 rfl) (A_158 hw) u921 rfl) (A_106 hw) u927 rfl) ⟨(mG.upO (mG.upO (mG.upO (mG.call (mG.upO (mG.upO (mG.call (mG.call (mG.call mG.refl h769.1 (List.forall_mem_cons.mpr ⟨⟨_, List.mem_cons_self, vc_X12_say_W_23⟩, (fun _ h => absurd h List.not_mem_nil)⟩)) G859 (List.forall_mem_cons.mpr ⟨⟨_, List.mem_cons_self, vc_X12_say_W_24⟩, (List.forall_mem_cons.mpr ⟨⟨_, (List.mem_cons_of_mem _ List.mem_cons_self), vc_X12_say_W_25⟩, (fun _ h => absurd h List.not_mem_nil)⟩)⟩)) h887.1 (List.forall_mem_cons.mpr ⟨⟨_, (List.mem_cons_of_mem _ List.mem_cons_self), (vc_X12_say_W_26 h760.2.1 hq0 h755.2.1 h755.2.2.1 ht_f_e0 h1 hp1 hp2 hp3 h755.1 h762)⟩, (fun _ h => absurd h List.not_mem_nil)⟩)) u892 rfl) u898 rfl) h906.1 (List.forall_mem_cons.mpr ⟨⟨_, (List.mem_cons_of_mem _ List.mem_cons_self), (vc_X12_say_W_27 h760.2.1 hq0 h755.2.1 h755.2.2.1 ht_f_e0 h1 hp1 hp2 hp3 h755.1 h762)⟩, (fun _ h => absurd h List.not_mem_nil)⟩)) u914 rfl) u921 rfl) u927 rfl), (G1.keep I860 hw ((mF.up (mF.up (mF.up (mF.call (mF.up (mF.up (mF.call mF.refl F883 rfl) (A_155 hw) u892 rfl) (A_156 hw) u898 rfl) F902 rfl) (A_157 hw) u914 rfl) (A_158 hw) u921 rfl) (A_106 hw) u927 rfl) : mF [106072, 126999, 155999, 156999, 157999, 158999] w μ856 μ926) rfl rfl ((mG.upO (mG.upO (mG.upO (mG.call (mG.upO (mG.upO (mG.call mG.refl h887.1 (List.forall_mem_cons.mpr ⟨⟨_, List.mem_cons_self, (vc_X12_say_W_28 h760.2.1 hq0 h755.2.1 h755.2.2.1 ht_f_e0 h1 hp1 hp2 hp3 h755.1 h762)⟩, (fun _ h => absurd h List.not_mem_nil)⟩)) u892 rfl) u898 rfl) h906.1 (List.forall_mem_cons.mpr ⟨⟨_, (List.mem_cons_of_mem _ List.mem_cons_self), (vc_X12_say_W_29 h760.2.1 hq0 h755.2.1 h755.2.2.1 ht_f_e0 h1 hp1 hp2 hp3 h755.1 h762)⟩, (fun _ h => absurd h List.not_mem_nil)⟩)) u914 rfl) u921 rfl) u927 rfl) : mG [((40 * (530 + z761)), ((40 * (530 + z761)) + 40)), ((40 * (930 + z761)), ((40 * (930 + z761)) + 40))] μ856 μ926) (List.forall_mem_cons.mpr ⟨(vc_X12_say_W_31 h760.2.1 hq0 h755.2.1 h755.2.2.1 ht_f_e0 h1 hp1 hp2 hp3 h755.1 h762), (List.forall_mem_cons.mpr ⟨(vc_X12_say_W_30 h760.2.1 hq0 h755.2.1 h755.2.2.1 ht_f_e0 h1 hp1 hp2 hp3 h755.1 h762), (fun _ h => absurd h List.not_mem_nil)⟩)⟩)), (EV.keep I916 hw ((mF.up (mF.up mF.refl (A_158 hw) u921 rfl) (A_106 hw) u927 rfl) : mF [106072, 158999] w μ913 μ926) rfl), ((((((((h906.2.2.1 T901 F902) z904 q905) z910 q911 h912) μ913 u914 T915) z917 q918 h919) μ920 u921 T922) z923 h924 h925) μ926 u927 T928), trivial⟩
      have h929 : 1 ≤ z872 ∧ z872 ≤ 1 := (vc_X12_ring_24 h875 h874)
      refine sv_aload_n (pc := 162) dX12_say_162 rfl rfl ?_
      refine gf_X12_71 (pc := 163) dX12_say_163 wF_X12_591 (A_106 hw) T857 fun z930 q931 h932 => ?_
      refine sv_aload_n (pc := 166) dX12_say_166 rfl rfl ?_
      refine gf_X12_76 (pc := 167) dX12_say_167 wF_X12_430 (A_106 hw) T857 ?_
      refine mr_iload (pc := 170) (z := z761) dX12_say_170 rfl ?_
      refine la_156 (pc := 172) dX12_say_172 (A_156 hw) T857 (rIx (n := 400) h762 rfl) fun z933 q934 h935 => ?_
      refine sv_aload_n (pc := 173) dX12_say_173 rfl rfl ?_
      refine gf_X12_11 (pc := 174) dX12_say_174 wF_X12_60 (A_106 hw) T857 ?_
      refine mr_iload_n (pc := 177) (z := p2) dX12_say_177 rfl rfl ?_
      refine la_114 (pc := 178) dX12_say_178 (A_114 hw) T857 (rIx (n := 20) hp2 rfl) fun z936 q937 h938 => ?_
      refine mr_iadd (pc := 179) (x := z933) (y := z936) dX12_say_179 ?_
      refine mr_icmp_ge (pc := 180) (tgt := 236) dX12_say_180 (by decide) (r32 h932 rfl) (r32 (rAdd (e := 0) (f := 2000001000) h935 h938 rfl) rfl) (fun h939 => ?_) (fun h939 => ?_)
      · refine sv_aload_n (pc := 236) dX12_say_236 rfl rfl ?_
        refine mr_iconst (pc := 237) (z := 2) dX12_say_237 ?_
        refine mr_sipush (pc := 238) (z := 530) dX12_say_238 (by decide) ?_
        refine mr_iload (pc := 241) (z := z761) dX12_say_241 rfl ?_
        refine mr_iadd (pc := 243) (x := 530) (y := z761) dX12_say_243 ?_
        obtain ⟨z940, q941⟩ : ∃ z, μ856 126 (((40 * 2) : Int).toNat) = z := ⟨_, rfl⟩
        have h942 := rt7 T857 (A_126 hw) vc_X12_say_W_3 q941
        have h943 : (-1) ≤ z940 ∧ z940 ≤ 9 := h942.2.1 vc_X12_say_W_4
        have W948 := (((((((((h868.2.1 h868.1).1 h870) z872 q873 h874).2 h875) z930 q931 h932) z933 q934 h935) z936 q937 h938).1 h939) z940 q941 h942)
        refine mr_cVV (pc := 244) (c_X12_copy_W hw T857 (rW (c := 0) (d := 2099) (rR (x := 2)) rfl) (rW (c := 0) (d := 2099) (rAdd (e := 530) (f := 929) (rR (x := 530)) h762 rfl) rfl) q941 (vc_X12_say_W_14 h760.2.1 hq0 h755.2.1 h755.2.2.1 ht_f_e0 h1 hp1 hp2 hp3 h755.1 h762) W948) (gOk _ _ _ _ _) dX12_say_244 (tX12_copy _ _ _ _ _) ⟨wV_X12_copy, wL_X12_copy⟩ wM_X12_559 (gCX12 _ _ _ _ _) rfl (A_106 hw) rfl ⟨le_t rfl, le_t rfl⟩ ⟨le_t rfl, le_t rfl⟩ rfl (le_t rfl) fun μ944 T945 F946 h947 => ?_
        obtain ⟨z949, q950, h951⟩ := h947
        have h952 := rt7 T945 (A_126 hw) (vc_X12_say_W_15 h760.2.1 hq0 h755.2.1 h755.2.2.1 ht_f_e0 h1 hp1 hp2 hp3 h755.1 h762) q950
        have h953 : (-1) ≤ z949 ∧ z949 ≤ 9 := h952.2.1 (vc_X12_say_W_16 h760.2.1 hq0 h755.2.1 h755.2.2.1 ht_f_e0 h1 hp1 hp2 hp3 h755.1 h762)
        have q954 : μ944 126 ((40 * (530 + z761)).toNat) = z940 := q950.trans h951.2.1
        refine sv_aload_n (pc := 247) dX12_say_247 rfl rfl ?_
        refine gf_X12_75 (pc := 248) dX12_say_248 wF_X12_427 (A_106 hw) T945 ?_
        refine mr_iload (pc := 251) (z := z761) dX12_say_251 rfl ?_
        refine mr_iconst (pc := 253) (z := 1) dX12_say_253 ?_
        refine ss_155 (pc := 254) dX12_say_254 (A_155 hw) T945 (rIx (n := 400) h762 rfl) (rW (c := 0) (d := 1) (rR (x := 1)) rfl) fun μ955 u956 T957 => ?_
        refine sv_aload_n (pc := 255) dX12_say_255 rfl rfl ?_
        refine gf_X12_76 (pc := 256) dX12_say_256 wF_X12_430 (A_106 hw) T957 ?_
        refine mr_iload (pc := 259) (z := z761) dX12_say_259 rfl ?_
        refine sv_aload_n (pc := 261) dX12_say_261 rfl rfl ?_
        refine gk_X12_71 (pc := 262) dX12_say_262 wF_X12_591 (A_106 hw) (u956.f (Or.inl (mAt.ne (A_155 hw) (A_106 hw) rfl)) (F946.f (A_106 hw) rfl q931)) ?_
        refine ss_156 (pc := 265) dX12_say_265 (A_156 hw) T957 (rIx (n := 400) h762 rfl) h932 fun μ958 u959 T960 => ?_
        refine sv_aload_n (pc := 266) dX12_say_266 rfl rfl ?_
        refine mr_iconst (pc := 267) (z := 2) dX12_say_267 ?_
        refine mr_sipush (pc := 268) (z := 930) dX12_say_268 (by decide) ?_
        refine mr_iload (pc := 271) (z := z761) dX12_say_271 rfl ?_
        refine mr_iadd (pc := 273) (x := 930) (y := z761) dX12_say_273 ?_
        refine mr_cVV (pc := 274) (c_X12_copy_W hw T960 (rW (c := 0) (d := 2099) (rR (x := 2)) rfl) (rW (c := 0) (d := 2099) (rAdd (e := 930) (f := 1329) (rR (x := 930)) h762 rfl) rfl) (u959.f (Or.inl (mAt.ne (A_156 hw) (A_126 hw) rfl)) (u956.f (Or.inl (mAt.ne (A_155 hw) (A_126 hw) rfl)) (h951.1.f vc_X12_say_W_3 (List.forall_mem_cons.mpr ⟨(vc_X12_say_W_17 h760.2.1 hq0 h755.2.1 h755.2.2.1 ht_f_e0 h1 hp1 hp2 hp3 h755.1 h762), (fun _ h => absurd h List.not_mem_nil)⟩) q941))) (vc_X12_say_W_18 h760.2.1 hq0 h755.2.1 h755.2.2.1 ht_f_e0 h1 hp1 hp2 hp3 h755.1 h762) ((((h951.2.2.1 T945 F946) z949 q950) μ955 u956 T957) μ958 u959 T960)) (gOk _ _ _ _ _) dX12_say_274 (tX12_copy _ _ _ _ _) ⟨wV_X12_copy, wL_X12_copy⟩ wM_X12_559 (gCX12 _ _ _ _ _) rfl (A_106 hw) rfl ⟨le_t rfl, le_t rfl⟩ ⟨le_t rfl, le_t rfl⟩ rfl (le_t rfl) fun μ961 T962 F963 h964 => ?_
        obtain ⟨z965, q966, h967⟩ := h964
        have h968 := rt7 T962 (A_126 hw) (vc_X12_say_W_19 h760.2.1 hq0 h755.2.1 h755.2.2.1 ht_f_e0 h1 hp1 hp2 hp3 h755.1 h762) q966
        have h969 : (-1) ≤ z965 ∧ z965 ≤ 9 := h968.2.1 (vc_X12_say_W_20 h760.2.1 hq0 h755.2.1 h755.2.2.1 ht_f_e0 h1 hp1 hp2 hp3 h755.1 h762)
        have q970 : μ961 126 ((40 * (930 + z761)).toNat) = z940 := q966.trans h967.2.1
        refine sv_aload_n (pc := 277) dX12_say_277 rfl rfl ?_
        refine gf_X12_77 (pc := 278) dX12_say_278 wF_X12_433 (A_106 hw) T962 ?_
        refine mr_iload (pc := 281) (z := z761) dX12_say_281 rfl ?_
        refine sv_aload_n (pc := 283) dX12_say_283 rfl rfl ?_
        refine gk_X12_71 (pc := 284) dX12_say_284 wF_X12_591 (A_106 hw) (F963.f (A_106 hw) rfl (u959.f (Or.inl (mAt.ne (A_156 hw) (A_106 hw) rfl)) (u956.f (Or.inl (mAt.ne (A_155 hw) (A_106 hw) rfl)) (F946.f (A_106 hw) rfl q931)))) ?_
        refine sv_aload_n (pc := 287) dX12_say_287 rfl rfl ?_
        refine gf_X12_10 (pc := 288) dX12_say_288 wF_X12_57 (A_106 hw) T962 ?_
        refine mr_iload_n (pc := 291) (z := p2) dX12_say_291 rfl rfl ?_
        refine la_113 (pc := 292) dX12_say_292 (A_113 hw) T962 (rIx (n := 20) hp2 rfl) fun z971 q972 h973 => ?_
        refine mr_iadd (pc := 293) (x := z930) (y := z971) dX12_say_293 ?_
        refine ss_157 (pc := 294) dX12_say_294 (A_157 hw) T962 (rIx (n := 400) h762 rfl) (rW (c := (-1)) (d := 2000001000) (rAdd (e := 0) (f := 2000001000) h932 h973 rfl) rfl) fun μ974 u975 T976 => ?_
        have I977 : EV μ974 := EV.up1 (EV.keep I861 hw ((mF.call (mF.up (mF.up (mF.call mF.refl F946 rfl) (A_155 hw) u956 rfl) (A_156 hw) u959 rfl) F963 rfl) : mF [126999, 155999, 156999] w μ856 μ961) rfl) u975 (u975.f (Or.inl (mAt.ne (A_157 hw) (A_106 hw) rfl)) (F963.f (A_106 hw) rfl (u959.f (Or.inl (mAt.ne (A_156 hw) (A_106 hw) rfl)) (u956.f (Or.inl (mAt.ne (A_155 hw) (A_106 hw) rfl)) (F946.f (A_106 hw) rfl (F858.f (A_106 hw) rfl (F765.f (A_106 hw) rfl q_f_ties))))))) (vc_X12_say_W_21 h760.2.1 hq0 h755.2.1 h755.2.2.1 ht_f_e0 h1 hp1 hp2 hp3 h755.1 h762) (vc_X12_say_W_33 hq0 h760.2.1 h939 h755.2.1 h755.2.2.1 ht_f_e0 h1 hp1 hp2 hp3 h755.1 h762 h932 h935 h938 h973)
        refine sv_aload_n (pc := 295) dX12_say_295 rfl rfl ?_
        refine gf_X12_78 (pc := 296) dX12_say_296 wF_X12_436 (A_106 hw) T976 ?_
        refine mr_iload (pc := 299) (z := z761) dX12_say_299 rfl ?_
        refine sv_aload_n (pc := 301) dX12_say_301 rfl rfl ?_
        refine gf_X12_72 (pc := 302) dX12_say_302 wF_X12_594 (A_106 hw) T976 fun z978 q979 h980 => ?_
        refine ss_158 (pc := 305) dX12_say_305 (A_158 hw) T976 (rIx (n := 400) h762 rfl) h980 fun μ981 u982 T983 => ?_
        refine sv_aload_n (pc := 306) dX12_say_306 rfl rfl ?_
        refine sv_dup (pc := 307) dX12_say_307 rfl ?_
        refine gk_X12_72 (pc := 308) dX12_say_308 wF_X12_594 (A_106 hw) (u982.f (Or.inl (mAt.ne (A_158 hw) (A_106 hw) rfl)) q979) ?_
        refine mr_iconst (pc := 311) (z := 1) dX12_say_311 ?_
        refine mr_iadd (pc := 312) (x := z978) (y := 1) dX12_say_312 ?_
        refine mr_wrapF fun z984 h985 h986 => ?_
        refine pf_X12_72 (pc := 313) dX12_say_313 wF_X12_594 (A_106 hw) T983 h985 fun μ987 u988 T989 => ?_
        exact mr_vret dX12_say_316 rfl (le_t rfl) (le_t rfl) T989 (mF.up (mF.up (mF.up (mF.call (mF.up (mF.up (mF.call (mF.call (mF.call mF.refl F765 rfl) F858 rfl) F946 rfl) (A_155 hw) u956 rfl) (A_156 hw) u959 rfl) F963 rfl) (A_157 hw) u975 rfl) (A_158 hw) u982 rfl) (A_106 hw) u988 rfl) ⟨(mG.upO (mG.upO (mG.upO (mG.call (mG.upO (mG.upO (mG.call (mG.call (mG.call mG.refl h769.1 (List.forall_mem_cons.mpr ⟨⟨_, List.mem_cons_self, vc_X12_say_W_23⟩, (fun _ h => absurd h List.not_mem_nil)⟩)) G859 (List.forall_mem_cons.mpr ⟨⟨_, List.mem_cons_self, vc_X12_say_W_24⟩, (List.forall_mem_cons.mpr ⟨⟨_, (List.mem_cons_of_mem _ List.mem_cons_self), vc_X12_say_W_25⟩, (fun _ h => absurd h List.not_mem_nil)⟩)⟩)) h951.1 (List.forall_mem_cons.mpr ⟨⟨_, (List.mem_cons_of_mem _ List.mem_cons_self), (vc_X12_say_W_26 h760.2.1 hq0 h755.2.1 h755.2.2.1 ht_f_e0 h1 hp1 hp2 hp3 h755.1 h762)⟩, (fun _ h => absurd h List.not_mem_nil)⟩)) u956 rfl) u959 rfl) h967.1 (List.forall_mem_cons.mpr ⟨⟨_, (List.mem_cons_of_mem _ List.mem_cons_self), (vc_X12_say_W_27 h760.2.1 hq0 h755.2.1 h755.2.2.1 ht_f_e0 h1 hp1 hp2 hp3 h755.1 h762)⟩, (fun _ h => absurd h List.not_mem_nil)⟩)) u975 rfl) u982 rfl) u988 rfl), (G1.keep I860 hw ((mF.up (mF.up (mF.up (mF.call (mF.up (mF.up (mF.call mF.refl F946 rfl) (A_155 hw) u956 rfl) (A_156 hw) u959 rfl) F963 rfl) (A_157 hw) u975 rfl) (A_158 hw) u982 rfl) (A_106 hw) u988 rfl) : mF [106072, 126999, 155999, 156999, 157999, 158999] w μ856 μ987) rfl rfl ((mG.upO (mG.upO (mG.upO (mG.call (mG.upO (mG.upO (mG.call mG.refl h951.1 (List.forall_mem_cons.mpr ⟨⟨_, List.mem_cons_self, (vc_X12_say_W_28 h760.2.1 hq0 h755.2.1 h755.2.2.1 ht_f_e0 h1 hp1 hp2 hp3 h755.1 h762)⟩, (fun _ h => absurd h List.not_mem_nil)⟩)) u956 rfl) u959 rfl) h967.1 (List.forall_mem_cons.mpr ⟨⟨_, (List.mem_cons_of_mem _ List.mem_cons_self), (vc_X12_say_W_29 h760.2.1 hq0 h755.2.1 h755.2.2.1 ht_f_e0 h1 hp1 hp2 hp3 h755.1 h762)⟩, (fun _ h => absurd h List.not_mem_nil)⟩)) u975 rfl) u982 rfl) u988 rfl) : mG [((40 * (530 + z761)), ((40 * (530 + z761)) + 40)), ((40 * (930 + z761)), ((40 * (930 + z761)) + 40))] μ856 μ987) (List.forall_mem_cons.mpr ⟨(vc_X12_say_W_31 h760.2.1 hq0 h755.2.1 h755.2.2.1 ht_f_e0 h1 hp1 hp2 hp3 h755.1 h762), (List.forall_mem_cons.mpr ⟨(vc_X12_say_W_30 h760.2.1 hq0 h755.2.1 h755.2.2.1 ht_f_e0 h1 hp1 hp2 hp3 h755.1 h762), (fun _ h => absurd h List.not_mem_nil)⟩)⟩)), (EV.keep I977 hw ((mF.up (mF.up mF.refl (A_158 hw) u982 rfl) (A_106 hw) u988 rfl) : mF [106072, 158999] w μ974 μ987) rfl), ((((((((h967.2.2.1 T962 F963) z965 q966) z971 q972 h973) μ974 u975 T976) z978 q979 h980) μ981 u982 T983) z984 h985 h986) μ987 u988 T989), trivial⟩
      refine sv_aload_n (pc := 183) dX12_say_183 rfl rfl ?_
      refine gf_X12_79 (pc := 184) dX12_say_184 wF_X12_439 (A_106 hw) T857 ?_
      refine mr_iload (pc := 187) (z := z761) dX12_say_187 rfl ?_
      refine la_159 (pc := 189) dX12_say_189 (A_159 hw) T857 (rIx (n := 400) h762 rfl) fun z990 q991 h992 => ?_
      refine mr_if_ge (pc := 190) (tgt := 235) dX12_say_190 (by decide) (r32 h992 rfl) (fun h1010 => ?_) (fun h1010 => ?_)
      · have h1011 : 0 ≤ z990 ∧ z990 ≤ 2000001000 := (vc_X12_count_19 h1010 h992)
        exact mr_vret dX12_say_235 rfl (le_t rfl) (le_t rfl) T857 (mF.call (mF.call mF.refl F765 rfl) F858 rfl) ⟨(mG.call (mG.call mG.refl h769.1 (List.forall_mem_cons.mpr ⟨⟨_, List.mem_cons_self, vc_X12_say_W_23⟩, (fun _ h => absurd h List.not_mem_nil)⟩)) G859 (List.forall_mem_cons.mpr ⟨⟨_, List.mem_cons_self, vc_X12_say_W_24⟩, (List.forall_mem_cons.mpr ⟨⟨_, (List.mem_cons_of_mem _ List.mem_cons_self), vc_X12_say_W_25⟩, (fun _ h => absurd h List.not_mem_nil)⟩)⟩)), I860, I861, ((((((((((h868.2.1 h868.1).1 h870) z872 q873 h874).2 h875) z930 q931 h932) z933 q934 h935) z936 q937 h938).2 h939) z990 q991 h992).1 h1010), trivial⟩
      have h1012 : (-1) ≤ z990 ∧ z990 ≤ (-1) := (vc_X12_count_17 h1010 h992)
      refine sv_aload_n (pc := 193) dX12_say_193 rfl rfl ?_
      refine gf_X12_79 (pc := 194) dX12_say_194 wF_X12_439 (A_106 hw) T857 ?_
      refine mr_iload (pc := 197) (z := z761) dX12_say_197 rfl ?_
      refine sv_aload_n (pc := 199) dX12_say_199 rfl rfl ?_
      refine gf_X12_76 (pc := 200) dX12_say_200 wF_X12_430 (A_106 hw) T857 ?_
      refine mr_iload (pc := 203) (z := z761) dX12_say_203 rfl ?_
      refine lk_156 (pc := 205) dX12_say_205 (A_156 hw) (rIx (n := 400) h762 rfl) q934 ?_
      refine sv_aload_n (pc := 206) dX12_say_206 rfl rfl ?_
      refine gf_X12_11 (pc := 207) dX12_say_207 wF_X12_60 (A_106 hw) T857 ?_
      refine mr_iload_n (pc := 210) (z := p2) dX12_say_210 rfl rfl ?_
      refine lk_114 (pc := 211) dX12_say_211 (A_114 hw) (rIx (n := 20) hp2 rfl) q937 ?_
      refine mr_iadd (pc := 212) (x := z933) (y := z936) dX12_say_212 ?_
      refine ss_159 (pc := 213) dX12_say_213 (A_159 hw) T857 (rIx (n := 400) h762 rfl) (rW (c := (-1)) (d := 2000001000) (rAdd (e := 0) (f := 2000001000) h935 h938 rfl) rfl) fun μ1013 u1014 T1015 => ?_
      have I1016 : EV μ1013 := EV.up2 I861 u1014 (u1014.f (Or.inl (mAt.ne (A_159 hw) (A_106 hw) rfl)) (F858.f (A_106 hw) rfl (F765.f (A_106 hw) rfl q_f_ties))) (vc_X12_say_W_21 h760.2.1 hq0 h755.2.1 h755.2.2.1 ht_f_e0 h1 hp1 hp2 hp3 h755.1 h762) (vc_X12_say_W_36 hq0 h760.2.1 h939 h755.2.1 h755.2.2.1 ht_f_e0 h1 hp1 hp2 hp3 h755.1 h762 h932 h935 h938)
      refine sv_aload_n (pc := 214) dX12_say_214 rfl rfl ?_
      refine gf_X12_80 (pc := 215) dX12_say_215 wF_X12_442 (A_106 hw) T1015 ?_
      refine mr_iload (pc := 218) (z := z761) dX12_say_218 rfl ?_
      refine sv_aload_n (pc := 220) dX12_say_220 rfl rfl ?_
      refine gf_X12_72 (pc := 221) dX12_say_221 wF_X12_594 (A_106 hw) T1015 fun z1017 q1018 h1019 => ?_
      refine ss_160 (pc := 224) dX12_say_224 (A_160 hw) T1015 (rIx (n := 400) h762 rfl) h1019 fun μ1020 u1021 T1022 => ?_
      refine sv_aload_n (pc := 225) dX12_say_225 rfl rfl ?_
      refine sv_dup (pc := 226) dX12_say_226 rfl ?_
      refine gk_X12_72 (pc := 227) dX12_say_227 wF_X12_594 (A_106 hw) (u1021.f (Or.inl (mAt.ne (A_160 hw) (A_106 hw) rfl)) q1018) ?_
      refine mr_iconst (pc := 230) (z := 1) dX12_say_230 ?_
      refine mr_iadd (pc := 231) (x := z1017) (y := 1) dX12_say_231 ?_
      refine mr_wrapF fun z1023 h1024 h1025 => ?_
      refine pf_X12_72 (pc := 232) dX12_say_232 wF_X12_594 (A_106 hw) T1022 h1024 fun μ1026 u1027 T1028 => ?_
      exact mr_vret dX12_say_235 rfl (le_t rfl) (le_t rfl) T1028 (mF.up (mF.up (mF.up (mF.call (mF.call mF.refl F765 rfl) F858 rfl) (A_159 hw) u1014 rfl) (A_160 hw) u1021 rfl) (A_106 hw) u1027 rfl) ⟨(mG.upO (mG.upO (mG.upO (mG.call (mG.call mG.refl h769.1 (List.forall_mem_cons.mpr ⟨⟨_, List.mem_cons_self, vc_X12_say_W_23⟩, (fun _ h => absurd h List.not_mem_nil)⟩)) G859 (List.forall_mem_cons.mpr ⟨⟨_, List.mem_cons_self, vc_X12_say_W_24⟩, (List.forall_mem_cons.mpr ⟨⟨_, (List.mem_cons_of_mem _ List.mem_cons_self), vc_X12_say_W_25⟩, (fun _ h => absurd h List.not_mem_nil)⟩)⟩)) u1014 rfl) u1021 rfl) u1027 rfl), (G1.keep I860 hw ((mF.up (mF.up (mF.up mF.refl (A_159 hw) u1014 rfl) (A_160 hw) u1021 rfl) (A_106 hw) u1027 rfl) : mF [106072, 159999, 160999] w μ856 μ1026) rfl rfl ((mG.upO (mG.upO (mG.upO mG.refl u1014 rfl) u1021 rfl) u1027 rfl) : mG [] μ856 μ1026) (fun _ h => absurd h List.not_mem_nil)), (EV.keep I1016 hw ((mF.up (mF.up mF.refl (A_160 hw) u1021 rfl) (A_106 hw) u1027 rfl) : mF [106072, 160999] w μ1013 μ1026) rfl), (((((((((((((((h868.2.1 h868.1).1 h870) z872 q873 h874).2 h875) z930 q931 h932) z933 q934 h935) z936 q937 h938).2 h939) z990 q991 h992).2 h1010) μ1013 u1014 T1015) z1017 q1018 h1019) μ1020 u1021 T1022) z1023 h1024 h1025) μ1026 u1027 T1028), trivial⟩
    have h1029 : 1 ≤ z869 ∧ z869 ≤ 1 := (vc_X12_ring_24 h870 h868.1)
    exact mr_vret dX12_say_151 rfl (le_t rfl) (le_t rfl) T857 (mF.call (mF.call mF.refl F765 rfl) F858 rfl) ⟨(mG.call (mG.call mG.refl h769.1 (List.forall_mem_cons.mpr ⟨⟨_, List.mem_cons_self, vc_X12_say_W_23⟩, (fun _ h => absurd h List.not_mem_nil)⟩)) G859 (List.forall_mem_cons.mpr ⟨⟨_, List.mem_cons_self, vc_X12_say_W_24⟩, (List.forall_mem_cons.mpr ⟨⟨_, (List.mem_cons_of_mem _ List.mem_cons_self), vc_X12_say_W_25⟩, (fun _ h => absurd h List.not_mem_nil)⟩)⟩)), I860, I861, ((h868.2.1 h868.1).2 h870), trivial⟩
  refine mr_icmp_eq (pc := 39) (tgt := 137) dX12_say_39 (by decide) (r32 h777 rfl) (r32 (rR (x := (-99999999))) rfl) (fun h1030 => ?_) (fun h1030 => ?_)
  · have h1031 : (-99999999) ≤ z774 ∧ z774 ≤ (-99999999) := (vc_X12_say_W_38 h1030 h782 h777 h776 h781)
    refine mr_lvS (lv' := [(0, .ref 106), (2, iv p2), (5, iv z761)]) (List.forall_mem_cons.mpr ⟨rfl, List.forall_mem_cons.mpr ⟨rfl, List.forall_mem_cons.mpr ⟨rfl, fun _ h => absurd h List.not_mem_nil⟩⟩⟩) ?_
    exact J863 μ763 T764 mF.refl mG.refl (G1.keep hIG1 hw ((mF.call mF.refl F765 rfl) : mF [126999] w μ μ763) rfl rfl ((mG.call mG.refl h769.1 (List.forall_mem_cons.mpr ⟨⟨_, List.mem_cons_self, vc_X12_say_W_9⟩, (fun _ h => absurd h List.not_mem_nil)⟩)) : mG [((40 * 2), ((40 * 2) + 1))] μ μ763) (List.forall_mem_cons.mpr ⟨vc_X12_say_W_10, (fun _ h => absurd h List.not_mem_nil)⟩)) (EV.keep hIEV hw ((mF.call mF.refl F765 rfl) : mF [126999] w μ μ763) rfl) (PK.keep hIPK hw ((mF.call mF.refl F765 rfl) : mF [126999] w μ μ763) rfl) (((((h769.2.2.1 T764 F765) z767 q768) z774 q775 h776) z778 q779 h780).1 h1030)
  have h1032 : (-4) ≤ z774 ∧ z774 ≤ 19 := (vc_X12_say_W_39 h1030 h782 h777 h776 h781)
  refine sv_aload_n (pc := 42) dX12_say_42 rfl rfl ?_
  refine gf_X12_81 (pc := 43) dX12_say_43 wF_X12_445 (A_106 hw) T764 ?_
  refine mr_iload (pc := 46) (z := ((10 * p1) + p3)) dX12_say_46 rfl ?_
  refine lk_161 (pc := 48) dX12_say_48 (A_161 hw) (rIx (n := 100) (rAdd (e := 0) (f := 99) (rMulL (n := 10) (e := 0) (f := 90) hp1 rfl) hp3 rfl) rfl) q775 ?_
  refine mr_iload_n (pc := 49) (z := p2) dX12_say_49 rfl rfl ?_
  refine mr_icmp_eq (pc := 50) (tgt := 137) dX12_say_50 (by decide) (r32 h1032 rfl) (r32 hp2 rfl) (fun h1033 => ?_) (fun h1033 => ?_)
  · have h1034 : 0 ≤ z774 ∧ z774 ≤ 19 := (vc_X12_say_W_40 h1033 hq0 h760.2.1 h782 h1030 h1 hp2 hp3 h755.1 h762 h1032 h776 h781)
    refine mr_lvS (lv' := [(0, .ref 106), (2, iv p2), (5, iv z761)]) (List.forall_mem_cons.mpr ⟨rfl, List.forall_mem_cons.mpr ⟨rfl, List.forall_mem_cons.mpr ⟨rfl, fun _ h => absurd h List.not_mem_nil⟩⟩⟩) ?_
    exact J863 μ763 T764 mF.refl mG.refl (G1.keep hIG1 hw ((mF.call mF.refl F765 rfl) : mF [126999] w μ μ763) rfl rfl ((mG.call mG.refl h769.1 (List.forall_mem_cons.mpr ⟨⟨_, List.mem_cons_self, vc_X12_say_W_9⟩, (fun _ h => absurd h List.not_mem_nil)⟩)) : mG [((40 * 2), ((40 * 2) + 1))] μ μ763) (List.forall_mem_cons.mpr ⟨vc_X12_say_W_10, (fun _ h => absurd h List.not_mem_nil)⟩)) (EV.keep hIEV hw ((mF.call mF.refl F765 rfl) : mF [126999] w μ μ763) rfl) (PK.keep hIPK hw ((mF.call mF.refl F765 rfl) : mF [126999] w μ μ763) rfl) ((((((h769.2.2.1 T764 F765) z767 q768) z774 q775 h776) z778 q779 h780).2 h1030).1 h1033)
  refine sv_aload_n (pc := 53) dX12_say_53 rfl rfl ?_
  refine mr_bipush (pc := 54) (z := 30) dX12_say_54 (by decide) ?_
  refine mr_iload (pc := 56) (z := ((10 * p1) + p3)) dX12_say_56 rfl ?_
  refine mr_iadd (pc := 58) (x := 30) (y := ((10 * p1) + p3)) dX12_say_58 ?_
  refine mr_iconst (pc := 59) (z := 2) dX12_say_59 ?_
  refine mr_cVV (pc := 60) (c_X12_copy_W hw T764 (rW (c := 0) (d := 2099) (rAdd (e := 30) (f := 129) (rR (x := 30)) (rAdd (e := 0) (f := 99) (rMulL (n := 10) (e := 0) (f := 90) hp1 rfl) hp3 rfl) rfl) rfl) (rW (c := 0) (d := 2099) (rR (x := 2)) rfl) q779 (vc_X12_say_W_41 hq1 h755.2.1 h755.2.2.1 h760.2.1 hq0 h1033 ht_f_e0 ht_f_e1 h1 hp1 hp2 hp3 h755.1 h762 h1032 h776) ((((((h769.2.2.1 T764 F765) z767 q768) z774 q775 h776) z778 q779 h780).2 h1030).2 h1033)) (gOk _ _ _ _ _) dX12_say_60 (tX12_copy _ _ _ _ _) ⟨wV_X12_copy, wL_X12_copy⟩ wM_X12_559 (gCX12 _ _ _ _ _) rfl (A_106 hw) rfl ⟨le_t rfl, le_t rfl⟩ ⟨le_t rfl, le_t rfl⟩ rfl (le_t rfl) fun μ1035 T1036 F1037 h1038 => ?_
  obtain ⟨z1039, q1040, h1041⟩ := h1038
  have h1042 := rt7 T1036 (A_126 hw) vc_X12_say_W_3 q1040
  have h1043 : (-1) ≤ z1039 ∧ z1039 ≤ 9 := h1042.2.1 vc_X12_say_W_4
  have q1044 : μ1035 126 (((40 * 2) : Int).toNat) = z778 := q1040.trans h1041.2.1
  refine sv_aload_n (pc := 63) dX12_say_63 rfl rfl ?_
  refine gf_X12_32 (pc := 64) dX12_say_64 wF_X12_148 (A_106 hw) T1036 ?_
  refine mr_bipush (pc := 67) (z := 81) dX12_say_67 (by decide) ?_
  refine mr_bipush (pc := 69) (z := 100) dX12_say_69 (by decide) ?_
  refine ss_126 (pc := 71) dX12_say_71 (A_126 hw) T1036 (rIx (n := 84000) (rR (x := 81)) rfl) vc_X12_say_W_42 fun μ1045 u1046 T1047 => ?_
  refine sv_aload_n (pc := 72) dX12_say_72 rfl rfl ?_
  refine mr_iconst (pc := 73) (z := 2) dX12_say_73 ?_
  refine mr_iload_n (pc := 74) (z := p1) dX12_say_74 rfl rfl ?_
  refine mr_cVI (pc := 75) (c_X12_front_W hw T1047 (rW (c := 0) (d := 2099) (rR (x := 2)) rfl) (rW (c := (-2147483648)) (d := 2147483647) hp1 rfl) (((h1041.2.2.1 T1036 F1037) z1039 q1040) μ1045 u1046 T1047)) (gOk _ _ _ _ _) dX12_say_75 (tX12_front _ _ _ _ _) ⟨wV_X12_front, wL_X12_front⟩ wM_X12_408 (gCX12 _ _ _ _ _) rfl (A_106 hw) rfl ⟨le_t rfl, le_t rfl⟩ ⟨le_t rfl, le_t rfl⟩ rfl (le_t rfl) fun z1052 μ1048 T1049 F1050 h1051 => ?_
  have J1089 : ∀ (z1080 : Int) (μ1082 : mM), (mT w μ1082) → (mF [106026, 106027, 106028, 106029, 106030, 106031, 126999, 151999, 152999, 153999] w μ1048 μ1082) → (mG [(80, 120), (21200, 53200)] μ1048 μ1082) → ((0 ≤ z1080 ∧ z1080 ≤ 1)) → (G1 μ1082) → (EV μ1082) → (PK μ1082) → ((WJ_X12_say_W_2 w p2 Q z761 μ763 μ1048) z1080 μ1082) → sV (gG l D c H0 sa) mX12_say (sRm 7 0 0) (sZ (gG l D c H0 sa) 0 0 (qV w [106026, 106027, 106028, 106029, 106030, 106031, 106072, 126999, 151999, 152999, 153999, 155999, 156999, 157999, 158999, 159999, 160999] μ (fun μ1 => mG [(80, 120), (21200, 53200)] μ μ1 ∧ G1 μ1 ∧ EV μ1 ∧ Q μ1 ∧ True))) 116 [(0, .ref 106), (2, iv p2), (5, iv z761)] [iv z1080] (mk w μ1082) 0 0 := by
    intro z1080 μ1082 T1083 F1084 G1085 h1081 I1086 I1087 I1088 W1090
    refine mr_istore (pc := 116) (lv' := [(7, iv z1080), (0, .ref 106), (2, iv p2), (5, iv z761)]) dX12_say_116 (by decide) rfl ?_
    refine sv_aload_n (pc := 118) dX12_say_118 rfl rfl ?_
    refine gf_X12_32 (pc := 119) dX12_say_119 wF_X12_148 (A_106 hw) T1083 ?_
    refine mr_bipush (pc := 122) (z := 81) dX12_say_122 (by decide) ?_
    refine mr_bipush (pc := 124) (z := 100) dX12_say_124 (by decide) ?_
    refine ss_126 (pc := 126) dX12_say_126 (A_126 hw) T1083 (rIx (n := 84000) (rR (x := 81)) rfl) vc_X12_say_W_42 fun μ1091 u1092 T1093 => ?_
    refine mr_iload (pc := 127) (z := z1080) dX12_say_127 rfl ?_
    refine mr_if_ne (pc := 129) (tgt := 137) dX12_say_129 (by decide) (r32 h1081 rfl) (fun h1094 => ?_) (fun h1094 => ?_)
    · have h1095 : 1 ≤ z1080 ∧ z1080 ≤ 1 := (vc_X12_ring_24 h1094 h1081)
      refine mr_lvS (lv' := [(0, .ref 106), (2, iv p2), (5, iv z761)]) (List.forall_mem_cons.mpr ⟨rfl, List.forall_mem_cons.mpr ⟨rfl, List.forall_mem_cons.mpr ⟨rfl, fun _ h => absurd h List.not_mem_nil⟩⟩⟩) ?_
      exact J863 μ1091 T1093 (mF.up (mF.call (mF.call (mF.up (mF.call mF.refl F1037 rfl) (A_126 hw) u1046 rfl) F1050 rfl) F1084 rfl) (A_126 hw) u1092 rfl) (mG.up (mG.call (mG.call (mG.up (mG.call mG.refl h1041.1 (List.forall_mem_cons.mpr ⟨⟨_, List.mem_cons_self, vc_X12_say_W_44⟩, (fun _ h => absurd h List.not_mem_nil)⟩)) u1046 List.mem_cons_self vc_X12_say_W_45) h1051.2.1 (List.forall_mem_cons.mpr ⟨⟨_, List.mem_cons_self, vc_X12_say_W_46⟩, (fun _ h => absurd h List.not_mem_nil)⟩)) G1085 (List.forall_mem_cons.mpr ⟨⟨_, List.mem_cons_self, vc_X12_say_W_24⟩, (List.forall_mem_cons.mpr ⟨⟨_, (List.mem_cons_of_mem _ List.mem_cons_self), vc_X12_say_W_25⟩, (fun _ h => absurd h List.not_mem_nil)⟩)⟩)) u1092 List.mem_cons_self vc_X12_say_W_45) (G1.keep I1086 hw ((mF.up mF.refl (A_126 hw) u1092 rfl) : mF [126999] w μ1082 μ1091) rfl rfl ((mG.up mG.refl u1092 List.mem_cons_self vc_X12_say_W_47) : mG [(81, (81 + 1))] μ1082 μ1091) (List.forall_mem_cons.mpr ⟨vc_X12_say_W_48, (fun _ h => absurd h List.not_mem_nil)⟩)) (EV.keep I1087 hw ((mF.up mF.refl (A_126 hw) u1092 rfl) : mF [126999] w μ1082 μ1091) rfl) (PK.keep I1088 hw ((mF.up mF.refl (A_126 hw) u1092 rfl) : mF [126999] w μ1082 μ1091) rfl) (((W1090 h1081 T1083 F1084) μ1091 u1092 T1093).1 h1094)
    have h1096 : 0 ≤ z1080 ∧ z1080 ≤ 0 := (vc_X12_ring_22 h1094 h1081)
    refine sv_aload_n (pc := 132) dX12_say_132 rfl rfl ?_
    refine mr_iconst (pc := 133) (z := 2) dX12_say_133 ?_
    refine mr_cVV (pc := 134) (c_X12_nothing_W hw T1093 (rW (c := 0) (d := 2099) (rR (x := 2)) rfl) (((W1090 h1081 T1083 F1084) μ1091 u1092 T1093).2 h1094)) (gOk _ _ _ _ _) dX12_say_134 (tX12_nothing _ _ _ _ _) ⟨wV_X12_nothing, wL_X12_nothing⟩ wM_X12_539 (gCX12 _ _ _ _ _) rfl (A_106 hw) rfl ⟨le_t rfl, le_t rfl⟩ ⟨le_t rfl, le_t rfl⟩ rfl (le_t rfl) fun μ1097 T1098 F1099 h1100 => ?_
    obtain ⟨z1101, q1102, h1103⟩ := h1100
    have h1104 := rt7 T1098 (A_126 hw) vc_X12_say_W_3 q1102
    have h1105 : (-1) ≤ z1101 ∧ z1101 ≤ 9 := h1104.2.1 vc_X12_say_W_4
    have q1106 : μ1097 126 (((40 * 2) : Int).toNat) = (-1) := q1102.trans h1103.2.1
    have h1107 : (-1) ≤ z1101 ∧ z1101 ≤ (-1) := (vc_X12_candidate_4 h1103.2.1 h1105)
    refine mr_lvS (lv' := [(0, .ref 106), (2, iv p2), (5, iv z761)]) (List.forall_mem_cons.mpr ⟨rfl, List.forall_mem_cons.mpr ⟨rfl, List.forall_mem_cons.mpr ⟨rfl, fun _ h => absurd h List.not_mem_nil⟩⟩⟩) ?_
    exact J863 μ1097 T1098 (mF.call (mF.up (mF.call (mF.call (mF.up (mF.call mF.refl F1037 rfl) (A_126 hw) u1046 rfl) F1050 rfl) F1084 rfl) (A_126 hw) u1092 rfl) F1099 rfl) (mG.call (mG.up (mG.call (mG.call (mG.up (mG.call mG.refl h1041.1 (List.forall_mem_cons.mpr ⟨⟨_, List.mem_cons_self, vc_X12_say_W_44⟩, (fun _ h => absurd h List.not_mem_nil)⟩)) u1046 List.mem_cons_self vc_X12_say_W_45) h1051.2.1 (List.forall_mem_cons.mpr ⟨⟨_, List.mem_cons_self, vc_X12_say_W_46⟩, (fun _ h => absurd h List.not_mem_nil)⟩)) G1085 (List.forall_mem_cons.mpr ⟨⟨_, List.mem_cons_self, vc_X12_say_W_24⟩, (List.forall_mem_cons.mpr ⟨⟨_, (List.mem_cons_of_mem _ List.mem_cons_self), vc_X12_say_W_25⟩, (fun _ h => absurd h List.not_mem_nil)⟩)⟩)) u1092 List.mem_cons_self vc_X12_say_W_45) h1103.1 (List.forall_mem_cons.mpr ⟨⟨_, List.mem_cons_self, vc_X12_say_W_23⟩, (fun _ h => absurd h List.not_mem_nil)⟩)) (G1.keep I1086 hw ((mF.call (mF.up mF.refl (A_126 hw) u1092 rfl) F1099 rfl) : mF [126999] w μ1082 μ1097) rfl rfl ((mG.call (mG.up mG.refl u1092 List.mem_cons_self vc_X12_say_W_47) h1103.1 (List.forall_mem_cons.mpr ⟨⟨_, (List.mem_cons_of_mem _ List.mem_cons_self), vc_X12_say_W_9⟩, (fun _ h => absurd h List.not_mem_nil)⟩)) : mG [(81, (81 + 1)), ((40 * 2), ((40 * 2) + 1))] μ1082 μ1097) (List.forall_mem_cons.mpr ⟨vc_X12_say_W_48, (List.forall_mem_cons.mpr ⟨vc_X12_say_W_10, (fun _ h => absurd h List.not_mem_nil)⟩)⟩)) (EV.keep I1087 hw ((mF.call (mF.up mF.refl (A_126 hw) u1092 rfl) F1099 rfl) : mF [126999] w μ1082 μ1097) rfl) (PK.keep I1088 hw ((mF.call (mF.up mF.refl (A_126 hw) u1092 rfl) F1099 rfl) : mF [126999] w μ1082 μ1097) rfl) ((h1103.2.2.1 T1098 F1099) z1101 q1102)
  refine mr_if_eq (pc := 78) (tgt := 115) dX12_say_78 (by decide) (r32 h1051.1 rfl) (fun h1108 => ?_) (fun h1108 => ?_)
  · have h1109 : 0 ≤ z1052 ∧ z1052 ≤ 0 := (vc_X12_ring_22 h1108 h1051.1)
    refine mr_iconst (pc := 115) (z := 0) dX12_say_115 ?_
    refine mr_lvS (lv' := [(0, .ref 106), (2, iv p2), (5, iv z761)]) (List.forall_mem_cons.mpr ⟨rfl, List.forall_mem_cons.mpr ⟨rfl, List.forall_mem_cons.mpr ⟨rfl, fun _ h => absurd h List.not_mem_nil⟩⟩⟩) ?_
    exact J1089 0 μ1048 T1049 mF.refl mG.refl (rW (c := 0) (d := 1) (rR (x := 0)) rfl) (G1.keep hIG1 hw ((mF.call (mF.up (mF.call (mF.call mF.refl F765 rfl) F1037 rfl) (A_126 hw) u1046 rfl) F1050 rfl) : mF [126999] w μ μ1048) rfl rfl ((mG.call (mG.up (mG.call (mG.call mG.refl h769.1 (List.forall_mem_cons.mpr ⟨⟨_, List.mem_cons_self, vc_X12_say_W_9⟩, (fun _ h => absurd h List.not_mem_nil)⟩)) h1041.1 (List.forall_mem_cons.mpr ⟨⟨_, (List.mem_cons_of_mem _ List.mem_cons_self), vc_X12_say_W_52⟩, (fun _ h => absurd h List.not_mem_nil)⟩)) u1046 (List.mem_cons_of_mem _ List.mem_cons_self) vc_X12_say_W_53) h1051.2.1 (List.forall_mem_cons.mpr ⟨⟨_, (List.mem_cons_of_mem _ List.mem_cons_self), vc_X12_say_W_54⟩, (fun _ h => absurd h List.not_mem_nil)⟩)) : mG [((40 * 2), ((40 * 2) + 1)), ((40 * 2), ((40 * 2) + 40)), (81, (81 + 1)), (((40 * 2) + 1), ((40 * 2) + 40))] μ μ1048) (List.forall_mem_cons.mpr ⟨vc_X12_say_W_10, (List.forall_mem_cons.mpr ⟨vc_X12_say_W_56, (List.forall_mem_cons.mpr ⟨vc_X12_say_W_48, (List.forall_mem_cons.mpr ⟨vc_X12_say_W_55, (fun _ h => absurd h List.not_mem_nil)⟩)⟩)⟩)⟩)) (EV.keep hIEV hw ((mF.call (mF.up (mF.call (mF.call mF.refl F765 rfl) F1037 rfl) (A_126 hw) u1046 rfl) F1050 rfl) : mF [126999] w μ μ1048) rfl) (PK.keep hIPK hw ((mF.call (mF.up (mF.call (mF.call mF.refl F765 rfl) F1037 rfl) (A_126 hw) u1046 rfl) F1050 rfl) : mF [126999] w μ μ1048) rfl) (((h1051.2.2.1 T1049 F1050) h1051.1).1 h1108)
  have h1110 : 1 ≤ z1052 ∧ z1052 ≤ 1 := (vc_X12_ring_24 h1108 h1051.1)
  refine sv_aload_n (pc := 81) dX12_say_81 rfl rfl ?_
  refine sv_aload_n (pc := 82) dX12_say_82 rfl rfl ?_
  refine gf_X12_12 (pc := 83) dX12_say_83 wF_X12_63 (A_106 hw) T1049 ?_
  refine mr_iconst (pc := 86) (z := 4) dX12_say_86 ?_
  refine mr_iload_n (pc := 87) (z := p2) dX12_say_87 rfl rfl ?_
  refine mr_imul (pc := 88) (x := 4) (y := p2) dX12_say_88 ?_
  refine mr_iconst (pc := 89) (z := 2) dX12_say_89 ?_
  refine mr_iload (pc := 90) (z := z756) dX12_say_90 rfl ?_
  refine mr_imul (pc := 92) (x := 2) (y := z756) dX12_say_92 ?_
  refine mr_iadd (pc := 93) (x := (4 * p2)) (y := (2 * z756)) dX12_say_93 ?_
  refine mr_iconst (pc := 94) (z := 1) dX12_say_94 ?_
  refine mr_iadd (pc := 95) (x := ((4 * p2) + (2 * z756))) (y := 1) dX12_say_95 ?_
  refine la_115 (pc := 96) dX12_say_96 (A_115 hw) T1049 (rIx (n := 80) (rAdd (e := 1) (f := 79) (rAdd (e := 0) (f := 78) (rMulL (n := 4) (e := 0) (f := 76) hp2 rfl) (rMulL (n := 2) (e := 0) (f := 2) h755.1 rfl) rfl) (rR (x := 1)) rfl) rfl) fun z1111 q1112 h1113 => ?_
  have h1114 : (-99999999) ≤ z1111 ∧ z1111 ≤ 11 := (vc_X12_candidate_19 h1113)
  obtain ⟨z1115, q1116⟩ : ∃ z, μ1048 106 39 = z := ⟨_, rfl⟩
  have h1117 : (0 ≤ z1115 ∧ z1115 ≤ 12) := by rw [← q1116]; exact T1049 106 106 (A_106 hw) 39
  have h1118 : z1111 = -99999999 ∨ (0 ≤ z1111 ∧ z1111 < z1115) := PK.pol (PK.keep hIPK hw ((mF.call (mF.up (mF.call (mF.call mF.refl F765 rfl) F1037 rfl) (A_126 hw) u1046 rfl) F1050 rfl) : mF [126999] w μ μ1048) rfl) (rIx (n := 80) (rAdd (e := 1) (f := 79) (rAdd (e := 0) (f := 78) (rMulL (n := 4) (e := 0) (f := 76) hp2 rfl) (rMulL (n := 2) (e := 0) (f := 2) h755.1 rfl) rfl) (rR (x := 1)) rfl) rfl) q1112 q1116 (F1050.f (A_106 hw) rfl (u1046.f (Or.inl (mAt.ne (A_126 hw) (A_106 hw) rfl)) (F1037.f (A_106 hw) rfl (F765.f (A_106 hw) rfl q_f_ties)))) (vc_X12_say_W_59 hq0 h755.2.1 h755.2.2.1 h760.2.1 h1033 hq1 h782 h1030 ht_f_e0 ht_f_e1 h1 hp1 hp2 hp3 h755.1 h762 h1032 h776 h781)
  refine mr_iconst (pc := 97) (z := 2) dX12_say_97 ?_
  refine mr_iload_n (pc := 98) (z := p1) dX12_say_98 rfl rfl ?_
  refine sv_aload_n (pc := 99) dX12_say_99 rfl rfl ?_
  refine mr_iload_n (pc := 100) (z := p2) dX12_say_100 rfl rfl ?_
  refine mr_iload_n (pc := 101) (z := p1) dX12_say_101 rfl rfl ?_
  refine mr_cVP (pc := 102) (c_X12_partnerOf_Wpt hw T1049 hp2 (rW (c := (-2147483648)) (d := 2147483647) hp1 rfl) (F1050.f (A_110 hw) rfl (u1046.f (Or.inl (mAt.ne (A_126 hw) (A_110 hw) rfl)) (F1037.f (A_110 hw) rfl (F765.f (A_110 hw) rfl q_f_e0)))) (F1050.f (A_110 hw) rfl (u1046.f (Or.inl (mAt.ne (A_126 hw) (A_110 hw) rfl)) (F1037.f (A_110 hw) rfl (F765.f (A_110 hw) rfl q_f_e1)))) (((((h1051.2.2.1 T1049 F1050) h1051.1).2 h1108) z1111 q1112 h1113) z1115 q1116 h1117)) (gOk _ _ _ _ _) dX12_say_102 (tX12_partnerOf _ _ _ _ _) ⟨wV_X12_partnerOf, wL_X12_partnerOf⟩ wM_X12_553 (gCX12 _ _ _ _ _) rfl (A_106 hw) rfl ⟨le_t rfl, le_t rfl⟩ ⟨le_t rfl, le_t rfl⟩ rfl (le_t rfl) fun z1123 h1122 => ?_
  refine mr_cVI (pc := 105) (c_X12_through_W hw T1049 (rW (c := (-2147483648)) (d := 2147483647) h1114 rfl) (rW (c := 0) (d := 2099) (rR (x := 2)) rfl) (rW (c := (-2147483648)) (d := 2147483647) hp1 rfl) (rW (c := (-2147483648)) (d := 2147483647) h1122.1 rfl) hp2 (F1050.f (A_110 hw) rfl (u1046.f (Or.inl (mAt.ne (A_126 hw) (A_110 hw) rfl)) (F1037.f (A_110 hw) rfl (F765.f (A_110 hw) rfl q_f_e0)))) (F1050.f (A_110 hw) rfl (u1046.f (Or.inl (mAt.ne (A_126 hw) (A_110 hw) rfl)) (F1037.f (A_110 hw) rfl (F765.f (A_110 hw) rfl q_f_e1)))) (F1050.f (A_106 hw) rfl (u1046.f (Or.inl (mAt.ne (A_126 hw) (A_106 hw) rfl)) (F1037.f (A_106 hw) rfl (F765.f (A_106 hw) rfl q_f_ties)))) (h1051.2.1.f vc_X12_say_W_3 (List.forall_mem_cons.mpr ⟨vc_X12_say_W_61, (fun _ h => absurd h List.not_mem_nil)⟩) (u1046.f (Or.inr vc_X12_say_W_60) q1044)) q1116 (vc_X12_say_W_62 hq0 h760.2.1 h1033 h755.2.1 h755.2.2.1 h782 h1030 ht_f_e0 h1 hp1 hp2 hp3 h755.1 h762 h1032 h776 h781) (vc_X12_say_W_63 hq1 h755.2.1 h755.2.2.1 h1122.2.1 h760.2.1 ht_f_e0 ht_f_e1 hp1 hp2 hp3 h1122.1 h755.1 h762) (vc_X12_say_W_64 h782 h1041.2.1 h1030 h1033 hp2 h1043 h1032 h776 h781) (vc_X12_candidate_24 h1118 h1114 h1113 h1117) (PK.keep hIPK hw ((mF.call (mF.up (mF.call (mF.call mF.refl F765 rfl) F1037 rfl) (A_126 hw) u1046 rfl) F1050 rfl) : mF [126999] w μ μ1048) rfl) (h1122.2.2.1 h1122.1)) (gOk _ _ _ _ _) dX12_say_105 (tX12_through _ _ _ _ _) ⟨wV_X12_through, wL_X12_through⟩ wM_X12_414 (gCX12 _ _ _ _ _) rfl (A_106 hw) rfl ⟨le_t rfl, le_t rfl⟩ ⟨le_t rfl, le_t rfl⟩ rfl (le_t rfl) fun z1128 μ1124 T1125 F1126 h1127 => ?_
  obtain ⟨z1129, q1130, h1131⟩ := h1127
  have h1132 := rt7 T1125 (A_126 hw) vc_X12_say_W_3 q1130
  have h1133 : (-1) ≤ z1129 ∧ z1129 ≤ 9 := h1132.2.1 vc_X12_say_W_4
  have q1134 : μ1124 126 (((40 * 2) : Int).toNat) = z778 := q1130.trans h1131.2.2.1
  refine mr_if_eq (pc := 108) (tgt := 115) dX12_say_108 (by decide) (r32 h1131.1 rfl) (fun h1135 => ?_) (fun h1135 => ?_)
  · have h1136 : 0 ≤ z1128 ∧ z1128 ≤ 0 := (vc_X12_ring_22 h1135 h1131.1)
    refine mr_iconst (pc := 115) (z := 0) dX12_say_115 ?_
    refine mr_lvS (lv' := [(0, .ref 106), (2, iv p2), (5, iv z761)]) (List.forall_mem_cons.mpr ⟨rfl, List.forall_mem_cons.mpr ⟨rfl, List.forall_mem_cons.mpr ⟨rfl, fun _ h => absurd h List.not_mem_nil⟩⟩⟩) ?_
    exact J1089 0 μ1124 T1125 (mF.call mF.refl F1126 rfl) (mG.call mG.refl h1131.2.1 (List.forall_mem_cons.mpr ⟨⟨_, List.mem_cons_self, vc_X12_say_W_46⟩, (fun _ h => absurd h List.not_mem_nil)⟩)) (rW (c := 0) (d := 1) (rR (x := 0)) rfl) (G1.keep hIG1 hw ((mF.call (mF.call (mF.up (mF.call (mF.call mF.refl F765 rfl) F1037 rfl) (A_126 hw) u1046 rfl) F1050 rfl) F1126 rfl) : mF [106026, 106027, 106028, 106029, 106030, 106031, 126999, 151999, 152999, 153999] w μ μ1124) rfl rfl ((mG.call (mG.call (mG.up (mG.call (mG.call mG.refl h769.1 (List.forall_mem_cons.mpr ⟨⟨_, List.mem_cons_self, vc_X12_say_W_9⟩, (fun _ h => absurd h List.not_mem_nil)⟩)) h1041.1 (List.forall_mem_cons.mpr ⟨⟨_, (List.mem_cons_of_mem _ List.mem_cons_self), vc_X12_say_W_52⟩, (fun _ h => absurd h List.not_mem_nil)⟩)) u1046 (List.mem_cons_of_mem _ List.mem_cons_self) vc_X12_say_W_53) h1051.2.1 (List.forall_mem_cons.mpr ⟨⟨_, (List.mem_cons_of_mem _ List.mem_cons_self), vc_X12_say_W_54⟩, (fun _ h => absurd h List.not_mem_nil)⟩)) h1131.2.1 (List.forall_mem_cons.mpr ⟨⟨_, (List.mem_cons_of_mem _ List.mem_cons_self), vc_X12_say_W_54⟩, (fun _ h => absurd h List.not_mem_nil)⟩)) : mG [((40 * 2), ((40 * 2) + 1)), ((40 * 2), ((40 * 2) + 40)), (81, (81 + 1)), (((40 * 2) + 1), ((40 * 2) + 40))] μ μ1124) (List.forall_mem_cons.mpr ⟨vc_X12_say_W_10, (List.forall_mem_cons.mpr ⟨vc_X12_say_W_56, (List.forall_mem_cons.mpr ⟨vc_X12_say_W_48, (List.forall_mem_cons.mpr ⟨vc_X12_say_W_55, (fun _ h => absurd h List.not_mem_nil)⟩)⟩)⟩)⟩)) (EV.keep hIEV hw ((mF.call (mF.call (mF.up (mF.call (mF.call mF.refl F765 rfl) F1037 rfl) (A_126 hw) u1046 rfl) F1050 rfl) F1126 rfl) : mF [106026, 106027, 106028, 106029, 106030, 106031, 126999, 151999, 152999, 153999] w μ μ1124) rfl) (PK.keep hIPK hw ((mF.call (mF.call (mF.up (mF.call (mF.call mF.refl F765 rfl) F1037 rfl) (A_126 hw) u1046 rfl) F1050 rfl) F1126 rfl) : mF [106026, 106027, 106028, 106029, 106030, 106031, 126999, 151999, 152999, 153999] w μ μ1124) rfl) ((((h1131.2.2.2.1 T1125 F1126) h1131.1) z1129 q1130).1 h1135)
  have h1137 : 1 ≤ z1128 ∧ z1128 ≤ 1 := (vc_X12_ring_24 h1135 h1131.1)
  refine mr_iconst (pc := 111) (z := 1) dX12_say_111 ?_
  refine sv_goto (pc := 112) (tgt := 116) dX12_say_112 (by decide) ?_
  refine mr_lvS (lv' := [(0, .ref 106), (2, iv p2), (5, iv z761)]) (List.forall_mem_cons.mpr ⟨rfl, List.forall_mem_cons.mpr ⟨rfl, List.forall_mem_cons.mpr ⟨rfl, fun _ h => absurd h List.not_mem_nil⟩⟩⟩) ?_
  exact J1089 1 μ1124 T1125 (mF.call mF.refl F1126 rfl) (mG.call mG.refl h1131.2.1 (List.forall_mem_cons.mpr ⟨⟨_, List.mem_cons_self, vc_X12_say_W_46⟩, (fun _ h => absurd h List.not_mem_nil)⟩)) (rW (c := 0) (d := 1) (rR (x := 1)) rfl) (G1.keep hIG1 hw ((mF.call (mF.call (mF.up (mF.call (mF.call mF.refl F765 rfl) F1037 rfl) (A_126 hw) u1046 rfl) F1050 rfl) F1126 rfl) : mF [106026, 106027, 106028, 106029, 106030, 106031, 126999, 151999, 152999, 153999] w μ μ1124) rfl rfl ((mG.call (mG.call (mG.up (mG.call (mG.call mG.refl h769.1 (List.forall_mem_cons.mpr ⟨⟨_, List.mem_cons_self, vc_X12_say_W_9⟩, (fun _ h => absurd h List.not_mem_nil)⟩)) h1041.1 (List.forall_mem_cons.mpr ⟨⟨_, (List.mem_cons_of_mem _ List.mem_cons_self), vc_X12_say_W_52⟩, (fun _ h => absurd h List.not_mem_nil)⟩)) u1046 (List.mem_cons_of_mem _ List.mem_cons_self) vc_X12_say_W_53) h1051.2.1 (List.forall_mem_cons.mpr ⟨⟨_, (List.mem_cons_of_mem _ List.mem_cons_self), vc_X12_say_W_54⟩, (fun _ h => absurd h List.not_mem_nil)⟩)) h1131.2.1 (List.forall_mem_cons.mpr ⟨⟨_, (List.mem_cons_of_mem _ List.mem_cons_self), vc_X12_say_W_54⟩, (fun _ h => absurd h List.not_mem_nil)⟩)) : mG [((40 * 2), ((40 * 2) + 1)), ((40 * 2), ((40 * 2) + 40)), (81, (81 + 1)), (((40 * 2) + 1), ((40 * 2) + 40))] μ μ1124) (List.forall_mem_cons.mpr ⟨vc_X12_say_W_10, (List.forall_mem_cons.mpr ⟨vc_X12_say_W_56, (List.forall_mem_cons.mpr ⟨vc_X12_say_W_48, (List.forall_mem_cons.mpr ⟨vc_X12_say_W_55, (fun _ h => absurd h List.not_mem_nil)⟩)⟩)⟩)⟩)) (EV.keep hIEV hw ((mF.call (mF.call (mF.up (mF.call (mF.call mF.refl F765 rfl) F1037 rfl) (A_126 hw) u1046 rfl) F1050 rfl) F1126 rfl) : mF [106026, 106027, 106028, 106029, 106030, 106031, 126999, 151999, 152999, 153999] w μ μ1124) rfl) (PK.keep hIPK hw ((mF.call (mF.call (mF.up (mF.call (mF.call mF.refl F765 rfl) F1037 rfl) (A_126 hw) u1046 rfl) F1050 rfl) F1126 rfl) : mF [106026, 106027, 106028, 106029, 106030, 106031, 126999, 151999, 152999, 153999] w μ μ1124) rfl) ((((h1131.2.2.2.1 T1125 F1126) h1131.1) z1129 q1130).2 h1135)
def WL_X12_look_W_2 (w : mW) (p1 : Int) (p2 : Int) (Q : mM → Prop) (μ86 : mM) (rec2 : (Int × mM) → Prop) (s : (Int × mM)) : Prop := ∀ z531 : Int, ∀ μ532 : mM, s = (z531, μ532) → (0 ≤ z531 ∧ z531 ≤ 20) → mT w μ532 → mF [106026, 106027, 106028, 106029, 106030, 106031, 106072, 126999, 151999, 152999, 153999, 155999, 156999, 157999, 158999, 159999, 160999] w μ86 μ532 → ∀ z544 : Int, μ532 106 6 = z544 → (0 ≤ z544 ∧ z544 ≤ 20) → ((z544 ≤ z531) → Q μ532) ∧ ((z531 < z544) → ∀ z576 : Int, μ532 110 ((2 * z531).toNat) = z576 → (0 ≤ z576 ∧ z576 ≤ 9) → ∀ z579 : Int, μ532 110 (((2 * z531) + 1).toNat) = z579 → (0 ≤ z579 ∧ z579 ≤ 9) → WP_X12_isAt_W w μ532 z531 p1 (fun z586 _ => (0 ≤ z586 ∧ z586 ≤ 1) → ((z586 = 0) → rec2 ((z531 + 1), μ532)) ∧ ((¬ z586 = 0) → ∀ z605 : Int, μ532 112 (z531.toNat) = z605 → (0 ≤ z605 ∧ z605 ≤ 1) → ((z605 = 0) → rec2 ((z531 + 1), μ532)) ∧ ((¬ z605 = 0) → WP_X12_say_W w μ532 p1 z531 p2 (fun μ617 => mT w μ617 → mF [106026, 106027, 106028, 106029, 106030, 106031, 106072, 126999, 151999, 152999, 153999, 155999, 156999, 157999, 158999, 159999, 160999] w μ532 μ617 → rec2 ((z531 + 1), μ617))))))
def WL_X12_look_W_3 (w : mW) (p1 : Int) (p2 : Int) (Q : mM → Prop) (μ631 : mM) (rec3 : (Int × mM) → Prop) (s : (Int × mM)) : Prop := ∀ z1076 : Int, ∀ μ1077 : mM, s = (z1076, μ1077) → (0 ≤ z1076 ∧ z1076 ≤ 20) → mT w μ1077 → mF [106026, 106027, 106028, 106029, 106030, 106031, 106072, 126999, 151999, 152999, 153999, 155999, 156999, 157999, 158999, 159999, 160999] w μ631 μ1077 → ∀ z1089 : Int, μ1077 106 6 = z1089 → (0 ≤ z1089 ∧ z1089 ≤ 20) → ((z1089 ≤ z1076) → Q μ1077) ∧ ((z1076 < z1089) → ∀ z1121 : Int, μ1077 110 ((2 * z1076).toNat) = z1121 → (0 ≤ z1121 ∧ z1121 ≤ 9) → ∀ z1124 : Int, μ1077 110 (((2 * z1076) + 1).toNat) = z1124 → (0 ≤ z1124 ∧ z1124 ≤ 9) → WP_X12_isAt_W w μ1077 z1076 p1 (fun z1131 _ => (0 ≤ z1131 ∧ z1131 ≤ 1) → ((z1131 = 0) → rec3 ((z1076 + 1), μ1077)) ∧ ((¬ z1131 = 0) → ∀ z1151 : Int, μ1077 112 (z1076.toNat) = z1151 → (0 ≤ z1151 ∧ z1151 ≤ 1) → ((z1151 = 0) → rec3 ((z1076 + 1), μ1077)) ∧ ((¬ z1151 = 0) → WP_X12_say_W w μ1077 p1 z1076 p2 (fun μ1163 => mT w μ1163 → mF [106026, 106027, 106028, 106029, 106030, 106031, 106072, 126999, 151999, 152999, 153999, 155999, 156999, 157999, 158999, 159999, 160999] w μ1077 μ1163 → rec3 ((z1076 + 1), μ1163))))))
def WJ_X12_look_W_1 (w : mW) (μ : mM) (p1 : Int) (p2 : Int) (Q : mM → Prop) (z60 : Int) (μ63 : mM) : Prop := ((-99999999) ≤ z60 ∧ z60 ≤ 19) → mT w μ63 → mF [106026, 106027, 106028, 106029, 106030, 106031, 126999, 151999, 152999, 153999, 165999] w μ μ63 → ∀ z73 : Int, μ63 126 ((120 : Int).toNat) = z73 → ((-2147483648 ≤ z73 ∧ z73 ≤ 2147483647) ∧ ((120 : Int) % 40 = 0 → -1 ≤ z73 ∧ z73 ≤ 9) ∧ ((120 : Int) % 40 = 4 → 0 ≤ z73 ∧ z73 ≤ 20) ∧ ((120 : Int) % 40 = 5 → 0 ≤ z73 ∧ z73 ≤ 8)) → ∀ z78 : Int, μ63 161 (((10 * p1) + p2).toNat) = z78 → (z78 = -99999999 ∨ z78 = -4 ∨ (0 ≤ z78 ∧ z78 ≤ 19)) → ((¬ z60 = z78) → ∀ μ83 : mM, mU μ63 161 (((10 * p1) + p2).toNat) z60 μ83 → mT w μ83 → WP_X12_copy_W w μ83 (3) (30 + ((10 * p1) + p2)) (fun μ86 => mT w μ86 → mF [126999] w μ83 μ86 → ∀ z90 : Int, μ86 126 ((40 * (30 + ((10 * p1) + p2))).toNat) = z90 → loopF (WL_X12_look_W_2 w p1 p2 Q μ86) False 22 ((0 : Int), μ86))) ∧ ((z60 = z78) → WP_X12_same_W w μ63 (3) (30 + ((10 * p1) + p2)) (fun z625 _ => (0 ≤ z625 ∧ z625 ≤ 1) → ((z625 = 0) → ∀ μ628 : mM, mU μ63 161 (((10 * p1) + p2).toNat) z60 μ628 → mT w μ628 → WP_X12_copy_W w μ628 (3) (30 + ((10 * p1) + p2)) (fun μ631 => mT w μ631 → mF [126999] w μ628 μ631 → ∀ z635 : Int, μ631 126 ((40 * (30 + ((10 * p1) + p2))).toNat) = z635 → loopF (WL_X12_look_W_3 w p1 p2 Q μ631) False 22 ((0 : Int), μ631))) ∧ ((¬ z625 = 0) → Q μ63)))
def WP_X12_look_W (w : mW) (μ : mM) (p1 : Int) (p2 : Int) (Q : mM → Prop) : Prop := ∀ z1 : Int, μ 162 (((10 * p1) + p2).toNat) = z1 → ((-1) ≤ z1 ∧ z1 ≤ 2) → ((z1 < 0) → ∀ z1170 : Int, μ 106 6 = z1170 → (0 ≤ z1170 ∧ z1170 ≤ 20) → WP_X12_pick_W w μ p1 p2 (fun z1177 μ1173 => mT w μ1173 → mF [106026, 106027, 106028, 106029, 106030, 106031, 126999, 151999, 152999, 153999, 165999] w μ μ1173 → ((-99999999) ≤ z1177 ∧ z1177 ≤ 19) → ((¬ z1177 = (-99999999)) → ∀ z1180 : Int, μ1173 126 ((40 * (4 + z1177)).toNat) = z1180 → ((-2147483648 ≤ z1180 ∧ z1180 ≤ 2147483647) ∧ ((40 * (4 + z1177)) % 40 = 0 → -1 ≤ z1180 ∧ z1180 ≤ 9) ∧ ((40 * (4 + z1177)) % 40 = 4 → 0 ≤ z1180 ∧ z1180 ≤ 20) ∧ ((40 * (4 + z1177)) % 40 = 5 → 0 ≤ z1180 ∧ z1180 ≤ 8)) → WP_X12_copy_W w μ1173 (4 + z1177) (3) (fun μ1186 => mT w μ1186 → mF [126999] w μ1173 μ1186 → ∀ z1190 : Int, μ1186 126 (((40 * 3) : Int).toNat) = z1190 → (WJ_X12_look_W_1 w μ p1 p2 Q) z1177 μ1186)) ∧ ((z1177 = (-99999999)) → WP_X12_nothing_W w μ1173 (3) (fun μ1198 => mT w μ1198 → mF [126999] w μ1173 μ1198 → ∀ z1202 : Int, μ1198 126 (((40 * 3) : Int).toNat) = z1202 → (WJ_X12_look_W_1 w μ p1 p2 Q) z1177 μ1198)))) ∧ ((0 ≤ z1) → ∀ μ1210 : mM, mU μ 126 ((120 : Int).toNat) p2 μ1210 → mT w μ1210 → ∀ μ1213 : mM, mU μ1210 126 (((120 + 1) : Int).toNat) (100 : Int) μ1213 → mT w μ1213 → ∀ μ1216 : mM, mU μ1213 126 (((120 + 2) : Int).toNat) z1 μ1216 → mT w μ1216 → ∀ μ1219 : mM, mU μ1216 126 (((120 + 3) : Int).toNat) (0 : Int) μ1219 → mT w μ1219 → ∀ μ1222 : mM, mU μ1219 126 (((120 + 4) : Int).toNat) (0 : Int) μ1222 → mT w μ1222 → ∀ μ1225 : mM, mU μ1222 126 (((120 + 5) : Int).toNat) (0 : Int) μ1225 → mT w μ1225 → (WJ_X12_look_W_1 w μ p1 p2 Q) ((-4) : Int) μ1225)
theorem vc_X12_look_W_1  : (0 : Int) ≤ (120 : Int) := by omega
theorem vc_X12_look_W_2  : ((120 : Int) : Int) % (40 : Int) = (0 : Int) := by omega
theorem vc_X12_look_W_4 {z60 z73 z78 : Int} (h0 : z60 = -99999999 ∨ 0 ≤ z73) (h1 : ¬ z60 = z78) (h2 : (-99999999) ≤ z60 ∧ z60 ≤ 19) (h3 : z60 = (-99999999) ∨ z60 = (-4) ∨ (0 ≤ z60 ∧ z60 ≤ 19)) (h4 : (-1) ≤ z73 ∧ z73 ≤ 9) (h5 : (-99999999) ≤ z78 ∧ z78 ≤ 19) (h6 : z78 = -99999999 ∨ z78 = -4 ∨ (0 ≤ z78 ∧ z78 ≤ 19)) : z60 = -99999999 ∨ z60 = -4 ∨ (0 ≤ z60 ∧ z60 ≤ 19) := by omega
theorem vc_X12_look_W_5  : ((40 : Int) * (3 : Int)) = (120 : Int) := by omega
theorem vc_X12_look_W_6 {p1 p2 : Int} (h0 : 0 ≤ p1 ∧ p1 ≤ 9) (h1 : 0 ≤ p2 ∧ p2 ≤ 9) : (3 : Int) < (30 + ((10 * p1) + p2)) ∨ (30 + ((10 * p1) + p2)) < (3 : Int) := by omega
theorem vc_X12_look_W_7 {p1 p2 : Int} (h0 : 0 ≤ p1 ∧ p1 ≤ 9) (h1 : 0 ≤ p2 ∧ p2 ≤ 9) : 0 ≤ (40 * (30 + ((10 * p1) + p2))) := by omega
theorem vc_X12_look_W_8 {p1 p2 : Int} (h0 : 0 ≤ p1 ∧ p1 ≤ 9) (h1 : 0 ≤ p2 ∧ p2 ≤ 9) : (40 * (30 + ((10 * p1) + p2))) % 40 = 0 := by omega
theorem vc_X12_look_W_9 {z60 z73 z78 z90 : Int} (h0 : z60 = -99999999 ∨ 0 ≤ z73) (h1 : ¬ z60 = z78) (h2 : z90 = z73) (h3 : (-99999999) ≤ z60 ∧ z60 ≤ 19) (h4 : z60 = (-99999999) ∨ z60 = (-4) ∨ (0 ≤ z60 ∧ z60 ≤ 19)) (h5 : (-1) ≤ z73 ∧ z73 ≤ 9) (h6 : (-99999999) ≤ z78 ∧ z78 ≤ 19) (h7 : z78 = -99999999 ∨ z78 = -4 ∨ (0 ≤ z78 ∧ z78 ≤ 19)) (h8 : (-1) ≤ z90 ∧ z90 ≤ 9) : z60 = -99999999 ∨ 0 ≤ z73 := by omega
theorem vc_X12_look_W_10 {p1 p2 : Int} (h0 : 0 ≤ p1 ∧ p1 ≤ 9) (h1 : 0 ≤ p2 ∧ p2 ≤ 9) : (40 * (30 + ((10 * p1) + p2))) = 1200 + 40 * ((10 * p1) + p2) := by omega
theorem vc_X12_look_W_12  : (80 : Int) ≤ (80 : Int) ∧ (960 : Int) ≤ (960 : Int) := by omega
theorem vc_X12_look_W_13 {p1 p2 : Int} (h0 : 0 ≤ p1 ∧ p1 ≤ 9) (h1 : 0 ≤ p2 ∧ p2 ≤ 9) : (40 * (30 + ((10 * p1) + p2))) ≤ (40 * (30 + ((10 * p1) + p2))) ∧ ((40 * (30 + ((10 * p1) + p2))) + 40) ≤ ((40 * (30 + ((10 * p1) + p2))) + 40) := by omega
theorem vc_X12_look_W_20 {p1 p2 z576 z579 z586 : Int} (h0 : (z586 = 1 → z576 = p1 ∨ z579 = p1)) (h1 : (z586 = 0 → ¬ z576 = p1 ∧ ¬ z579 = p1)) (h2 : ¬ z576 = p1 ∧ ¬ z579 = p1) (h3 : z586 = 0) (h4 : 0 ≤ p1 ∧ p1 ≤ 9) (h5 : 0 ≤ p2 ∧ p2 ≤ 9) (h6 : 0 ≤ z576 ∧ z576 ≤ 9) (h7 : 0 ≤ z579 ∧ z579 ≤ 9) (h8 : 0 ≤ z586 ∧ z586 ≤ 0) : (40 * (30 + ((10 * p1) + p2))) ≤ (40 * (30 + ((10 * p1) + p2))) ∧ ((40 * (30 + ((10 * p1) + p2))) + 40) ≤ ((40 * (30 + ((10 * p1) + p2))) + 40) := by omega
theorem vc_X12_look_W_24 {p1 p2 z576 z579 z586 : Int} (h0 : (z586 = 1 → z576 = p1 ∨ z579 = p1)) (h1 : (z586 = 0 → ¬ z576 = p1 ∧ ¬ z579 = p1)) (h2 : z576 = p1 ∨ z579 = p1) (h3 : ¬ z586 = 0) (h4 : 0 ≤ p1 ∧ p1 ≤ 9) (h5 : 0 ≤ p2 ∧ p2 ≤ 9) (h6 : 0 ≤ z576 ∧ z576 ≤ 9) (h7 : 0 ≤ z579 ∧ z579 ≤ 9) (h8 : 1 ≤ z586 ∧ z586 ≤ 1) : (40 * (30 + ((10 * p1) + p2))) ≤ (40 * (30 + ((10 * p1) + p2))) ∧ ((40 * (30 + ((10 * p1) + p2))) + 40) ≤ ((40 * (30 + ((10 * p1) + p2))) + 40) := by omega
theorem vc_X12_look_W_28  : (80 : Int) ≤ (80 : Int) ∧ (120 : Int) ≤ (960 : Int) := by omega
theorem vc_X12_look_W_31 {z60 z73 z78 : Int} (h0 : z60 = -99999999 ∨ 0 ≤ z73) (h1 : z60 = z78) (h2 : (-99999999) ≤ z60 ∧ z60 ≤ 19) (h3 : z60 = (-99999999) ∨ z60 = (-4) ∨ (0 ≤ z60 ∧ z60 ≤ 19)) (h4 : (-1) ≤ z73 ∧ z73 ≤ 9) (h5 : (-99999999) ≤ z78 ∧ z78 ≤ 19) (h6 : z78 = -99999999 ∨ z78 = -4 ∨ (0 ≤ z78 ∧ z78 ≤ 19)) : z60 = -99999999 ∨ z60 = -4 ∨ (0 ≤ z60 ∧ z60 ≤ 19) := by omega
theorem vc_X12_look_W_32 {z60 z635 z73 z78 : Int} (h0 : z60 = -99999999 ∨ 0 ≤ z73) (h1 : z60 = z78) (h2 : z635 = z73) (h3 : (-99999999) ≤ z60 ∧ z60 ≤ 19) (h4 : z60 = (-99999999) ∨ z60 = (-4) ∨ (0 ≤ z60 ∧ z60 ≤ 19)) (h5 : (-1) ≤ z635 ∧ z635 ≤ 9) (h6 : (-1) ≤ z73 ∧ z73 ≤ 9) (h7 : (-99999999) ≤ z78 ∧ z78 ≤ 19) (h8 : z78 = -99999999 ∨ z78 = -4 ∨ (0 ≤ z78 ∧ z78 ≤ 19)) : z60 = -99999999 ∨ 0 ≤ z73 := by omega
theorem vc_X12_look_W_48 {z1 : Int} (h0 : z1 < 0) (h1 : (-1) ≤ z1 ∧ z1 ≤ 2) : (-1) ≤ z1 ∧ z1 ≤ (-1) := by omega
theorem vc_X12_look_W_50 {z1177 : Int} (h0 : z1177 = -99999999 ∨ (0 ≤ z1177 ∧ z1177 ≤ 19)) (h1 : ¬ z1177 = (-99999999)) (h2 : 0 ≤ z1177 ∧ z1177 ≤ 19) : 0 ≤ (40 * (4 + z1177)) := by omega
theorem vc_X12_look_W_51 {z1177 : Int} (h0 : z1177 = -99999999 ∨ (0 ≤ z1177 ∧ z1177 ≤ 19)) (h1 : ¬ z1177 = (-99999999)) (h2 : 0 ≤ z1177 ∧ z1177 ≤ 19) : (40 * (4 + z1177)) % 40 = 0 := by omega
theorem vc_X12_look_W_52 {z1177 : Int} (h0 : z1177 = -99999999 ∨ (0 ≤ z1177 ∧ z1177 ≤ 19)) (h1 : ¬ z1177 = (-99999999)) (h2 : 0 ≤ z1177 ∧ z1177 ≤ 19) : ¬ z1177 = -99999999 := by omega
theorem vc_X12_look_W_53 {z1177 : Int} (h0 : z1177 = -99999999 ∨ (0 ≤ z1177 ∧ z1177 ≤ 19)) (h1 : ¬ z1177 = (-99999999)) (h2 : 0 ≤ z1177 ∧ z1177 ≤ 19) : 160 + 40 * z1177 = (40 * (4 + z1177)) := by omega
theorem vc_X12_look_W_55 {z1177 : Int} (h0 : z1177 = -99999999 ∨ (0 ≤ z1177 ∧ z1177 ≤ 19)) (h1 : ¬ z1177 = (-99999999)) (h2 : 0 ≤ z1177 ∧ z1177 ≤ 19) : (4 + z1177) < (3 : Int) ∨ (3 : Int) < (4 + z1177) := by omega
theorem vc_X12_look_W_56  : (0 : Int) ≤ ((40 : Int) * (3 : Int)) := by omega
theorem vc_X12_look_W_57  : (((40 : Int) * (3 : Int)) : Int) % (40 : Int) = (0 : Int) := by omega
theorem vc_X12_look_W_58 {z1180 z1190 : Int} (h0 : z1190 = z1180) (h1 : 0 ≤ z1180) (h2 : 0 ≤ z1180 ∧ z1180 ≤ 9) (h3 : (-1) ≤ z1190 ∧ z1190 ≤ 9) : 0 ≤ z1190 ∧ z1190 ≤ 9 := by omega
theorem vc_X12_look_W_59  : (80 : Int) ≤ (160 : Int) ∧ (960 : Int) ≤ (960 : Int) := by omega
theorem vc_X12_look_W_60  : (80 : Int) ≤ ((40 : Int) * (3 : Int)) ∧ (((40 : Int) * (3 : Int)) + (40 : Int)) ≤ (960 : Int) := by omega
theorem vc_X12_look_W_61 {z1177 : Int} (h0 : z1177 = -99999999 ∨ (0 ≤ z1177 ∧ z1177 ≤ 19)) (h1 : ¬ z1177 = (-99999999)) (h2 : 0 ≤ z1177 ∧ z1177 ≤ 19) : z1177 = (-99999999) ∨ z1177 = (-4) ∨ (0 ≤ z1177 ∧ z1177 ≤ 19) := by omega
theorem vc_X12_look_W_63  : ((40 : Int) * (3 : Int)) ≤ ((40 : Int) * (3 : Int)) ∧ (((40 : Int) * (3 : Int)) + (40 : Int)) ≤ (((40 : Int) * (3 : Int)) + (40 : Int)) := by omega
theorem vc_X12_look_W_64  : ((1 : Int) ≤ (((40 : Int) * (3 : Int)) : Int) ∧ ((((40 : Int) * (3 : Int)) + (40 : Int)) : Int) ≤ (1200 : Int)) ∨ (5200 : Int) ≤ (((40 : Int) * (3 : Int)) : Int) := by omega
theorem vc_X12_look_W_65  : ((1 : Int) ≤ ((160 : Int) : Int) ∧ ((960 : Int) : Int) ≤ (1200 : Int)) ∨ (5200 : Int) ≤ ((160 : Int) : Int) := by omega
theorem vc_X12_look_W_66  : (120 : Int) = ((40 : Int) * (3 : Int)) := by omega
theorem vc_X12_look_W_67 {z1177 z1180 z1190 : Int} (h0 : z1177 = -99999999 ∨ (0 ≤ z1177 ∧ z1177 ≤ 19)) (h1 : ¬ z1177 = (-99999999)) (h2 : 0 ≤ z1180) (h3 : z1190 = z1180) (h4 : 0 ≤ z1177 ∧ z1177 ≤ 19) (h5 : 0 ≤ z1180 ∧ z1180 ≤ 9) (h6 : 0 ≤ z1190 ∧ z1190 ≤ 9) : z1177 = -99999999 ∨ 0 ≤ z1180 := by omega
theorem vc_X12_look_W_70  : (80 : Int) ≤ ((40 : Int) * (3 : Int)) ∧ (((40 : Int) * (3 : Int)) + (1 : Int)) ≤ (960 : Int) := by omega
theorem vc_X12_look_W_71 {z1177 : Int} (h0 : z1177 = -99999999 ∨ (0 ≤ z1177 ∧ z1177 ≤ 19)) (h1 : z1177 = (-99999999)) (h2 : (-99999999) ≤ z1177 ∧ z1177 ≤ (-99999999)) : z1177 = (-99999999) ∨ z1177 = (-4) ∨ (0 ≤ z1177 ∧ z1177 ≤ 19) := by omega
theorem vc_X12_look_W_72  : ((40 : Int) * (3 : Int)) ≤ ((40 : Int) * (3 : Int)) ∧ (((40 : Int) * (3 : Int)) + (1 : Int)) ≤ (((40 : Int) * (3 : Int)) + (1 : Int)) := by omega
theorem vc_X12_look_W_73  : ((1 : Int) ≤ (((40 : Int) * (3 : Int)) : Int) ∧ ((((40 : Int) * (3 : Int)) + (1 : Int)) : Int) ≤ (1200 : Int)) ∨ (5200 : Int) ≤ (((40 : Int) * (3 : Int)) : Int) := by omega
theorem vc_X12_look_W_74 {z1177 : Int} (h0 : z1177 = -99999999 ∨ (0 ≤ z1177 ∧ z1177 ≤ 19)) (h1 : z1177 = (-99999999)) (h2 : (-99999999) ≤ z1177 ∧ z1177 ≤ (-99999999)) : z1177 = -99999999 ∨ 0 ≤ ((-1) : Int) := by omega
theorem vc_X12_look_W_75 {z1 : Int} (h0 : 0 ≤ z1) (h1 : (-1) ≤ z1 ∧ z1 ≤ 2) : 0 ≤ z1 ∧ z1 ≤ 2 := by omega
theorem vc_X12_look_W_76 {p2 : Int} (h0 : 0 ≤ p2 ∧ p2 ≤ 9) : (-2147483648 ≤ p2 ∧ p2 ≤ 2147483647) ∧ ((120 : Int) % 40 = 0 → -1 ≤ p2 ∧ p2 ≤ 9) ∧ ((120 : Int) % 40 = 4 → 0 ≤ p2 ∧ p2 ≤ 20) ∧ ((120 : Int) % 40 = 5 → 0 ≤ p2 ∧ p2 ≤ 8) := by omega
theorem vc_X12_look_W_77  : (-(2147483648 : Int) ≤ ((100 : Int) : Int) ∧ ((100 : Int) : Int) ≤ (2147483647 : Int)) ∧ ((((120 : Int) + (1 : Int)) : Int) % (40 : Int) = (0 : Int) → -(1 : Int) ≤ ((100 : Int) : Int) ∧ ((100 : Int) : Int) ≤ (9 : Int)) ∧ ((((120 : Int) + (1 : Int)) : Int) % (40 : Int) = (4 : Int) → (0 : Int) ≤ ((100 : Int) : Int) ∧ ((100 : Int) : Int) ≤ (20 : Int)) ∧ ((((120 : Int) + (1 : Int)) : Int) % (40 : Int) = (5 : Int) → (0 : Int) ≤ ((100 : Int) : Int) ∧ ((100 : Int) : Int) ≤ (8 : Int)) := by omega
theorem vc_X12_look_W_78 {z1 : Int} (h0 : 0 ≤ z1) (h1 : 0 ≤ z1 ∧ z1 ≤ 2) : (-2147483648 ≤ z1 ∧ z1 ≤ 2147483647) ∧ (((120 + 2) : Int) % 40 = 0 → -1 ≤ z1 ∧ z1 ≤ 9) ∧ (((120 + 2) : Int) % 40 = 4 → 0 ≤ z1 ∧ z1 ≤ 20) ∧ (((120 + 2) : Int) % 40 = 5 → 0 ≤ z1 ∧ z1 ≤ 8) := by omega
theorem vc_X12_look_W_79  : (-(2147483648 : Int) ≤ ((0 : Int) : Int) ∧ ((0 : Int) : Int) ≤ (2147483647 : Int)) ∧ ((((120 : Int) + (3 : Int)) : Int) % (40 : Int) = (0 : Int) → -(1 : Int) ≤ ((0 : Int) : Int) ∧ ((0 : Int) : Int) ≤ (9 : Int)) ∧ ((((120 : Int) + (3 : Int)) : Int) % (40 : Int) = (4 : Int) → (0 : Int) ≤ ((0 : Int) : Int) ∧ ((0 : Int) : Int) ≤ (20 : Int)) ∧ ((((120 : Int) + (3 : Int)) : Int) % (40 : Int) = (5 : Int) → (0 : Int) ≤ ((0 : Int) : Int) ∧ ((0 : Int) : Int) ≤ (8 : Int)) := by omega
theorem vc_X12_look_W_80  : (-(2147483648 : Int) ≤ ((0 : Int) : Int) ∧ ((0 : Int) : Int) ≤ (2147483647 : Int)) ∧ ((((120 : Int) + (4 : Int)) : Int) % (40 : Int) = (0 : Int) → -(1 : Int) ≤ ((0 : Int) : Int) ∧ ((0 : Int) : Int) ≤ (9 : Int)) ∧ ((((120 : Int) + (4 : Int)) : Int) % (40 : Int) = (4 : Int) → (0 : Int) ≤ ((0 : Int) : Int) ∧ ((0 : Int) : Int) ≤ (20 : Int)) ∧ ((((120 : Int) + (4 : Int)) : Int) % (40 : Int) = (5 : Int) → (0 : Int) ≤ ((0 : Int) : Int) ∧ ((0 : Int) : Int) ≤ (8 : Int)) := by omega
theorem vc_X12_look_W_81  : (-(2147483648 : Int) ≤ ((0 : Int) : Int) ∧ ((0 : Int) : Int) ≤ (2147483647 : Int)) ∧ ((((120 : Int) + (5 : Int)) : Int) % (40 : Int) = (0 : Int) → -(1 : Int) ≤ ((0 : Int) : Int) ∧ ((0 : Int) : Int) ≤ (9 : Int)) ∧ ((((120 : Int) + (5 : Int)) : Int) % (40 : Int) = (4 : Int) → (0 : Int) ≤ ((0 : Int) : Int) ∧ ((0 : Int) : Int) ≤ (20 : Int)) ∧ ((((120 : Int) + (5 : Int)) : Int) % (40 : Int) = (5 : Int) → (0 : Int) ≤ ((0 : Int) : Int) ∧ ((0 : Int) : Int) ≤ (8 : Int)) := by omega
theorem vc_X12_look_W_82  : (0 : Int) ≤ (120 : Int) ∧ (80 : Int) ≤ (120 : Int) ∧ (120 : Int) < (960 : Int) := by omega
theorem vc_X12_look_W_83  : (0 : Int) ≤ ((120 : Int) + (1 : Int)) ∧ (80 : Int) ≤ ((120 : Int) + (1 : Int)) ∧ ((120 : Int) + (1 : Int)) < (960 : Int) := by omega
theorem vc_X12_look_W_84  : (0 : Int) ≤ ((120 : Int) + (2 : Int)) ∧ (80 : Int) ≤ ((120 : Int) + (2 : Int)) ∧ ((120 : Int) + (2 : Int)) < (960 : Int) := by omega
theorem vc_X12_look_W_85  : (0 : Int) ≤ ((120 : Int) + (3 : Int)) ∧ (80 : Int) ≤ ((120 : Int) + (3 : Int)) ∧ ((120 : Int) + (3 : Int)) < (960 : Int) := by omega
theorem vc_X12_look_W_86  : (0 : Int) ≤ ((120 : Int) + (4 : Int)) ∧ (80 : Int) ≤ ((120 : Int) + (4 : Int)) ∧ ((120 : Int) + (4 : Int)) < (960 : Int) := by omega
theorem vc_X12_look_W_87  : (0 : Int) ≤ ((120 : Int) + (5 : Int)) ∧ (80 : Int) ≤ ((120 : Int) + (5 : Int)) ∧ ((120 : Int) + (5 : Int)) < (960 : Int) := by omega
theorem vc_X12_look_W_88  : (((-4) : Int) : Int) = ((-99999999) : Int) ∨ (((-4) : Int) : Int) = ((-4) : Int) ∨ ((0 : Int) ≤ (((-4) : Int) : Int) ∧ (((-4) : Int) : Int) ≤ (19 : Int)) := by omega
theorem vc_X12_look_W_89  : (0 : Int) ≤ (120 : Int) ∧ (120 : Int) ≤ (120 : Int) ∧ (120 : Int) < ((120 : Int) + (1 : Int)) := by omega
theorem vc_X12_look_W_90  : (0 : Int) ≤ ((120 : Int) + (1 : Int)) ∧ ((120 : Int) + (1 : Int)) ≤ ((120 : Int) + (1 : Int)) ∧ ((120 : Int) + (1 : Int)) < (((120 : Int) + (1 : Int)) + (1 : Int)) := by omega
theorem vc_X12_look_W_91  : (0 : Int) ≤ ((120 : Int) + (2 : Int)) ∧ ((120 : Int) + (2 : Int)) ≤ ((120 : Int) + (2 : Int)) ∧ ((120 : Int) + (2 : Int)) < (((120 : Int) + (2 : Int)) + (1 : Int)) := by omega
theorem vc_X12_look_W_92  : (0 : Int) ≤ ((120 : Int) + (3 : Int)) ∧ ((120 : Int) + (3 : Int)) ≤ ((120 : Int) + (3 : Int)) ∧ ((120 : Int) + (3 : Int)) < (((120 : Int) + (3 : Int)) + (1 : Int)) := by omega
theorem vc_X12_look_W_93  : (0 : Int) ≤ ((120 : Int) + (4 : Int)) ∧ ((120 : Int) + (4 : Int)) ≤ ((120 : Int) + (4 : Int)) ∧ ((120 : Int) + (4 : Int)) < (((120 : Int) + (4 : Int)) + (1 : Int)) := by omega
theorem vc_X12_look_W_94  : (0 : Int) ≤ ((120 : Int) + (5 : Int)) ∧ ((120 : Int) + (5 : Int)) ≤ ((120 : Int) + (5 : Int)) ∧ ((120 : Int) + (5 : Int)) < (((120 : Int) + (5 : Int)) + (1 : Int)) := by omega
theorem vc_X12_look_W_95  : ((1 : Int) ≤ (((120 : Int) + (5 : Int)) : Int) ∧ ((((120 : Int) + (5 : Int)) + (1 : Int)) : Int) ≤ (1200 : Int)) ∨ (5200 : Int) ≤ (((120 : Int) + (5 : Int)) : Int) := by omega
theorem vc_X12_look_W_96  : ((1 : Int) ≤ (((120 : Int) + (4 : Int)) : Int) ∧ ((((120 : Int) + (4 : Int)) + (1 : Int)) : Int) ≤ (1200 : Int)) ∨ (5200 : Int) ≤ (((120 : Int) + (4 : Int)) : Int) := by omega
theorem vc_X12_look_W_97  : ((1 : Int) ≤ (((120 : Int) + (3 : Int)) : Int) ∧ ((((120 : Int) + (3 : Int)) + (1 : Int)) : Int) ≤ (1200 : Int)) ∨ (5200 : Int) ≤ (((120 : Int) + (3 : Int)) : Int) := by omega
theorem vc_X12_look_W_98  : ((1 : Int) ≤ (((120 : Int) + (2 : Int)) : Int) ∧ ((((120 : Int) + (2 : Int)) + (1 : Int)) : Int) ≤ (1200 : Int)) ∨ (5200 : Int) ≤ (((120 : Int) + (2 : Int)) : Int) := by omega
theorem vc_X12_look_W_99  : ((1 : Int) ≤ (((120 : Int) + (1 : Int)) : Int) ∧ ((((120 : Int) + (1 : Int)) + (1 : Int)) : Int) ≤ (1200 : Int)) ∨ (5200 : Int) ≤ (((120 : Int) + (1 : Int)) : Int) := by omega
theorem vc_X12_look_W_100  : ((1 : Int) ≤ ((120 : Int) : Int) ∧ (((120 : Int) + (1 : Int)) : Int) ≤ (1200 : Int)) ∨ (5200 : Int) ≤ ((120 : Int) : Int) := by omega
theorem vc_X12_look_W_101  : (120 : Int).toNat ≠ ((120 + 1) : Int).toNat := by omega
theorem vc_X12_look_W_102  : (120 : Int).toNat ≠ ((120 + 2) : Int).toNat := by omega
theorem vc_X12_look_W_103  : (120 : Int).toNat ≠ ((120 + 3) : Int).toNat := by omega
theorem vc_X12_look_W_104  : (120 : Int).toNat ≠ ((120 + 4) : Int).toNat := by omega
theorem vc_X12_look_W_105  : (120 : Int).toNat ≠ ((120 + 5) : Int).toNat := by omega
theorem vc_X12_look_W_106 {p2 : Int} (h0 : 0 ≤ p2 ∧ p2 ≤ 9) : ((-4) : Int) = -99999999 ∨ 0 ≤ p2 := by omega
set_option maxRecDepth 4000 in
set_option maxHeartbeats 4000000 in
theorem c_X12_look_W {l : Launch} {D : va_G} {c : Nat → ClassId} {H0 : Heap} {sa : Nat × Nat × (Nat → Int32)} {w : mW} {μ : mM} (hw : mWF w) (hT : mT w μ) {p1 : Int} (hp1 : 0 ≤ p1 ∧ p1 ≤ 9) {p2 : Int} (hp2 : 0 ≤ p2 ∧ p2 ≤ 9) (hIG1 : G1 μ) (hIEV : EV μ) (hIPK : PK μ) {Q : mM → Prop} (hQ : WP_X12_look_W w μ p1 p2 Q) : sC (gG l D c H0 sa) mX12_look 10 0 0 [.ref 106, iv p1, iv p2] (mk w μ) (qV w [106026, 106027, 106028, 106029, 106030, 106031, 106072, 126999, 151999, 152999, 153999, 155999, 156999, 157999, 158999, 159999, 160999, 161999, 165999] μ (fun μ1 => mG [(80, 960), ((40 * (30 + ((10 * p1) + p2))), ((40 * (30 + ((10 * p1) + p2))) + 40)), (21200, 53200)] μ μ1 ∧ G1 μ1 ∧ EV μ1 ∧ Q μ1 ∧ True)) := by
  refine sC.of rfl (by decide) (le_t rfl) ?_
  refine mr_lvE (lv' := [(0, .ref 106), (1, iv p1), (2, iv p2)]) rfl ?_
  refine mr_bipush (pc := 0) (z := 10) dX12_look_0 (by decide) ?_
  refine mr_iload_n (pc := 2) (z := p1) dX12_look_2 rfl rfl ?_
  refine mr_imul (pc := 3) (x := 10) (y := p1) dX12_look_3 ?_
  refine mr_iload_n (pc := 4) (z := p2) dX12_look_4 rfl rfl ?_
  refine mr_iadd (pc := 5) (x := (10 * p1)) (y := p2) dX12_look_5 ?_
  refine mr_istore_n (pc := 6) (lv' := [(3, iv ((10 * p1) + p2)), (0, .ref 106), (1, iv p1), (2, iv p2)]) dX12_look_6 rfl (by decide) rfl ?_
  refine sv_aload_n (pc := 7) dX12_look_7 rfl rfl ?_
  refine gf_X12_82 (pc := 8) dX12_look_8 wF_X12_448 (A_106 hw) hT ?_
  refine mr_iload_n (pc := 11) (z := ((10 * p1) + p2)) dX12_look_11 rfl rfl ?_
  refine la_162 (pc := 12) dX12_look_12 (A_162 hw) hT (rIx (n := 100) (rAdd (e := 0) (f := 99) (rMulL (n := 10) (e := 0) (f := 90) hp1 rfl) hp2 rfl) rfl) fun z1 q2 h3 => ?_
  have J71 : ∀ (z60 : Int) (μ63 : mM), (mT w μ63) → (mF [106026, 106027, 106028, 106029, 106030, 106031, 126999, 151999, 152999, 153999, 165999] w μ μ63) → (mG [(80, 960), ((40 * (30 + ((10 * p1) + p2))), ((40 * (30 + ((10 * p1) + p2))) + 40)), (21200, 53200)] μ μ63) → (((-99999999) ≤ z60 ∧ z60 ≤ 19)) → ((z60 = (-99999999) ∨ z60 = (-4) ∨ (0 ≤ z60 ∧ z60 ≤ 19))) → (G1 μ63) → (EV μ63) → (PK μ63) → ((z60 = -99999999 ∨ 0 ≤ μ63 126 ((120 : Int).toNat))) → ((WJ_X12_look_W_1 w μ p1 p2 Q) z60 μ63) → sV (gG l D c H0 sa) mX12_look (sRm 10 0 0) (sZ (gG l D c H0 sa) 0 0 (qV w [106026, 106027, 106028, 106029, 106030, 106031, 106072, 126999, 151999, 152999, 153999, 155999, 156999, 157999, 158999, 159999, 160999, 161999, 165999] μ (fun μ1 => mG [(80, 960), ((40 * (30 + ((10 * p1) + p2))), ((40 * (30 + ((10 * p1) + p2))) + 40)), (21200, 53200)] μ μ1 ∧ G1 μ1 ∧ EV μ1 ∧ Q μ1 ∧ True))) 123 [(0, .ref 106), (1, iv p1), (2, iv p2), (3, iv ((10 * p1) + p2)), (4, iv z60)] [] (mk w μ63) 0 0 := by
    intro z60 μ63 T64 F65 G66 h61 h62 I67 I68 I69 h70 W72
    obtain ⟨z73, q74⟩ : ∃ z, μ63 126 ((120 : Int).toNat) = z := ⟨_, rfl⟩
    have h75 := rt7 T64 (A_126 hw) vc_X12_look_W_1 q74
    have h76 : (-1) ≤ z73 ∧ z73 ≤ 9 := h75.2.1 vc_X12_look_W_2
    have h77 : z60 = -99999999 ∨ 0 ≤ z73 := q74 ▸ h70
    refine mr_iload (pc := 123) (z := z60) dX12_look_123 rfl ?_
    refine sv_aload_n (pc := 125) dX12_look_125 rfl rfl ?_
    refine gf_X12_81 (pc := 126) dX12_look_126 wF_X12_445 (A_106 hw) T64 ?_
    refine mr_iload_n (pc := 129) (z := ((10 * p1) + p2)) dX12_look_129 rfl rfl ?_
    refine la_161 (pc := 130) dX12_look_130 (A_161 hw) T64 (rIx (n := 100) (rAdd (e := 0) (f := 99) (rMulL (n := 10) (e := 0) (f := 90) hp1 rfl) hp2 rfl) rfl) fun z78 q79 h80 => ?_
    have h81 : (-99999999) ≤ z78 ∧ z78 ≤ 19 := (vc_X12_sends_3 h80)
    refine mr_icmp_ne (pc := 131) (tgt := 147) dX12_look_131 (by decide) (r32 h61 rfl) (r32 h81 rfl) (fun h82 => ?_) (fun h82 => ?_)
    · refine sv_aload_n (pc := 147) dX12_look_147 rfl rfl ?_
      refine gf_X12_81 (pc := 148) dX12_look_148 wF_X12_445 (A_106 hw) T64 ?_
      refine mr_iload_n (pc := 151) (z := ((10 * p1) + p2)) dX12_look_151 rfl rfl ?_
      refine mr_iload (pc := 152) (z := z60) dX12_look_152 rfl ?_
      refine ss_161 (pc := 154) dX12_look_154 (A_161 hw) T64 (rIx (n := 100) (rAdd (e := 0) (f := 99) (rMulL (n := 10) (e := 0) (f := 90) hp1 rfl) hp2 rfl) rfl) (vc_X12_look_W_4 h77 h82 h61 h62 h76 h81 h80) fun μ83 u84 T85 => ?_
      refine sv_aload_n (pc := 155) dX12_look_155 rfl rfl ?_
      refine mr_iconst (pc := 156) (z := 3) dX12_look_156 ?_
      refine mr_bipush (pc := 157) (z := 30) dX12_look_157 (by decide) ?_
      refine mr_iload_n (pc := 159) (z := ((10 * p1) + p2)) dX12_look_159 rfl rfl ?_
      refine mr_iadd (pc := 160) (x := 30) (y := ((10 * p1) + p2)) dX12_look_160 ?_
      refine mr_cVV (pc := 161) (c_X12_copy_W hw T85 (rW (c := 0) (d := 2099) (rR (x := 3)) rfl) (rW (c := 0) (d := 2099) (rAdd (e := 30) (f := 129) (rR (x := 30)) (rAdd (e := 0) (f := 99) (rMulL (n := 10) (e := 0) (f := 90) hp1 rfl) hp2 rfl) rfl) rfl) (eqIx vc_X12_look_W_5 (u84.f (Or.inl (mAt.ne (A_161 hw) (A_126 hw) rfl)) q74)) (vc_X12_look_W_6 hp1 hp2) (((((W72 h61 T64 F65) z73 q74 h75) z78 q79 h80).1 h82) μ83 u84 T85)) (gOk _ _ _ _ _) dX12_look_161 (tX12_copy _ _ _ _ _) ⟨wV_X12_copy, wL_X12_copy⟩ wM_X12_559 (gCX12 _ _ _ _ _) rfl (A_106 hw) rfl ⟨le_t rfl, le_t rfl⟩ ⟨le_t rfl, le_t rfl⟩ rfl (le_t rfl) fun μ86 T87 F88 h89 => ?_
      obtain ⟨z90, q91, h92⟩ := h89
      have h93 := rt7 T87 (A_126 hw) (vc_X12_look_W_7 hp1 hp2) q91
      have h94 : (-1) ≤ z90 ∧ z90 ≤ 9 := h93.2.1 (vc_X12_look_W_8 hp1 hp2)
      have q95 : μ86 126 ((40 * (30 + ((10 * p1) + p2))).toNat) = z73 := q91.trans h92.2.1
      have I96 : G1 μ86 := G1.look I67 hw (rAdd (e := 0) (f := 99) (rMulL (n := 10) (e := 0) (f := 90) hp1 rfl) hp2 rfl) u84 F88 (vc_X12_look_W_10 hp1 hp2) h92.1 q95 (vc_X12_look_W_9 h77 h82 h92.2.1 h61 h62 h76 h81 h80 h94)
      refine mr_iconst (pc := 164) (z := 0) dX12_look_164 ?_
      refine mr_istore (pc := 165) (lv' := [(5, iv 0), (0, .ref 106), (1, iv p1), (2, iv p2), (3, iv ((10 * p1) + p2)), (4, iv z60)]) dX12_look_165 (by decide) rfl ?_
      have L533 : ∀ (nL533 : Nat) (z531 : Int) (μ532 : mM), mT w μ532 → mF [106026, 106027, 106028, 106029, 106030, 106031, 106072, 126999, 151999, 152999, 153999, 155999, 156999, 157999, 158999, 159999, 160999] w μ86 μ532 → mG [(80, 960), ((40 * (30 + ((10 * p1) + p2))), ((40 * (30 + ((10 * p1) + p2))) + 40)), (21200, 53200)] μ86 μ532 → (0 ≤ z531 ∧ z531 ≤ 20) → G1 μ532 → EV μ532 → PK μ532 → (21 - z531) < (nL533 : Int) → loopF (WL_X12_look_W_2 w p1 p2 Q μ86) False nL533 (z531, μ532) → sV (gG l D c H0 sa) mX12_look (sRm 10 0 0) (sZ (gG l D c H0 sa) 0 0 (qV w [106026, 106027, 106028, 106029, 106030, 106031, 106072, 126999, 151999, 152999, 153999, 155999, 156999, 157999, 158999, 159999, 160999, 161999, 165999] μ (fun μ1 => mG [(80, 960), ((40 * (30 + ((10 * p1) + p2))), ((40 * (30 + ((10 * p1) + p2))) + 40)), (21200, 53200)] μ μ1 ∧ G1 μ1 ∧ EV μ1 ∧ Q μ1 ∧ True))) 167 [(0, .ref 106), (1, iv p1), (2, iv p2), (5, iv z531)] [] (mk w μ532) 0 0 := by
        intro nL533
        induction nL533 with
        | zero => intro z531 μ532 T535 F536 G537 h534 I538 I539 I540 h541 W542; exact ((vc_X12_tieOf_1 h541 h534)).elim
        | succ nL533 ih543 =>
          intro z531 μ532 T535 F536 G537 h534 I538 I539 I540 h541 W542
          refine mr_iload (pc := 167) (z := z531) dX12_look_167 rfl ?_
          refine sv_aload_n (pc := 169) dX12_look_169 rfl rfl ?_
          refine gf_X12_6 (pc := 170) dX12_look_170 wF_X12_37 (A_106 hw) T535 fun z544 q545 h546 => ?_
          refine mr_icmp_ge (pc := 173) (tgt := 210) dX12_look_173 (by decide) (r32 h534 rfl) (r32 h546 rfl) (fun h573 => ?_) (fun h573 => ?_)
          · exact mr_vret dX12_look_210 rfl (le_t rfl) (le_t rfl) T535 (mF.call (mF.call (mF.up (mF.call mF.refl F65 rfl) (A_161 hw) u84 rfl) F88 rfl) F536 rfl) ⟨(mG.call (mG.call (mG.upO (mG.call mG.refl G66 (List.forall_mem_cons.mpr ⟨⟨_, List.mem_cons_self, vc_X12_look_W_12⟩, (List.forall_mem_cons.mpr ⟨⟨_, (List.mem_cons_of_mem _ List.mem_cons_self), (vc_X12_look_W_13 hp1 hp2)⟩, (List.forall_mem_cons.mpr ⟨⟨_, (List.mem_cons_of_mem _ (List.mem_cons_of_mem _ List.mem_cons_self)), vc_X12_say_W_25⟩, (fun _ h => absurd h List.not_mem_nil)⟩)⟩)⟩)) u84 rfl) h92.1 (List.forall_mem_cons.mpr ⟨⟨_, (List.mem_cons_of_mem _ List.mem_cons_self), (vc_X12_look_W_13 hp1 hp2)⟩, (fun _ h => absurd h List.not_mem_nil)⟩)) G537 (List.forall_mem_cons.mpr ⟨⟨_, List.mem_cons_self, vc_X12_look_W_12⟩, (List.forall_mem_cons.mpr ⟨⟨_, (List.mem_cons_of_mem _ List.mem_cons_self), (vc_X12_look_W_13 hp1 hp2)⟩, (List.forall_mem_cons.mpr ⟨⟨_, (List.mem_cons_of_mem _ (List.mem_cons_of_mem _ List.mem_cons_self)), vc_X12_say_W_25⟩, (fun _ h => absurd h List.not_mem_nil)⟩)⟩)⟩)), I538, I539, (((W542 z531 μ532 rfl h534 T535 F536) z544 q545 h546).1 h573), trivial⟩
          have h574 : 0 ≤ z531 ∧ z531 ≤ 19 := (vc_X12_tieOf_3 h573 h534 h546)
          have h575 : 1 ≤ z544 ∧ z544 ≤ 20 := (vc_X12_tieOf_4 h573 h574 h546)
          refine sv_aload_n (pc := 176) dX12_look_176 rfl rfl ?_
          refine mr_iload (pc := 177) (z := z531) dX12_look_177 rfl ?_
          refine mr_iload_n (pc := 179) (z := p1) dX12_look_179 rfl rfl ?_
          obtain ⟨z576, q577⟩ : ∃ z, μ532 110 ((2 * z531).toNat) = z := ⟨_, rfl⟩
          have h578 : (0 ≤ z576 ∧ z576 ≤ 9) := by rw [← q577]; exact T535 110 110 (A_110 hw) ((2 * z531).toNat)
          obtain ⟨z579, q580⟩ : ∃ z, μ532 110 (((2 * z531) + 1).toNat) = z := ⟨_, rfl⟩
          have h581 : (0 ≤ z579 ∧ z579 ≤ 9) := by rw [← q580]; exact T535 110 110 (A_110 hw) (((2 * z531) + 1).toNat)
          refine mr_cVP (pc := 180) (c_X12_isAt_W hw T535 h574 (rW (c := (-2147483648)) (d := 2147483647) hp1 rfl) q577 q580 (((((W542 z531 μ532 rfl h534 T535 F536) z544 q545 h546).2 h573) z576 q577 h578) z579 q580 h581)) (gOk _ _ _ _ _) dX12_look_180 (tX12_isAt _ _ _ _ _) ⟨wV_X12_isAt, wL_X12_isAt⟩ wM_X12_562 (gCX12 _ _ _ _ _) rfl (A_106 hw) rfl ⟨le_t rfl, le_t rfl⟩ ⟨le_t rfl, le_t rfl⟩ rfl (le_t rfl) fun z586 h585 => ?_
          refine mr_if_eq (pc := 183) (tgt := 204) dX12_look_183 (by decide) (r32 h585.1 rfl) (fun h600 => ?_) (fun h600 => ?_)
          · have h601 : 0 ≤ z586 ∧ z586 ≤ 0 := (vc_X12_candidates_W_5 h600 h585.2.1 h585.2.2.1 hp1 h578 h581 h585.1)
            have h602 : ¬ z576 = p1 ∧ ¬ z579 = p1 := (h585.2.2.1 (vc_X12_candidates_W_6 h585.2.1 h585.2.2.1 h600 hp1 h578 h581 h601))
            refine mr_iinc (pc := 204) (lv' := [(5, iv (z531 + 1)), (0, .ref 106), (1, iv p1), (2, iv p2)]) dX12_look_204 rfl (by decide) rfl ?_
            refine sv_goto (pc := 207) (tgt := 167) dX12_look_207 (by decide) ?_
            refine mr_lvS (lv' := [(0, .ref 106), (1, iv p1), (2, iv p2), (5, iv (z531 + 1))]) (List.forall_mem_cons.mpr ⟨rfl, List.forall_mem_cons.mpr ⟨rfl, List.forall_mem_cons.mpr ⟨rfl, List.forall_mem_cons.mpr ⟨rfl, fun _ h => absurd h List.not_mem_nil⟩⟩⟩⟩) ?_
            exact ih543 (z531 + 1) μ532 T535 (mF.call mF.refl F536 rfl) (mG.call mG.refl G537 (List.forall_mem_cons.mpr ⟨⟨_, List.mem_cons_self, vc_X12_look_W_12⟩, (List.forall_mem_cons.mpr ⟨⟨_, (List.mem_cons_of_mem _ List.mem_cons_self), (vc_X12_look_W_20 h585.2.1 h585.2.2.1 h602 h600 hp1 hp2 h578 h581 h601)⟩, (List.forall_mem_cons.mpr ⟨⟨_, (List.mem_cons_of_mem _ (List.mem_cons_of_mem _ List.mem_cons_self)), vc_X12_say_W_25⟩, (fun _ h => absurd h List.not_mem_nil)⟩)⟩)⟩)) (rW (c := 0) (d := 20) (rAdd (e := 1) (f := 20) h574 (rR (x := 1)) rfl) rfl) I538 I539 I540 (vc_X12_tieOf_5 (nS h541) h573 h574 h575) ((h585.2.2.2.1 h585.1).1 h600)
          have h603 : 1 ≤ z586 ∧ z586 ≤ 1 := (vc_X12_candidates_W_12 h600 h585.2.1 h585.2.2.1 hp1 h578 h581 h585.1)
          have h604 : z576 = p1 ∨ z579 = p1 := (h585.2.1 (vc_X12_candidates_W_13 h585.2.1 h585.2.2.1 h600 hp1 h578 h581 h603))
          refine sv_aload_n (pc := 186) dX12_look_186 rfl rfl ?_
          refine gf_X12_9 (pc := 187) dX12_look_187 wF_X12_53 (A_106 hw) T535 ?_
          refine mr_iload (pc := 190) (z := z531) dX12_look_190 rfl ?_
          refine la_112 (pc := 192) dX12_look_192 (A_112 hw) T535 (rIx (n := 20) h574 rfl) fun z605 q606 h607 => ?_
          refine mr_if_eq (pc := 193) (tgt := 204) dX12_look_193 (by decide) (r32 h607 rfl) (fun h614 => ?_) (fun h614 => ?_)
          · have h615 : 0 ≤ z605 ∧ z605 ≤ 0 := (vc_X12_ring_22 h614 h607)
            refine mr_iinc (pc := 204) (lv' := [(5, iv (z531 + 1)), (0, .ref 106), (1, iv p1), (2, iv p2)]) dX12_look_204 rfl (by decide) rfl ?_
            refine sv_goto (pc := 207) (tgt := 167) dX12_look_207 (by decide) ?_
            refine mr_lvS (lv' := [(0, .ref 106), (1, iv p1), (2, iv p2), (5, iv (z531 + 1))]) (List.forall_mem_cons.mpr ⟨rfl, List.forall_mem_cons.mpr ⟨rfl, List.forall_mem_cons.mpr ⟨rfl, List.forall_mem_cons.mpr ⟨rfl, fun _ h => absurd h List.not_mem_nil⟩⟩⟩⟩) ?_
            exact ih543 (z531 + 1) μ532 T535 (mF.call mF.refl F536 rfl) (mG.call mG.refl G537 (List.forall_mem_cons.mpr ⟨⟨_, List.mem_cons_self, vc_X12_look_W_12⟩, (List.forall_mem_cons.mpr ⟨⟨_, (List.mem_cons_of_mem _ List.mem_cons_self), (vc_X12_look_W_24 h585.2.1 h585.2.2.1 h604 h600 hp1 hp2 h578 h581 h603)⟩, (List.forall_mem_cons.mpr ⟨⟨_, (List.mem_cons_of_mem _ (List.mem_cons_of_mem _ List.mem_cons_self)), vc_X12_say_W_25⟩, (fun _ h => absurd h List.not_mem_nil)⟩)⟩)⟩)) (rW (c := 0) (d := 20) (rAdd (e := 1) (f := 20) h574 (rR (x := 1)) rfl) rfl) I538 I539 I540 (vc_X12_tieOf_5 (nS h541) h573 h574 h575) ((((h585.2.2.2.1 h585.1).2 h600) z605 q606 h607).1 h614)
          have h616 : 1 ≤ z605 ∧ z605 ≤ 1 := (vc_X12_ring_24 h614 h607)
          refine sv_aload_n (pc := 196) dX12_look_196 rfl rfl ?_
          refine mr_iload_n (pc := 197) (z := p1) dX12_look_197 rfl rfl ?_
          refine mr_iload (pc := 198) (z := z531) dX12_look_198 rfl ?_
          refine mr_iload_n (pc := 200) (z := p2) dX12_look_200 rfl rfl ?_
          refine mr_cVV (pc := 201) (c_X12_say_W hw T535 hp1 h574 hp2 q577 q580 q545 (vc_X12_candidates_W_14 h573 h574 h575) (vc_X12_candidates_W_15 h585.2.1 h585.2.2.1 h604 h600 hp1 h578 h581 h603) I538 I539 I540 ((((h585.2.2.2.1 h585.1).2 h600) z605 q606 h607).2 h614)) (gOk _ _ _ _ _) dX12_look_201 (tX12_say _ _ _ _ _) ⟨wV_X12_say, wL_X12_say⟩ wM_X12_587 (gCX12 _ _ _ _ _) rfl (A_106 hw) rfl ⟨le_t rfl, le_t rfl⟩ ⟨le_t rfl, le_t rfl⟩ rfl (le_t rfl) fun μ617 T618 F619 h620 => ?_
          refine mr_iinc (pc := 204) (lv' := [(5, iv (z531 + 1)), (0, .ref 106), (1, iv p1), (2, iv p2)]) dX12_look_204 rfl (by decide) rfl ?_
          refine sv_goto (pc := 207) (tgt := 167) dX12_look_207 (by decide) ?_
          refine mr_lvS (lv' := [(0, .ref 106), (1, iv p1), (2, iv p2), (5, iv (z531 + 1))]) (List.forall_mem_cons.mpr ⟨rfl, List.forall_mem_cons.mpr ⟨rfl, List.forall_mem_cons.mpr ⟨rfl, List.forall_mem_cons.mpr ⟨rfl, fun _ h => absurd h List.not_mem_nil⟩⟩⟩⟩) ?_
          exact ih543 (z531 + 1) μ617 T618 (mF.call (mF.call mF.refl F536 rfl) F619 rfl) (mG.call (mG.call mG.refl G537 (List.forall_mem_cons.mpr ⟨⟨_, List.mem_cons_self, vc_X12_look_W_12⟩, (List.forall_mem_cons.mpr ⟨⟨_, (List.mem_cons_of_mem _ List.mem_cons_self), (vc_X12_look_W_24 h585.2.1 h585.2.2.1 h604 h600 hp1 hp2 h578 h581 h603)⟩, (List.forall_mem_cons.mpr ⟨⟨_, (List.mem_cons_of_mem _ (List.mem_cons_of_mem _ List.mem_cons_self)), vc_X12_say_W_25⟩, (fun _ h => absurd h List.not_mem_nil)⟩)⟩)⟩)) h620.1 (List.forall_mem_cons.mpr ⟨⟨_, List.mem_cons_self, vc_X12_look_W_28⟩, (List.forall_mem_cons.mpr ⟨⟨_, (List.mem_cons_of_mem _ (List.mem_cons_of_mem _ List.mem_cons_self)), vc_X12_say_W_25⟩, (fun _ h => absurd h List.not_mem_nil)⟩)⟩)) (rW (c := 0) (d := 20) (rAdd (e := 1) (f := 20) h574 (rR (x := 1)) rfl) rfl) h620.2.1 h620.2.2.1 (PK.keep I540 hw ((mF.call mF.refl F619 rfl) : mF [106026, 106027, 106028, 106029, 106030, 106031, 106072, 126999, 151999, 152999, 153999, 155999, 156999, 157999, 158999, 159999, 160999] w μ532 μ617) rfl) (vc_X12_tieOf_5 (nS h541) h573 h574 h575) (h620.2.2.2.1 T618 F619)
      refine mr_lvS (lv' := [(0, .ref 106), (1, iv p1), (2, iv p2), (5, iv 0)]) (List.forall_mem_cons.mpr ⟨rfl, List.forall_mem_cons.mpr ⟨rfl, List.forall_mem_cons.mpr ⟨rfl, List.forall_mem_cons.mpr ⟨rfl, fun _ h => absurd h List.not_mem_nil⟩⟩⟩⟩) ?_
      exact L533 22 0 μ86 T87 mF.refl mG.refl (rW (c := 0) (d := 20) (rR (x := 0)) rfl) I96 (EV.keep I68 hw ((mF.call (mF.up mF.refl (A_161 hw) u84 rfl) F88 rfl) : mF [126999, 161999] w μ63 μ86) rfl) (PK.keep I69 hw ((mF.call (mF.up mF.refl (A_161 hw) u84 rfl) F88 rfl) : mF [126999, 161999] w μ63 μ86) rfl) vc_X12_tieOf_12 ((h92.2.2.1 T87 F88) z90 q91)
    refine sv_aload_n (pc := 134) dX12_look_134 rfl rfl ?_
    refine mr_iconst (pc := 135) (z := 3) dX12_look_135 ?_
    refine mr_bipush (pc := 136) (z := 30) dX12_look_136 (by decide) ?_
    refine mr_iload_n (pc := 138) (z := ((10 * p1) + p2)) dX12_look_138 rfl rfl ?_
    refine mr_iadd (pc := 139) (x := 30) (y := ((10 * p1) + p2)) dX12_look_139 ?_
    refine mr_cVP (pc := 140) (c_X12_same_W hw T64 (rW (c := 0) (d := 2099) (rR (x := 3)) rfl) (rW (c := 0) (d := 2099) (rAdd (e := 30) (f := 129) (rR (x := 30)) (rAdd (e := 0) (f := 99) (rMulL (n := 10) (e := 0) (f := 90) hp1 rfl) hp2 rfl) rfl) rfl) ((((W72 h61 T64 F65) z73 q74 h75) z78 q79 h80).2 h82)) (gOk _ _ _ _ _) dX12_look_140 (tX12_same _ _ _ _ _) ⟨wV_X12_same, wL_X12_same⟩ wM_X12_584 (gCX12 _ _ _ _ _) rfl (A_106 hw) rfl ⟨le_t rfl, le_t rfl⟩ ⟨le_t rfl, le_t rfl⟩ rfl (le_t rfl) fun z625 h624 => ?_
    refine mr_if_eq (pc := 143) (tgt := 147) dX12_look_143 (by decide) (r32 h624.1 rfl) (fun h626 => ?_) (fun h626 => ?_)
    · have h627 : 0 ≤ z625 ∧ z625 ≤ 0 := (vc_X12_ring_22 h626 h624.1)
      refine sv_aload_n (pc := 147) dX12_look_147 rfl rfl ?_
      refine gf_X12_81 (pc := 148) dX12_look_148 wF_X12_445 (A_106 hw) T64 ?_
      refine mr_iload_n (pc := 151) (z := ((10 * p1) + p2)) dX12_look_151 rfl rfl ?_
      refine mr_iload (pc := 152) (z := z60) dX12_look_152 rfl ?_
      refine ss_161 (pc := 154) dX12_look_154 (A_161 hw) T64 (rIx (n := 100) (rAdd (e := 0) (f := 99) (rMulL (n := 10) (e := 0) (f := 90) hp1 rfl) hp2 rfl) rfl) (vc_X12_look_W_31 h77 h82 h61 h62 h76 h81 h80) fun μ628 u629 T630 => ?_
      refine sv_aload_n (pc := 155) dX12_look_155 rfl rfl ?_
      refine mr_iconst (pc := 156) (z := 3) dX12_look_156 ?_
      refine mr_bipush (pc := 157) (z := 30) dX12_look_157 (by decide) ?_
      refine mr_iload_n (pc := 159) (z := ((10 * p1) + p2)) dX12_look_159 rfl rfl ?_
      refine mr_iadd (pc := 160) (x := 30) (y := ((10 * p1) + p2)) dX12_look_160 ?_
      refine mr_cVV (pc := 161) (c_X12_copy_W hw T630 (rW (c := 0) (d := 2099) (rR (x := 3)) rfl) (rW (c := 0) (d := 2099) (rAdd (e := 30) (f := 129) (rR (x := 30)) (rAdd (e := 0) (f := 99) (rMulL (n := 10) (e := 0) (f := 90) hp1 rfl) hp2 rfl) rfl) rfl) (eqIx vc_X12_look_W_5 (u629.f (Or.inl (mAt.ne (A_161 hw) (A_126 hw) rfl)) q74)) (vc_X12_look_W_6 hp1 hp2) (((h624.2.1 h624.1).1 h626) μ628 u629 T630)) (gOk _ _ _ _ _) dX12_look_161 (tX12_copy _ _ _ _ _) ⟨wV_X12_copy, wL_X12_copy⟩ wM_X12_559 (gCX12 _ _ _ _ _) rfl (A_106 hw) rfl ⟨le_t rfl, le_t rfl⟩ ⟨le_t rfl, le_t rfl⟩ rfl (le_t rfl) fun μ631 T632 F633 h634 => ?_
      obtain ⟨z635, q636, h637⟩ := h634
      have h638 := rt7 T632 (A_126 hw) (vc_X12_look_W_7 hp1 hp2) q636
      have h639 : (-1) ≤ z635 ∧ z635 ≤ 9 := h638.2.1 (vc_X12_look_W_8 hp1 hp2)
      have q640 : μ631 126 ((40 * (30 + ((10 * p1) + p2))).toNat) = z73 := q636.trans h637.2.1
      have I641 : G1 μ631 := G1.look I67 hw (rAdd (e := 0) (f := 99) (rMulL (n := 10) (e := 0) (f := 90) hp1 rfl) hp2 rfl) u629 F633 (vc_X12_look_W_10 hp1 hp2) h637.1 q640 (vc_X12_look_W_32 h77 h82 h637.2.1 h61 h62 h639 h76 h81 h80)
      refine mr_iconst (pc := 164) (z := 0) dX12_look_164 ?_
      refine mr_istore (pc := 165) (lv' := [(5, iv 0), (0, .ref 106), (1, iv p1), (2, iv p2), (3, iv ((10 * p1) + p2)), (4, iv z60)]) dX12_look_165 (by decide) rfl ?_
      have L1078 : ∀ (nL1078 : Nat) (z1076 : Int) (μ1077 : mM), mT w μ1077 → mF [106026, 106027, 106028, 106029, 106030, 106031, 106072, 126999, 151999, 152999, 153999, 155999, 156999, 157999, 158999, 159999, 160999] w μ631 μ1077 → mG [(80, 960), ((40 * (30 + ((10 * p1) + p2))), ((40 * (30 + ((10 * p1) + p2))) + 40)), (21200, 53200)] μ631 μ1077 → (0 ≤ z1076 ∧ z1076 ≤ 20) → G1 μ1077 → EV μ1077 → PK μ1077 → (21 - z1076) < (nL1078 : Int) → loopF (WL_X12_look_W_3 w p1 p2 Q μ631) False nL1078 (z1076, μ1077) → sV (gG l D c H0 sa) mX12_look (sRm 10 0 0) (sZ (gG l D c H0 sa) 0 0 (qV w [106026, 106027, 106028, 106029, 106030, 106031, 106072, 126999, 151999, 152999, 153999, 155999, 156999, 157999, 158999, 159999, 160999, 161999, 165999] μ (fun μ1 => mG [(80, 960), ((40 * (30 + ((10 * p1) + p2))), ((40 * (30 + ((10 * p1) + p2))) + 40)), (21200, 53200)] μ μ1 ∧ G1 μ1 ∧ EV μ1 ∧ Q μ1 ∧ True))) 167 [(0, .ref 106), (1, iv p1), (2, iv p2), (5, iv z1076)] [] (mk w μ1077) 0 0 := by
        intro nL1078
        induction nL1078 with
        | zero => intro z1076 μ1077 T1080 F1081 G1082 h1079 I1083 I1084 I1085 h1086 W1087; exact ((vc_X12_tieOf_1 h1086 h1079)).elim
        | succ nL1078 ih1088 =>
          intro z1076 μ1077 T1080 F1081 G1082 h1079 I1083 I1084 I1085 h1086 W1087
          refine mr_iload (pc := 167) (z := z1076) dX12_look_167 rfl ?_
          refine sv_aload_n (pc := 169) dX12_look_169 rfl rfl ?_
          refine gf_X12_6 (pc := 170) dX12_look_170 wF_X12_37 (A_106 hw) T1080 fun z1089 q1090 h1091 => ?_
          refine mr_icmp_ge (pc := 173) (tgt := 210) dX12_look_173 (by decide) (r32 h1079 rfl) (r32 h1091 rfl) (fun h1118 => ?_) (fun h1118 => ?_)
          · exact mr_vret dX12_look_210 rfl (le_t rfl) (le_t rfl) T1080 (mF.call (mF.call (mF.up (mF.call mF.refl F65 rfl) (A_161 hw) u629 rfl) F633 rfl) F1081 rfl) ⟨(mG.call (mG.call (mG.upO (mG.call mG.refl G66 (List.forall_mem_cons.mpr ⟨⟨_, List.mem_cons_self, vc_X12_look_W_12⟩, (List.forall_mem_cons.mpr ⟨⟨_, (List.mem_cons_of_mem _ List.mem_cons_self), (vc_X12_look_W_13 hp1 hp2)⟩, (List.forall_mem_cons.mpr ⟨⟨_, (List.mem_cons_of_mem _ (List.mem_cons_of_mem _ List.mem_cons_self)), vc_X12_say_W_25⟩, (fun _ h => absurd h List.not_mem_nil)⟩)⟩)⟩)) u629 rfl) h637.1 (List.forall_mem_cons.mpr ⟨⟨_, (List.mem_cons_of_mem _ List.mem_cons_self), (vc_X12_look_W_13 hp1 hp2)⟩, (fun _ h => absurd h List.not_mem_nil)⟩)) G1082 (List.forall_mem_cons.mpr ⟨⟨_, List.mem_cons_self, vc_X12_look_W_12⟩, (List.forall_mem_cons.mpr ⟨⟨_, (List.mem_cons_of_mem _ List.mem_cons_self), (vc_X12_look_W_13 hp1 hp2)⟩, (List.forall_mem_cons.mpr ⟨⟨_, (List.mem_cons_of_mem _ (List.mem_cons_of_mem _ List.mem_cons_self)), vc_X12_say_W_25⟩, (fun _ h => absurd h List.not_mem_nil)⟩)⟩)⟩)), I1083, I1084, (((W1087 z1076 μ1077 rfl h1079 T1080 F1081) z1089 q1090 h1091).1 h1118), trivial⟩
          have h1119 : 0 ≤ z1076 ∧ z1076 ≤ 19 := (vc_X12_tieOf_3 h1118 h1079 h1091)
          have h1120 : 1 ≤ z1089 ∧ z1089 ≤ 20 := (vc_X12_tieOf_4 h1118 h1119 h1091)
          refine sv_aload_n (pc := 176) dX12_look_176 rfl rfl ?_
          refine mr_iload (pc := 177) (z := z1076) dX12_look_177 rfl ?_
          refine mr_iload_n (pc := 179) (z := p1) dX12_look_179 rfl rfl ?_
          obtain ⟨z1121, q1122⟩ : ∃ z, μ1077 110 ((2 * z1076).toNat) = z := ⟨_, rfl⟩
          have h1123 : (0 ≤ z1121 ∧ z1121 ≤ 9) := by rw [← q1122]; exact T1080 110 110 (A_110 hw) ((2 * z1076).toNat)
          obtain ⟨z1124, q1125⟩ : ∃ z, μ1077 110 (((2 * z1076) + 1).toNat) = z := ⟨_, rfl⟩
          have h1126 : (0 ≤ z1124 ∧ z1124 ≤ 9) := by rw [← q1125]; exact T1080 110 110 (A_110 hw) (((2 * z1076) + 1).toNat)
          have W1132 := (((((W1087 z1076 μ1077 rfl h1079 T1080 F1081) z1089 q1090 h1091).2 h1118) z1121 q1122 h1123) z1124 q1125 h1126)
          refine mr_cVP (pc := 180) (c_X12_isAt_W hw T1080 h1119 (rW (c := (-2147483648)) (d := 2147483647) hp1 rfl) q1122 q1125 W1132) (gOk _ _ _ _ _) dX12_look_180 (tX12_isAt _ _ _ _ _) ⟨wV_X12_isAt, wL_X12_isAt⟩ wM_X12_562 (gCX12 _ _ _ _ _) rfl (A_106 hw) rfl ⟨le_t rfl, le_t rfl⟩ ⟨le_t rfl, le_t rfl⟩ rfl (le_t rfl) fun z1131 h1130 => ?_
          refine mr_if_eq (pc := 183) (tgt := 204) dX12_look_183 (by decide) (r32 h1130.1 rfl) (fun h1146 => ?_) (fun h1146 => ?_)
          · have h1147 : 0 ≤ z1131 ∧ z1131 ≤ 0 := (vc_X12_candidates_W_5 h1146 h1130.2.1 h1130.2.2.1 hp1 h1123 h1126 h1130.1)
            have h1148 : ¬ z1121 = p1 ∧ ¬ z1124 = p1 := (h1130.2.2.1 (vc_X12_candidates_W_6 h1130.2.1 h1130.2.2.1 h1146 hp1 h1123 h1126 h1147))
            refine mr_iinc (pc := 204) (lv' := [(5, iv (z1076 + 1)), (0, .ref 106), (1, iv p1), (2, iv p2)]) dX12_look_204 rfl (by decide) rfl ?_
            refine sv_goto (pc := 207) (tgt := 167) dX12_look_207 (by decide) ?_
            refine mr_lvS (lv' := [(0, .ref 106), (1, iv p1), (2, iv p2), (5, iv (z1076 + 1))]) (List.forall_mem_cons.mpr ⟨rfl, List.forall_mem_cons.mpr ⟨rfl, List.forall_mem_cons.mpr ⟨rfl, List.forall_mem_cons.mpr ⟨rfl, fun _ h => absurd h List.not_mem_nil⟩⟩⟩⟩) ?_
            exact ih1088 (z1076 + 1) μ1077 T1080 (mF.call mF.refl F1081 rfl) (mG.call mG.refl G1082 (List.forall_mem_cons.mpr ⟨⟨_, List.mem_cons_self, vc_X12_look_W_12⟩, (List.forall_mem_cons.mpr ⟨⟨_, (List.mem_cons_of_mem _ List.mem_cons_self), (vc_X12_look_W_20 h1130.2.1 h1130.2.2.1 h1148 h1146 hp1 hp2 h1123 h1126 h1147)⟩, (List.forall_mem_cons.mpr ⟨⟨_, (List.mem_cons_of_mem _ (List.mem_cons_of_mem _ List.mem_cons_self)), vc_X12_say_W_25⟩, (fun _ h => absurd h List.not_mem_nil)⟩)⟩)⟩)) (rW (c := 0) (d := 20) (rAdd (e := 1) (f := 20) h1119 (rR (x := 1)) rfl) rfl) I1083 I1084 I1085 (vc_X12_tieOf_5 (nS h1086) h1118 h1119 h1120) ((h1130.2.2.2.1 h1130.1).1 h1146)
          have h1149 : 1 ≤ z1131 ∧ z1131 ≤ 1 := (vc_X12_candidates_W_12 h1146 h1130.2.1 h1130.2.2.1 hp1 h1123 h1126 h1130.1)
          have h1150 : z1121 = p1 ∨ z1124 = p1 := (h1130.2.1 (vc_X12_candidates_W_13 h1130.2.1 h1130.2.2.1 h1146 hp1 h1123 h1126 h1149))
          refine sv_aload_n (pc := 186) dX12_look_186 rfl rfl ?_
          refine gf_X12_9 (pc := 187) dX12_look_187 wF_X12_53 (A_106 hw) T1080 ?_
          refine mr_iload (pc := 190) (z := z1076) dX12_look_190 rfl ?_
          refine la_112 (pc := 192) dX12_look_192 (A_112 hw) T1080 (rIx (n := 20) h1119 rfl) fun z1151 q1152 h1153 => ?_
          refine mr_if_eq (pc := 193) (tgt := 204) dX12_look_193 (by decide) (r32 h1153 rfl) (fun h1160 => ?_) (fun h1160 => ?_)
          · have h1161 : 0 ≤ z1151 ∧ z1151 ≤ 0 := (vc_X12_ring_22 h1160 h1153)
            refine mr_iinc (pc := 204) (lv' := [(5, iv (z1076 + 1)), (0, .ref 106), (1, iv p1), (2, iv p2)]) dX12_look_204 rfl (by decide) rfl ?_
            refine sv_goto (pc := 207) (tgt := 167) dX12_look_207 (by decide) ?_
            refine mr_lvS (lv' := [(0, .ref 106), (1, iv p1), (2, iv p2), (5, iv (z1076 + 1))]) (List.forall_mem_cons.mpr ⟨rfl, List.forall_mem_cons.mpr ⟨rfl, List.forall_mem_cons.mpr ⟨rfl, List.forall_mem_cons.mpr ⟨rfl, fun _ h => absurd h List.not_mem_nil⟩⟩⟩⟩) ?_
            exact ih1088 (z1076 + 1) μ1077 T1080 (mF.call mF.refl F1081 rfl) (mG.call mG.refl G1082 (List.forall_mem_cons.mpr ⟨⟨_, List.mem_cons_self, vc_X12_look_W_12⟩, (List.forall_mem_cons.mpr ⟨⟨_, (List.mem_cons_of_mem _ List.mem_cons_self), (vc_X12_look_W_24 h1130.2.1 h1130.2.2.1 h1150 h1146 hp1 hp2 h1123 h1126 h1149)⟩, (List.forall_mem_cons.mpr ⟨⟨_, (List.mem_cons_of_mem _ (List.mem_cons_of_mem _ List.mem_cons_self)), vc_X12_say_W_25⟩, (fun _ h => absurd h List.not_mem_nil)⟩)⟩)⟩)) (rW (c := 0) (d := 20) (rAdd (e := 1) (f := 20) h1119 (rR (x := 1)) rfl) rfl) I1083 I1084 I1085 (vc_X12_tieOf_5 (nS h1086) h1118 h1119 h1120) ((((h1130.2.2.2.1 h1130.1).2 h1146) z1151 q1152 h1153).1 h1160)
          have h1162 : 1 ≤ z1151 ∧ z1151 ≤ 1 := (vc_X12_ring_24 h1160 h1153)
          refine sv_aload_n (pc := 196) dX12_look_196 rfl rfl ?_
          refine mr_iload_n (pc := 197) (z := p1) dX12_look_197 rfl rfl ?_
          refine mr_iload (pc := 198) (z := z1076) dX12_look_198 rfl ?_
          refine mr_iload_n (pc := 200) (z := p2) dX12_look_200 rfl rfl ?_
          refine mr_cVV (pc := 201) (c_X12_say_W hw T1080 hp1 h1119 hp2 q1122 q1125 q1090 (vc_X12_candidates_W_14 h1118 h1119 h1120) (vc_X12_candidates_W_15 h1130.2.1 h1130.2.2.1 h1150 h1146 hp1 h1123 h1126 h1149) I1083 I1084 I1085 ((((h1130.2.2.2.1 h1130.1).2 h1146) z1151 q1152 h1153).2 h1160)) (gOk _ _ _ _ _) dX12_look_201 (tX12_say _ _ _ _ _) ⟨wV_X12_say, wL_X12_say⟩ wM_X12_587 (gCX12 _ _ _ _ _) rfl (A_106 hw) rfl ⟨le_t rfl, le_t rfl⟩ ⟨le_t rfl, le_t rfl⟩ rfl (le_t rfl) fun μ1163 T1164 F1165 h1166 => ?_
          refine mr_iinc (pc := 204) (lv' := [(5, iv (z1076 + 1)), (0, .ref 106), (1, iv p1), (2, iv p2)]) dX12_look_204 rfl (by decide) rfl ?_
          refine sv_goto (pc := 207) (tgt := 167) dX12_look_207 (by decide) ?_
          refine mr_lvS (lv' := [(0, .ref 106), (1, iv p1), (2, iv p2), (5, iv (z1076 + 1))]) (List.forall_mem_cons.mpr ⟨rfl, List.forall_mem_cons.mpr ⟨rfl, List.forall_mem_cons.mpr ⟨rfl, List.forall_mem_cons.mpr ⟨rfl, fun _ h => absurd h List.not_mem_nil⟩⟩⟩⟩) ?_
          exact ih1088 (z1076 + 1) μ1163 T1164 (mF.call (mF.call mF.refl F1081 rfl) F1165 rfl) (mG.call (mG.call mG.refl G1082 (List.forall_mem_cons.mpr ⟨⟨_, List.mem_cons_self, vc_X12_look_W_12⟩, (List.forall_mem_cons.mpr ⟨⟨_, (List.mem_cons_of_mem _ List.mem_cons_self), (vc_X12_look_W_24 h1130.2.1 h1130.2.2.1 h1150 h1146 hp1 hp2 h1123 h1126 h1149)⟩, (List.forall_mem_cons.mpr ⟨⟨_, (List.mem_cons_of_mem _ (List.mem_cons_of_mem _ List.mem_cons_self)), vc_X12_say_W_25⟩, (fun _ h => absurd h List.not_mem_nil)⟩)⟩)⟩)) h1166.1 (List.forall_mem_cons.mpr ⟨⟨_, List.mem_cons_self, vc_X12_look_W_28⟩, (List.forall_mem_cons.mpr ⟨⟨_, (List.mem_cons_of_mem _ (List.mem_cons_of_mem _ List.mem_cons_self)), vc_X12_say_W_25⟩, (fun _ h => absurd h List.not_mem_nil)⟩)⟩)) (rW (c := 0) (d := 20) (rAdd (e := 1) (f := 20) h1119 (rR (x := 1)) rfl) rfl) h1166.2.1 h1166.2.2.1 (PK.keep I1085 hw ((mF.call mF.refl F1165 rfl) : mF [106026, 106027, 106028, 106029, 106030, 106031, 106072, 126999, 151999, 152999, 153999, 155999, 156999, 157999, 158999, 159999, 160999] w μ1077 μ1163) rfl) (vc_X12_tieOf_5 (nS h1086) h1118 h1119 h1120) (h1166.2.2.2.1 T1164 F1165)
      refine mr_lvS (lv' := [(0, .ref 106), (1, iv p1), (2, iv p2), (5, iv 0)]) (List.forall_mem_cons.mpr ⟨rfl, List.forall_mem_cons.mpr ⟨rfl, List.forall_mem_cons.mpr ⟨rfl, List.forall_mem_cons.mpr ⟨rfl, fun _ h => absurd h List.not_mem_nil⟩⟩⟩⟩) ?_
      exact L1078 22 0 μ631 T632 mF.refl mG.refl (rW (c := 0) (d := 20) (rR (x := 0)) rfl) I641 (EV.keep I68 hw ((mF.call (mF.up mF.refl (A_161 hw) u629 rfl) F633 rfl) : mF [126999, 161999] w μ63 μ631) rfl) (PK.keep I69 hw ((mF.call (mF.up mF.refl (A_161 hw) u629 rfl) F633 rfl) : mF [126999, 161999] w μ63 μ631) rfl) vc_X12_tieOf_12 ((h637.2.2.1 T632 F633) z635 q636)
    have h1167 : 1 ≤ z625 ∧ z625 ≤ 1 := (vc_X12_ring_24 h626 h624.1)
    exact mr_vret dX12_look_146 rfl (le_t rfl) (le_t rfl) T64 (mF.call mF.refl F65 rfl) ⟨(mG.call mG.refl G66 (List.forall_mem_cons.mpr ⟨⟨_, List.mem_cons_self, vc_X12_look_W_12⟩, (List.forall_mem_cons.mpr ⟨⟨_, (List.mem_cons_of_mem _ List.mem_cons_self), (vc_X12_look_W_13 hp1 hp2)⟩, (List.forall_mem_cons.mpr ⟨⟨_, (List.mem_cons_of_mem _ (List.mem_cons_of_mem _ List.mem_cons_self)), vc_X12_say_W_25⟩, (fun _ h => absurd h List.not_mem_nil)⟩)⟩)⟩)), I67, I68, ((h624.2.1 h624.1).2 h626), trivial⟩
  refine mr_if_lt (pc := 13) (tgt := 91) dX12_look_13 (by decide) (r32 h3 rfl) (fun h1168 => ?_) (fun h1168 => ?_)
  · have h1169 : (-1) ≤ z1 ∧ z1 ≤ (-1) := (vc_X12_look_W_48 h1168 h3)
    refine sv_aload_n (pc := 91) dX12_look_91 rfl rfl ?_
    refine mr_iload_n (pc := 92) (z := p1) dX12_look_92 rfl rfl ?_
    refine mr_iload_n (pc := 93) (z := p2) dX12_look_93 rfl rfl ?_
    obtain ⟨z1170, q1171⟩ : ∃ z, μ 106 6 = z := ⟨_, rfl⟩
    have h1172 : (0 ≤ z1170 ∧ z1170 ≤ 20) := by rw [← q1171]; exact hT 106 106 (A_106 hw) 6
    refine mr_cVI (pc := 94) (c_X12_pick_W hw hT hp1 hp2 q1171 hIPK (((hQ z1 q2 h3).1 h1168) z1170 q1171 h1172)) (gOk _ _ _ _ _) dX12_look_94 (tX12_pick _ _ _ _ _) ⟨wV_X12_pick, wL_X12_pick⟩ wM_X12_581 (gCX12 _ _ _ _ _) rfl (A_106 hw) rfl ⟨le_t rfl, le_t rfl⟩ ⟨le_t rfl, le_t rfl⟩ rfl (le_t rfl) fun z1177 μ1173 T1174 F1175 h1176 => ?_
    refine mr_istore (pc := 97) (lv' := [(4, iv z1177), (3, iv ((10 * p1) + p2)), (0, .ref 106), (1, iv p1), (2, iv p2)]) dX12_look_97 (by decide) rfl ?_
    refine mr_iload (pc := 99) (z := z1177) dX12_look_99 rfl ?_
    refine mr_ldc (pc := 101) (z := (-99999999)) dX12_look_101 wG_X12_29 (by decide) ?_
    refine mr_icmp_ne (pc := 103) (tgt := 114) dX12_look_103 (by decide) (r32 h1176.1 rfl) (r32 (rR (x := (-99999999))) rfl) (fun h1178 => ?_) (fun h1178 => ?_)
    · have h1179 : 0 ≤ z1177 ∧ z1177 ≤ 19 := (vc_X12_provides_2 h1178 h1176.2.2.1 h1176.1)
      refine sv_aload_n (pc := 114) dX12_look_114 rfl rfl ?_
      refine mr_iconst (pc := 115) (z := 4) dX12_look_115 ?_
      refine mr_iload (pc := 116) (z := z1177) dX12_look_116 rfl ?_
      refine mr_iadd (pc := 118) (x := 4) (y := z1177) dX12_look_118 ?_
      refine mr_iconst (pc := 119) (z := 3) dX12_look_119 ?_
      obtain ⟨z1180, q1181⟩ : ∃ z, μ1173 126 ((40 * (4 + z1177)).toNat) = z := ⟨_, rfl⟩
      have h1182 := rt7 T1174 (A_126 hw) (vc_X12_look_W_50 h1176.2.2.1 h1178 h1179) q1181
      have h1183 : (-1) ≤ z1180 ∧ z1180 ≤ 9 := h1182.2.1 (vc_X12_look_W_51 h1176.2.2.1 h1178 h1179)
      have h1184 : 0 ≤ z1180 := pk_use h1176.2.2.2.1 (vc_X12_look_W_52 h1176.2.2.1 h1178 h1179) (vc_X12_look_W_53 h1176.2.2.1 h1178 h1179) q1181
      have h1185 : 0 ≤ z1180 ∧ z1180 ≤ 9 := (vc_X12_isThere_6 h1184 h1183)
      refine mr_cVV (pc := 120) (c_X12_copy_W hw T1174 (rW (c := 0) (d := 2099) (rAdd (e := 4) (f := 23) (rR (x := 4)) h1179 rfl) rfl) (rW (c := 0) (d := 2099) (rR (x := 3)) rfl) q1181 (vc_X12_look_W_55 h1176.2.2.1 h1178 h1179) ((((h1176.2.2.2.2.1 T1174 F1175) h1176.1).1 h1178) z1180 q1181 h1182)) (gOk _ _ _ _ _) dX12_look_120 (tX12_copy _ _ _ _ _) ⟨wV_X12_copy, wL_X12_copy⟩ wM_X12_559 (gCX12 _ _ _ _ _) rfl (A_106 hw) rfl ⟨le_t rfl, le_t rfl⟩ ⟨le_t rfl, le_t rfl⟩ rfl (le_t rfl) fun μ1186 T1187 F1188 h1189 => ?_
      obtain ⟨z1190, q1191, h1192⟩ := h1189
      have h1193 := rt7 T1187 (A_126 hw) vc_X12_look_W_56 q1191
      have h1194 : (-1) ≤ z1190 ∧ z1190 ≤ 9 := h1193.2.1 vc_X12_look_W_57
      have q1195 : μ1186 126 (((40 * 3) : Int).toNat) = z1180 := q1191.trans h1192.2.1
      have h1196 : 0 ≤ z1190 ∧ z1190 ≤ 9 := (vc_X12_look_W_58 h1192.2.1 h1184 h1185 h1194)
      refine mr_lvS (lv' := [(0, .ref 106), (1, iv p1), (2, iv p2), (3, iv ((10 * p1) + p2)), (4, iv z1177)]) (List.forall_mem_cons.mpr ⟨rfl, List.forall_mem_cons.mpr ⟨rfl, List.forall_mem_cons.mpr ⟨rfl, List.forall_mem_cons.mpr ⟨rfl, List.forall_mem_cons.mpr ⟨rfl, fun _ h => absurd h List.not_mem_nil⟩⟩⟩⟩⟩) ?_
      exact J71 z1177 μ1186 T1187 (mF.call (mF.call mF.refl F1175 rfl) F1188 rfl) (mG.call (mG.call mG.refl h1176.2.1 (List.forall_mem_cons.mpr ⟨⟨_, List.mem_cons_self, vc_X12_look_W_59⟩, (fun _ h => absurd h List.not_mem_nil)⟩)) h1192.1 (List.forall_mem_cons.mpr ⟨⟨_, List.mem_cons_self, vc_X12_look_W_60⟩, (fun _ h => absurd h List.not_mem_nil)⟩)) (rW (c := (-99999999)) (d := 19) h1179 rfl) (vc_X12_look_W_61 h1176.2.2.1 h1178 h1179) (G1.keep hIG1 hw ((mF.call (mF.call mF.refl F1175 rfl) F1188 rfl) : mF [106026, 106027, 106028, 106029, 106030, 106031, 126999, 151999, 152999, 153999, 165999] w μ μ1186) rfl rfl ((mG.call (mG.call mG.refl h1176.2.1 (List.forall_mem_cons.mpr ⟨⟨_, List.mem_cons_self, vc_X12_candidates_W_2⟩, (fun _ h => absurd h List.not_mem_nil)⟩)) h1192.1 (List.forall_mem_cons.mpr ⟨⟨_, (List.mem_cons_of_mem _ List.mem_cons_self), vc_X12_look_W_63⟩, (fun _ h => absurd h List.not_mem_nil)⟩)) : mG [(160, 960), ((40 * 3), ((40 * 3) + 40))] μ μ1186) (List.forall_mem_cons.mpr ⟨vc_X12_look_W_65, (List.forall_mem_cons.mpr ⟨vc_X12_look_W_64, (fun _ h => absurd h List.not_mem_nil)⟩)⟩)) (EV.keep hIEV hw ((mF.call (mF.call mF.refl F1175 rfl) F1188 rfl) : mF [106026, 106027, 106028, 106029, 106030, 106031, 126999, 151999, 152999, 153999, 165999] w μ μ1186) rfl) (PK.keep hIPK hw ((mF.call (mF.call mF.refl F1175 rfl) F1188 rfl) : mF [106026, 106027, 106028, 106029, 106030, 106031, 126999, 151999, 152999, 153999, 165999] w μ μ1186) rfl) (by rw [(eqIx vc_X12_look_W_66 q1195)]; exact (vc_X12_look_W_67 h1176.2.2.1 h1178 h1184 h1192.2.1 h1179 h1185 h1196)) ((h1192.2.2.1 T1187 F1188) z1190 q1191)
    have h1197 : (-99999999) ≤ z1177 ∧ z1177 ≤ (-99999999) := (vc_X12_provides_1 h1178 h1176.2.2.1 h1176.1)
    refine sv_aload_n (pc := 106) dX12_look_106 rfl rfl ?_
    refine mr_iconst (pc := 107) (z := 3) dX12_look_107 ?_
    refine mr_cVV (pc := 108) (c_X12_nothing_W hw T1174 (rW (c := 0) (d := 2099) (rR (x := 3)) rfl) (((h1176.2.2.2.2.1 T1174 F1175) h1176.1).2 h1178)) (gOk _ _ _ _ _) dX12_look_108 (tX12_nothing _ _ _ _ _) ⟨wV_X12_nothing, wL_X12_nothing⟩ wM_X12_539 (gCX12 _ _ _ _ _) rfl (A_106 hw) rfl ⟨le_t rfl, le_t rfl⟩ ⟨le_t rfl, le_t rfl⟩ rfl (le_t rfl) fun μ1198 T1199 F1200 h1201 => ?_
    obtain ⟨z1202, q1203, h1204⟩ := h1201
    have h1205 := rt7 T1199 (A_126 hw) vc_X12_look_W_56 q1203
    have h1206 : (-1) ≤ z1202 ∧ z1202 ≤ 9 := h1205.2.1 vc_X12_look_W_57
    have q1207 : μ1198 126 (((40 * 3) : Int).toNat) = (-1) := q1203.trans h1204.2.1
    have h1208 : (-1) ≤ z1202 ∧ z1202 ≤ (-1) := (vc_X12_candidate_4 h1204.2.1 h1206)
    refine sv_goto (pc := 111) (tgt := 123) dX12_look_111 (by decide) ?_
    refine mr_lvS (lv' := [(0, .ref 106), (1, iv p1), (2, iv p2), (3, iv ((10 * p1) + p2)), (4, iv z1177)]) (List.forall_mem_cons.mpr ⟨rfl, List.forall_mem_cons.mpr ⟨rfl, List.forall_mem_cons.mpr ⟨rfl, List.forall_mem_cons.mpr ⟨rfl, List.forall_mem_cons.mpr ⟨rfl, fun _ h => absurd h List.not_mem_nil⟩⟩⟩⟩⟩) ?_
    exact J71 z1177 μ1198 T1199 (mF.call (mF.call mF.refl F1175 rfl) F1200 rfl) (mG.call (mG.call mG.refl h1176.2.1 (List.forall_mem_cons.mpr ⟨⟨_, List.mem_cons_self, vc_X12_look_W_59⟩, (fun _ h => absurd h List.not_mem_nil)⟩)) h1204.1 (List.forall_mem_cons.mpr ⟨⟨_, List.mem_cons_self, vc_X12_look_W_70⟩, (fun _ h => absurd h List.not_mem_nil)⟩)) (rW (c := (-99999999)) (d := 19) h1197 rfl) (vc_X12_look_W_71 h1176.2.2.1 h1178 h1197) (G1.keep hIG1 hw ((mF.call (mF.call mF.refl F1175 rfl) F1200 rfl) : mF [106026, 106027, 106028, 106029, 106030, 106031, 126999, 151999, 152999, 153999, 165999] w μ μ1198) rfl rfl ((mG.call (mG.call mG.refl h1176.2.1 (List.forall_mem_cons.mpr ⟨⟨_, List.mem_cons_self, vc_X12_candidates_W_2⟩, (fun _ h => absurd h List.not_mem_nil)⟩)) h1204.1 (List.forall_mem_cons.mpr ⟨⟨_, (List.mem_cons_of_mem _ List.mem_cons_self), vc_X12_look_W_72⟩, (fun _ h => absurd h List.not_mem_nil)⟩)) : mG [(160, 960), ((40 * 3), ((40 * 3) + 1))] μ μ1198) (List.forall_mem_cons.mpr ⟨vc_X12_look_W_65, (List.forall_mem_cons.mpr ⟨vc_X12_look_W_73, (fun _ h => absurd h List.not_mem_nil)⟩)⟩)) (EV.keep hIEV hw ((mF.call (mF.call mF.refl F1175 rfl) F1200 rfl) : mF [106026, 106027, 106028, 106029, 106030, 106031, 126999, 151999, 152999, 153999, 165999] w μ μ1198) rfl) (PK.keep hIPK hw ((mF.call (mF.call mF.refl F1175 rfl) F1200 rfl) : mF [106026, 106027, 106028, 106029, 106030, 106031, 126999, 151999, 152999, 153999, 165999] w μ μ1198) rfl) (by rw [(eqIx vc_X12_look_W_66 q1207)]; exact (vc_X12_look_W_74 h1176.2.2.1 h1178 h1197)) ((h1204.2.2.1 T1199 F1200) z1202 q1203)
  have h1209 : 0 ≤ z1 ∧ z1 ≤ 2 := (vc_X12_look_W_75 h1168 h3)
  refine mr_bipush (pc := 16) (z := (-4)) dX12_look_16 (by decide) ?_
  refine mr_istore (pc := 18) (lv' := [(4, iv (-4)), (3, iv ((10 * p1) + p2)), (0, .ref 106), (1, iv p1), (2, iv p2)]) dX12_look_18 (by decide) rfl ?_
  refine mr_bipush (pc := 20) (z := 120) dX12_look_20 (by decide) ?_
  refine mr_istore (pc := 22) (lv' := [(5, iv 120), (4, iv (-4)), (3, iv ((10 * p1) + p2)), (0, .ref 106), (1, iv p1), (2, iv p2)]) dX12_look_22 (by decide) rfl ?_
  refine sv_aload_n (pc := 24) dX12_look_24 rfl rfl ?_
  refine gf_X12_32 (pc := 25) dX12_look_25 wF_X12_148 (A_106 hw) hT ?_
  refine mr_iload (pc := 28) (z := 120) dX12_look_28 rfl ?_
  refine mr_iload_n (pc := 30) (z := p2) dX12_look_30 rfl rfl ?_
  refine ss_126 (pc := 31) dX12_look_31 (A_126 hw) hT (rIx (n := 84000) (rR (x := 120)) rfl) (vc_X12_look_W_76 hp2) fun μ1210 u1211 T1212 => ?_
  refine sv_aload_n (pc := 32) dX12_look_32 rfl rfl ?_
  refine gf_X12_32 (pc := 33) dX12_look_33 wF_X12_148 (A_106 hw) T1212 ?_
  refine mr_iload (pc := 36) (z := 120) dX12_look_36 rfl ?_
  refine mr_iconst (pc := 38) (z := 1) dX12_look_38 ?_
  refine mr_iadd (pc := 39) (x := 120) (y := 1) dX12_look_39 ?_
  refine mr_bipush (pc := 40) (z := 100) dX12_look_40 (by decide) ?_
  refine ss_126 (pc := 42) dX12_look_42 (A_126 hw) T1212 (rIx (n := 84000) (rAdd (e := 121) (f := 121) (rR (x := 120)) (rR (x := 1)) rfl) rfl) vc_X12_look_W_77 fun μ1213 u1214 T1215 => ?_
  refine sv_aload_n (pc := 43) dX12_look_43 rfl rfl ?_
  refine gf_X12_32 (pc := 44) dX12_look_44 wF_X12_148 (A_106 hw) T1215 ?_
  refine mr_iload (pc := 47) (z := 120) dX12_look_47 rfl ?_
  refine mr_iconst (pc := 49) (z := 2) dX12_look_49 ?_
  refine mr_iadd (pc := 50) (x := 120) (y := 2) dX12_look_50 ?_
  refine sv_aload_n (pc := 51) dX12_look_51 rfl rfl ?_
  refine gf_X12_82 (pc := 52) dX12_look_52 wF_X12_448 (A_106 hw) T1215 ?_
  refine mr_iload_n (pc := 55) (z := ((10 * p1) + p2)) dX12_look_55 rfl rfl ?_
  refine lk_162 (pc := 56) dX12_look_56 (A_162 hw) (rIx (n := 100) (rAdd (e := 0) (f := 99) (rMulL (n := 10) (e := 0) (f := 90) hp1 rfl) hp2 rfl) rfl) (u1214.f (Or.inl (mAt.ne (A_126 hw) (A_162 hw) rfl)) (u1211.f (Or.inl (mAt.ne (A_126 hw) (A_162 hw) rfl)) q2)) ?_
  refine ss_126 (pc := 57) dX12_look_57 (A_126 hw) T1215 (rIx (n := 84000) (rAdd (e := 122) (f := 122) (rR (x := 120)) (rR (x := 2)) rfl) rfl) (vc_X12_look_W_78 h1168 h1209) fun μ1216 u1217 T1218 => ?_
  refine sv_aload_n (pc := 58) dX12_look_58 rfl rfl ?_
  refine gf_X12_32 (pc := 59) dX12_look_59 wF_X12_148 (A_106 hw) T1218 ?_
  refine mr_iload (pc := 62) (z := 120) dX12_look_62 rfl ?_
  refine mr_iconst (pc := 64) (z := 3) dX12_look_64 ?_
  refine mr_iadd (pc := 65) (x := 120) (y := 3) dX12_look_65 ?_
  refine mr_iconst (pc := 66) (z := 0) dX12_look_66 ?_
  refine ss_126 (pc := 67) dX12_look_67 (A_126 hw) T1218 (rIx (n := 84000) (rAdd (e := 123) (f := 123) (rR (x := 120)) (rR (x := 3)) rfl) rfl) vc_X12_look_W_79 fun μ1219 u1220 T1221 => ?_
  refine sv_aload_n (pc := 68) dX12_look_68 rfl rfl ?_
  refine gf_X12_32 (pc := 69) dX12_look_69 wF_X12_148 (A_106 hw) T1221 ?_
  refine mr_iload (pc := 72) (z := 120) dX12_look_72 rfl ?_
  refine mr_iconst (pc := 74) (z := 4) dX12_look_74 ?_
  refine mr_iadd (pc := 75) (x := 120) (y := 4) dX12_look_75 ?_
  refine mr_iconst (pc := 76) (z := 0) dX12_look_76 ?_
  refine ss_126 (pc := 77) dX12_look_77 (A_126 hw) T1221 (rIx (n := 84000) (rAdd (e := 124) (f := 124) (rR (x := 120)) (rR (x := 4)) rfl) rfl) vc_X12_look_W_80 fun μ1222 u1223 T1224 => ?_
  refine sv_aload_n (pc := 78) dX12_look_78 rfl rfl ?_
  refine gf_X12_32 (pc := 79) dX12_look_79 wF_X12_148 (A_106 hw) T1224 ?_
  refine mr_iload (pc := 82) (z := 120) dX12_look_82 rfl ?_
  refine mr_iconst (pc := 84) (z := 5) dX12_look_84 ?_
  refine mr_iadd (pc := 85) (x := 120) (y := 5) dX12_look_85 ?_
  refine mr_iconst (pc := 86) (z := 0) dX12_look_86 ?_
  refine ss_126 (pc := 87) dX12_look_87 (A_126 hw) T1224 (rIx (n := 84000) (rAdd (e := 125) (f := 125) (rR (x := 120)) (rR (x := 5)) rfl) rfl) vc_X12_look_W_81 fun μ1225 u1226 T1227 => ?_
  refine sv_goto (pc := 88) (tgt := 123) dX12_look_88 (by decide) ?_
  refine mr_lvS (lv' := [(0, .ref 106), (1, iv p1), (2, iv p2), (3, iv ((10 * p1) + p2)), (4, iv (-4))]) (List.forall_mem_cons.mpr ⟨rfl, List.forall_mem_cons.mpr ⟨rfl, List.forall_mem_cons.mpr ⟨rfl, List.forall_mem_cons.mpr ⟨rfl, List.forall_mem_cons.mpr ⟨rfl, fun _ h => absurd h List.not_mem_nil⟩⟩⟩⟩⟩) ?_
  exact J71 (-4) μ1225 T1227 (mF.up (mF.up (mF.up (mF.up (mF.up (mF.up mF.refl (A_126 hw) u1211 rfl) (A_126 hw) u1214 rfl) (A_126 hw) u1217 rfl) (A_126 hw) u1220 rfl) (A_126 hw) u1223 rfl) (A_126 hw) u1226 rfl) (mG.up (mG.up (mG.up (mG.up (mG.up (mG.up mG.refl u1211 List.mem_cons_self vc_X12_look_W_82) u1214 List.mem_cons_self vc_X12_look_W_83) u1217 List.mem_cons_self vc_X12_look_W_84) u1220 List.mem_cons_self vc_X12_look_W_85) u1223 List.mem_cons_self vc_X12_look_W_86) u1226 List.mem_cons_self vc_X12_look_W_87) (rW (c := (-99999999)) (d := 19) (rR (x := (-4))) rfl) vc_X12_look_W_88 (G1.keep hIG1 hw ((mF.up (mF.up (mF.up (mF.up (mF.up (mF.up mF.refl (A_126 hw) u1211 rfl) (A_126 hw) u1214 rfl) (A_126 hw) u1217 rfl) (A_126 hw) u1220 rfl) (A_126 hw) u1223 rfl) (A_126 hw) u1226 rfl) : mF [126999] w μ μ1225) rfl rfl ((mG.up (mG.up (mG.up (mG.up (mG.up (mG.up mG.refl u1211 List.mem_cons_self vc_X12_look_W_89) u1214 (List.mem_cons_of_mem _ List.mem_cons_self) vc_X12_look_W_90) u1217 (List.mem_cons_of_mem _ (List.mem_cons_of_mem _ List.mem_cons_self)) vc_X12_look_W_91) u1220 (List.mem_cons_of_mem _ (List.mem_cons_of_mem _ (List.mem_cons_of_mem _ List.mem_cons_self))) vc_X12_look_W_92) u1223 (List.mem_cons_of_mem _ (List.mem_cons_of_mem _ (List.mem_cons_of_mem _ (List.mem_cons_of_mem _ List.mem_cons_self)))) vc_X12_look_W_93) u1226 (List.mem_cons_of_mem _ (List.mem_cons_of_mem _ (List.mem_cons_of_mem _ (List.mem_cons_of_mem _ (List.mem_cons_of_mem _ List.mem_cons_self))))) vc_X12_look_W_94) : mG [(120, (120 + 1)), ((120 + 1), ((120 + 1) + 1)), ((120 + 2), ((120 + 2) + 1)), ((120 + 3), ((120 + 3) + 1)), ((120 + 4), ((120 + 4) + 1)), ((120 + 5), ((120 + 5) + 1))] μ μ1225) (List.forall_mem_cons.mpr ⟨vc_X12_look_W_100, (List.forall_mem_cons.mpr ⟨vc_X12_look_W_99, (List.forall_mem_cons.mpr ⟨vc_X12_look_W_98, (List.forall_mem_cons.mpr ⟨vc_X12_look_W_97, (List.forall_mem_cons.mpr ⟨vc_X12_look_W_96, (List.forall_mem_cons.mpr ⟨vc_X12_look_W_95, (fun _ h => absurd h List.not_mem_nil)⟩)⟩)⟩)⟩)⟩)⟩)) (EV.keep hIEV hw ((mF.up (mF.up (mF.up (mF.up (mF.up (mF.up mF.refl (A_126 hw) u1211 rfl) (A_126 hw) u1214 rfl) (A_126 hw) u1217 rfl) (A_126 hw) u1220 rfl) (A_126 hw) u1223 rfl) (A_126 hw) u1226 rfl) : mF [126999] w μ μ1225) rfl) (PK.keep hIPK hw ((mF.up (mF.up (mF.up (mF.up (mF.up (mF.up mF.refl (A_126 hw) u1211 rfl) (A_126 hw) u1214 rfl) (A_126 hw) u1217 rfl) (A_126 hw) u1220 rfl) (A_126 hw) u1223 rfl) (A_126 hw) u1226 rfl) : mF [126999] w μ μ1225) rfl) (by rw [(u1226.f (Or.inr vc_X12_look_W_105) (u1223.f (Or.inr vc_X12_look_W_104) (u1220.f (Or.inr vc_X12_look_W_103) (u1217.f (Or.inr vc_X12_look_W_102) (u1214.f (Or.inr vc_X12_look_W_101) u1211.1)))))]; exact (vc_X12_look_W_106 hp2)) ((((((((hQ z1 q2 h3).2 h1168) μ1210 u1211 T1212) μ1213 u1214 T1215) μ1216 u1217 T1218) μ1219 u1220 T1221) μ1222 u1223 T1224) μ1225 u1226 T1227)
def WP_X9_sideOf_W (w : mW) (μ : mM) (a0 : Nat) (p1 : Int) (Q : Int → mM → Prop) : Prop := ∀ z1 : Int, μ a0 0 = z1 → (0 ≤ z1 ∧ z1 ≤ 9 ∧ z1 < w.2.2.2 0) → ((¬ p1 = z1) → ∀ z6 : Int, μ a0 1 = z6 → (0 ≤ z6 ∧ z6 ≤ 9 ∧ z6 < w.2.2.2 0) → ((¬ p1 = z6) → Q ((-1) : Int) μ) ∧ ((p1 = z6) → Q (1 : Int) μ)) ∧ ((p1 = z1) → Q (0 : Int) μ)
set_option maxRecDepth 4000 in
set_option maxHeartbeats 4000000 in
theorem c_X9_sideOf_W {l : Launch} {D : va_G} {c : Nat → ClassId} {H0 : Heap} {sa : Nat × Nat × (Nat → Int32)} {w : mW} {μ : mM} (hw : mWF w) (hT : mT w μ) {a0 : Nat} (hA0 : mAt w a0 220) {p1 : Int} (hp1 : (-2147483648) ≤ p1 ∧ p1 ≤ 2147483647) {Q : Int → mM → Prop} (hQ : WP_X9_sideOf_W w μ a0 p1 Q) : sC (gG l D c H0 sa) mX9_sideOf 1 0 0 [.ref a0, iv p1] (mk w μ) (qP w μ (fun z => ((-1) ≤ z ∧ z ≤ 1) ∧ Q z μ ∧ True)) := by
  refine sC.of rfl (by decide) (le_t rfl) ?_
  refine mr_lvE (lv' := [(0, .ref a0), (1, iv p1)]) rfl ?_
  refine mr_iload_n (pc := 0) (z := p1) dX9_sideOf_0 rfl rfl ?_
  refine sv_aload_n (pc := 1) dX9_sideOf_1 rfl rfl ?_
  refine gf_X9_0 (pc := 2) dX9_sideOf_2 wF_X9_9 hA0 hT fun z1 q2 h3 => ?_
  have h4 : 0 ≤ z1 ∧ z1 ≤ 9 := ⟨h3.1, h3.2.1⟩
  refine mr_icmp_ne (pc := 5) (tgt := 10) dX9_sideOf_5 (by decide) hp1 (r32 h4 rfl) (fun h5 => ?_) (fun h5 => ?_)
  · refine mr_iload_n (pc := 10) (z := p1) dX9_sideOf_10 rfl rfl ?_
    refine sv_aload_n (pc := 11) dX9_sideOf_11 rfl rfl ?_
    refine gf_X9_1 (pc := 12) dX9_sideOf_12 wF_X9_15 hA0 hT fun z6 q7 h8 => ?_
    have h9 : 0 ≤ z6 ∧ z6 ≤ 9 := ⟨h8.1, h8.2.1⟩
    refine mr_icmp_ne (pc := 15) (tgt := 22) dX9_sideOf_15 (by decide) hp1 (r32 h9 rfl) (fun h11 => ?_) (fun h11 => ?_)
    · refine mr_iconst (pc := 22) (z := (-1)) dX9_sideOf_22 ?_
      exact mr_iretP dX9_sideOf_23 rfl (le_t rfl) (le_t rfl) ⟨(rW (c := (-1)) (d := 1) (rR (x := (-1))) rfl), ((((hQ z1 q2 h3).1 h5) z6 q7 h8).1 h11), trivial⟩
    have h12 : 0 ≤ p1 ∧ p1 ≤ 9 := (vc_X9_sideOf_1 h11 h5 h8.2.2 hp1 h4 h9)
    refine mr_iconst (pc := 18) (z := 1) dX9_sideOf_18 ?_
    refine sv_goto (pc := 19) (tgt := 23) dX9_sideOf_19 (by decide) ?_
    exact mr_iretP dX9_sideOf_23 rfl (le_t rfl) (le_t rfl) ⟨(rW (c := (-1)) (d := 1) (rR (x := 1)) rfl), ((((hQ z1 q2 h3).1 h5) z6 q7 h8).2 h11), trivial⟩
  have h13 : 0 ≤ p1 ∧ p1 ≤ 9 := (vc_X9_sideOf_2 h5 h3.2.2 hp1 h4)
  refine mr_iconst (pc := 8) (z := 0) dX9_sideOf_8 ?_
  exact mr_iretP dX9_sideOf_9 rfl (le_t rfl) (le_t rfl) ⟨(rW (c := (-1)) (d := 1) (rR (x := 0)) rfl), ((hQ z1 q2 h3).2 h5), trivial⟩
def WP_X9_placeOf_W (w : mW) (μ : mM) (p1 : Int) (p2 : Int) (Q : Int → mM → Prop) : Prop := Q ((p1 * 10) + p2) μ
set_option maxRecDepth 4000 in
set_option maxHeartbeats 4000000 in
theorem c_X9_placeOf_W {l : Launch} {D : va_G} {c : Nat → ClassId} {H0 : Heap} {sa : Nat × Nat × (Nat → Int32)} {w : mW} {μ : mM} (hw : mWF w) (hT : mT w μ) {p1 : Int} (hp1 : 0 ≤ p1 ∧ p1 ≤ 1) {p2 : Int} (hp2 : 0 ≤ p2 ∧ p2 ≤ 9) {Q : Int → mM → Prop} (hQ : WP_X9_placeOf_W w μ p1 p2 Q) : sC (gG l D c H0 sa) mX9_placeOf 1 0 0 [iv p1, iv p2] (mk w μ) (qP w μ (fun z => (0 ≤ z ∧ z ≤ 19) ∧ Q z μ ∧ True)) := by
  refine sC.of rfl (by decide) (le_t rfl) ?_
  refine mr_lvE (lv' := [(0, iv p1), (1, iv p2)]) rfl ?_
  refine mr_iload_n (pc := 0) (z := p1) dX9_placeOf_0 rfl rfl ?_
  refine mr_bipush (pc := 1) (z := 10) dX9_placeOf_1 (by decide) ?_
  refine mr_imul (pc := 3) (x := p1) (y := 10) dX9_placeOf_3 ?_
  refine mr_iload_n (pc := 4) (z := p2) dX9_placeOf_4 rfl rfl ?_
  refine mr_iadd (pc := 5) (x := (p1 * 10)) (y := p2) dX9_placeOf_5 ?_
  exact mr_iretP dX9_placeOf_6 rfl (le_t rfl) (le_t rfl) ⟨(rAdd (e := 0) (f := 19) (rMulR (n := 10) (e := 0) (f := 10) hp1 rfl) hp2 rfl), hQ, trivial⟩
def WP_X9_end_W (w : mW) (μ : mM) (a0 : Nat) (p1 : Int) (Q : Int → mM → Prop) : Prop := ((¬ p1 = 0) → ∀ z11 : Int, μ a0 1 = z11 → (0 ≤ z11 ∧ z11 ≤ 9 ∧ z11 < w.2.2.2 0) → Q z11 μ) ∧ ((p1 = 0) → ∀ z16 : Int, μ a0 0 = z16 → (0 ≤ z16 ∧ z16 ≤ 9 ∧ z16 < w.2.2.2 0) → Q z16 μ)
set_option maxRecDepth 4000 in
set_option maxHeartbeats 4000000 in
theorem c_X9_end_W {l : Launch} {D : va_G} {c : Nat → ClassId} {H0 : Heap} {sa : Nat × Nat × (Nat → Int32)} {w : mW} {μ : mM} (hw : mWF w) (hT : mT w μ) {a0 : Nat} (hA0 : mAt w a0 220) {p1 : Int} (hp1 : (-2147483648) ≤ p1 ∧ p1 ≤ 2147483647) {Q : Int → mM → Prop} (hQ : WP_X9_end_W w μ a0 p1 Q) : sC (gG l D c H0 sa) mX9_end 1 0 0 [.ref a0, iv p1] (mk w μ) (qP w μ (fun z => (0 ≤ z ∧ z ≤ 9) ∧ (z < w.2.2.2 0) ∧ Q z μ ∧ True)) := by
  refine sC.of rfl (by decide) (le_t rfl) ?_
  refine mr_lvE (lv' := [(0, .ref a0), (1, iv p1)]) rfl ?_
  refine mr_iload_n (pc := 0) (z := p1) dX9_end_0 rfl rfl ?_
  refine mr_if_ne (pc := 1) (tgt := 11) dX9_end_1 (by decide) hp1 (fun h10 => ?_) (fun h10 => ?_)
  · refine sv_aload_n (pc := 11) dX9_end_11 rfl rfl ?_
    refine gf_X9_1 (pc := 12) dX9_end_12 wF_X9_15 hA0 hT fun z11 q12 h13 => ?_
    have h14 : 0 ≤ z11 ∧ z11 ≤ 9 := ⟨h13.1, h13.2.1⟩
    exact mr_iretP dX9_end_15 rfl (le_t rfl) (le_t rfl) ⟨h14, (vc_X9_end_1 h13.2.2 h14), ((hQ.1 h10) z11 q12 h13), trivial⟩
  have h15 : 0 ≤ p1 ∧ p1 ≤ 0 := (vc_X12_mask_1 h10 hp1)
  refine sv_aload_n (pc := 4) dX9_end_4 rfl rfl ?_
  refine gf_X9_0 (pc := 5) dX9_end_5 wF_X9_9 hA0 hT fun z16 q17 h18 => ?_
  have h19 : 0 ≤ z16 ∧ z16 ≤ 9 := ⟨h18.1, h18.2.1⟩
  refine sv_goto (pc := 8) (tgt := 15) dX9_end_8 (by decide) ?_
  exact mr_iretP dX9_end_15 rfl (le_t rfl) (le_t rfl) ⟨h19, (vc_X9_end_1 h18.2.2 h19), ((hQ.2 h10) z16 q17 h18), trivial⟩
def WP_X9_partnerRole_W (w : mW) (μ : mM) (a0 : Nat) (p1 : Int) (Q : Int → mM → Prop) : Prop := ∀ z1 : Int, μ a0 2 = z1 → (0 ≤ z1 ∧ z1 ≤ 2) → ((¬ z1 = 1) → ((¬ z1 = 2) → ((¬ p1 = 0) → Q (1 : Int) μ) ∧ ((p1 = 0) → Q (0 : Int) μ)) ∧ ((z1 = 2) → Q (3 : Int) μ)) ∧ ((z1 = 1) → Q (2 : Int) μ)
set_option maxRecDepth 4000 in
set_option maxHeartbeats 4000000 in
theorem c_X9_partnerRole_W {l : Launch} {D : va_G} {c : Nat → ClassId} {H0 : Heap} {sa : Nat × Nat × (Nat → Int32)} {w : mW} {μ : mM} (hw : mWF w) (hT : mT w μ) {a0 : Nat} (hA0 : mAt w a0 220) {p1 : Int} (hp1 : (-2147483648) ≤ p1 ∧ p1 ≤ 2147483647) {Q : Int → mM → Prop} (hQ : WP_X9_partnerRole_W w μ a0 p1 Q) : sC (gG l D c H0 sa) mX9_partnerRole 1 0 0 [.ref a0, iv p1] (mk w μ) (qP w μ (fun z => (0 ≤ z ∧ z ≤ 3) ∧ Q z μ ∧ True)) := by
  refine sC.of rfl (by decide) (le_t rfl) ?_
  refine mr_lvE (lv' := [(0, .ref a0), (1, iv p1)]) rfl ?_
  refine sv_aload_n (pc := 0) dX9_partnerRole_0 rfl rfl ?_
  refine gf_X9_2 (pc := 1) dX9_partnerRole_1 wF_X9_18 hA0 hT fun z1 q2 h3 => ?_
  refine mr_iconst (pc := 4) (z := 1) dX9_partnerRole_4 ?_
  refine mr_icmp_ne (pc := 5) (tgt := 10) dX9_partnerRole_5 (by decide) (r32 h3 rfl) (r32 (rR (x := 1)) rfl) (fun h4 => ?_) (fun h4 => ?_)
  · refine sv_aload_n (pc := 10) dX9_partnerRole_10 rfl rfl ?_
    refine gk_X9_2 (pc := 11) dX9_partnerRole_11 wF_X9_18 hA0 q2 ?_
    refine mr_iconst (pc := 14) (z := 2) dX9_partnerRole_14 ?_
    refine mr_icmp_ne (pc := 15) (tgt := 20) dX9_partnerRole_15 (by decide) (r32 h3 rfl) (r32 (rR (x := 2)) rfl) (fun h5 => ?_) (fun h5 => ?_)
    · have h6 : 0 ≤ z1 ∧ z1 ≤ 1 := (vc_X9_partnerRole_1 h5 h4 h3)
      refine mr_iload_n (pc := 20) (z := p1) dX9_partnerRole_20 rfl rfl ?_
      refine mr_if_ne (pc := 21) (tgt := 28) dX9_partnerRole_21 (by decide) hp1 (fun h8 => ?_) (fun h8 => ?_)
      · refine mr_iconst (pc := 28) (z := 1) dX9_partnerRole_28 ?_
        exact mr_iretP dX9_partnerRole_29 rfl (le_t rfl) (le_t rfl) ⟨(rW (c := 0) (d := 3) (rR (x := 1)) rfl), ((((hQ z1 q2 h3).1 h4).1 h5).1 h8), trivial⟩
      have h9 : 0 ≤ p1 ∧ p1 ≤ 0 := (vc_X12_mask_1 h8 hp1)
      refine mr_iconst (pc := 24) (z := 0) dX9_partnerRole_24 ?_
      refine sv_goto (pc := 25) (tgt := 29) dX9_partnerRole_25 (by decide) ?_
      exact mr_iretP dX9_partnerRole_29 rfl (le_t rfl) (le_t rfl) ⟨(rW (c := 0) (d := 3) (rR (x := 0)) rfl), ((((hQ z1 q2 h3).1 h4).1 h5).2 h8), trivial⟩
    have h10 : 2 ≤ z1 ∧ z1 ≤ 2 := (vc_X9_partnerRole_3 h5 h4 h3)
    refine mr_iconst (pc := 18) (z := 3) dX9_partnerRole_18 ?_
    exact mr_iretP dX9_partnerRole_19 rfl (le_t rfl) (le_t rfl) ⟨(rW (c := 0) (d := 3) (rR (x := 3)) rfl), (((hQ z1 q2 h3).1 h4).2 h5), trivial⟩
  have h11 : 1 ≤ z1 ∧ z1 ≤ 1 := (vc_X9_partnerRole_4 h4 h3)
  refine mr_iconst (pc := 8) (z := 2) dX9_partnerRole_8 ?_
  exact mr_iretP dX9_partnerRole_9 rfl (le_t rfl) (le_t rfl) ⟨(rW (c := 0) (d := 3) (rR (x := 2)) rfl), ((hQ z1 q2 h3).2 h4), trivial⟩
def WP_X10_maskOf_W (w : mW) (μ : mM) (p1 : Int) (Q : Int → mM → Prop) : Prop := ((¬ p1 = 0) → ∀ z9 : Int, (-2147483648 ≤ z9 ∧ z9 ≤ 2147483647) → (z9 - (32 - p1)) % 4294967296 = 0 → ∀ z12 : Int, bShl ((-1) : Int) z9 = z12 → Q z12 μ) ∧ ((p1 = 0) → Q (0 : Int) μ)
set_option maxRecDepth 4000 in
set_option maxHeartbeats 4000000 in
theorem c_X10_maskOf_W {l : Launch} {D : va_G} {c : Nat → ClassId} {H0 : Heap} {sa : Nat × Nat × (Nat → Int32)} {w : mW} {μ : mM} (hw : mWF w) (hT : mT w μ) {p1 : Int} (hp1 : (-2147483648) ≤ p1 ∧ p1 ≤ 2147483647) {Q : Int → mM → Prop} (hQ : WP_X10_maskOf_W w μ p1 Q) : sC (gG l D c H0 sa) mX10_maskOf 1 0 0 [iv p1] (mk w μ) (qP w μ (fun z => ((-2147483648) ≤ z ∧ z ≤ 2147483647) ∧ Q z μ ∧ True)) := by
  refine sC.of rfl (by decide) (le_t rfl) ?_
  refine mr_lvE (lv' := [(0, iv p1)]) rfl ?_
  refine mr_iload_n (pc := 0) (z := p1) dX10_maskOf_0 rfl rfl ?_
  refine mr_if_ne (pc := 1) (tgt := 8) dX10_maskOf_1 (by decide) hp1 (fun h8 => ?_) (fun h8 => ?_)
  · refine mr_iconst (pc := 8) (z := (-1)) dX10_maskOf_8 ?_
    refine mr_bipush (pc := 9) (z := 32) dX10_maskOf_9 (by decide) ?_
    refine mr_iload_n (pc := 11) (z := p1) dX10_maskOf_11 rfl rfl ?_
    refine mr_isub (pc := 12) (x := 32) (y := p1) dX10_maskOf_12 ?_
    refine mr_wrapF fun z9 h10 h11 => ?_
    refine mr_ishl (pc := 13) (x := (-1)) (y := z9) dX10_maskOf_13 ?_
    refine mr_gen (P := fun z => (-2147483648) ≤ z ∧ z ≤ 2147483647) (r32i _) fun z12 q13 h14 => ?_
    exact mr_iretP dX10_maskOf_14 rfl (le_t rfl) (le_t rfl) ⟨h14, (((hQ.1 h8) z9 h10 h11) z12 q13), trivial⟩
  have h15 : 0 ≤ p1 ∧ p1 ≤ 0 := (vc_X12_mask_1 h8 hp1)
  refine mr_iconst (pc := 4) (z := 0) dX10_maskOf_4 ?_
  refine sv_goto (pc := 5) (tgt := 14) dX10_maskOf_5 (by decide) ?_
  exact mr_iretP dX10_maskOf_14 rfl (le_t rfl) (le_t rfl) ⟨(rW (c := (-2147483648)) (d := 2147483647) (rR (x := 0)) rfl), (hQ.2 h8), trivial⟩
def WJ_X5_tells_W_3 (w : mW) (μ : mM) (a0 : Nat) (z1112 : Int) (rec2 : (Int × Int × Int) → Prop) (z1761 : Int) (z1760 : Int) (z1759 : Int) (z1831 : Int) : Prop := (0 ≤ z1831 ∧ z1831 ≤ 1) → ((z1831 = 0) → rec2 (z1761, z1760, (z1759 + 1))) ∧ ((¬ z1831 = 0) → ∀ z1868 : Int, lUsh z1112 z1759 = z1868 → ∀ z1871 : Int, lAnd z1868 (1 : Int) = z1871 → ∀ z1874 : Int, lCmp z1871 (0 : Int) = z1874 → ((z1874 = 0) → rec2 (z1761, z1760, (z1759 + 1))) ∧ ((¬ z1874 = 0) → ∀ z1898 : Int, lShl (1 : Int) z1759 = z1898 → ∀ z1901 : Int, lOr z1761 z1898 = z1901 → ∀ b1904 : Nat, μ a0 3 = (b1904 : Int) → mAt w b1904 233 → ∀ n_1907 : Int, (w.2.2.1 b1904 : Int) = n_1907 → (0 ≤ n_1907 ∧ n_1907 ≤ 40) → ∀ z1911 : Int, μ b1904 (z1759.toNat) = z1911 → ((-9223372036854775808) ≤ z1911 ∧ z1911 ≤ 9223372036854775807) → ∀ z1914 : Int, lOr z1760 z1911 = z1914 → rec2 (z1901, z1914, (z1759 + 1))))
def WL_X5_tells_W_2 (w : mW) (μ : mM) (a0 : Nat) (a3 : Nat) (rec1 : (Int × Int × Int) → Prop) (z1112 : Int) (z1110 : Int) (rec2 : (Int × Int × Int) → Prop) (s : (Int × Int × Int)) : Prop := ∀ z1761 : Int, ∀ z1760 : Int, ∀ z1759 : Int, s = (z1761, z1760, z1759) → ((-9223372036854775808) ≤ z1761 ∧ z1761 ≤ 9223372036854775807) → ((-9223372036854775808) ≤ z1760 ∧ z1760 ≤ 9223372036854775807) → (0 ≤ z1759 ∧ z1759 ≤ 40) → ∀ b1772 : Nat, μ a0 2 = (b1772 : Int) → mAt w b1772 232 → ∀ n_1775 : Int, (w.2.2.1 b1772 : Int) = n_1775 → (0 ≤ n_1775 ∧ n_1775 ≤ 40) → ((n_1775 ≤ z1759) → rec1 (z1760, z1761, (z1110 + 1))) ∧ ((z1759 < n_1775) → ∀ z1823 : Int, μ b1772 (z1759.toNat) = z1823 → ((-2147483648) ≤ z1823 ∧ z1823 ≤ 2147483647) → ((z1823 = (-1)) → (WJ_X5_tells_W_3 w μ a0 z1112 rec2 z1761 z1760 z1759) (1 : Int)) ∧ ((¬ z1823 = (-1)) → ∀ z1920 : Int, μ (a3 + 1) (z1110.toNat) = z1920 → ((-2147483648) ≤ z1920 ∧ z1920 ≤ 2147483647) → ((¬ z1823 = z1920) → (WJ_X5_tells_W_3 w μ a0 z1112 rec2 z1761 z1760 z1759) (0 : Int)) ∧ ((z1823 = z1920) → (WJ_X5_tells_W_3 w μ a0 z1112 rec2 z1761 z1760 z1759) (1 : Int))))
def WL_X5_tells_W_1 (w : mW) (μ : mM) (a0 : Nat) (p1 : Int) (a3 : Nat) (Q : Int → mM → Prop) (z1 : Int) (rec1 : (Int × Int × Int) → Prop) (s : (Int × Int × Int)) : Prop := ∀ z1112 : Int, ∀ z1111 : Int, ∀ z1110 : Int, s = (z1112, z1111, z1110) → ((-9223372036854775808) ≤ z1112 ∧ z1112 ≤ 9223372036854775807) → ((-9223372036854775808) ≤ z1111 ∧ z1111 ≤ 9223372036854775807) → (0 ≤ z1110 ∧ z1110 ≤ 20) → ((z1 ≤ z1110) → ∀ b1229 : Nat, μ a0 5 = (b1229 : Int) → mAt w b1229 235 → ∀ n_1232 : Int, (w.2.2.1 b1229 : Int) = n_1232 → (0 ≤ n_1232 ∧ n_1232 ≤ 250) → ∀ z1236 : Int, μ b1229 (p1.toNat) = z1236 → ((-9223372036854775808) ≤ z1236 ∧ z1236 ≤ 9223372036854775807) → ∀ z1239 : Int, lAnd z1111 z1236 = z1239 → ∀ z1242 : Int, lCmp z1239 (0 : Int) = z1242 → ((z1242 = 0) → Q (0 : Int) μ) ∧ ((¬ z1242 = 0) → Q (1 : Int) μ)) ∧ ((z1110 < z1) → loopF (WL_X5_tells_W_2 w μ a0 a3 rec1 z1112 z1110) False 42 ((0 : Int), (0 : Int), (0 : Int)))
def WP_X5_tells_W (w : mW) (μ : mM) (a0 : Nat) (p1 : Int) (p2 : Int) (a3 : Nat) (Q : Int → mM → Prop) : Prop := ∀ z1 : Int, μ a3 7 = z1 → (0 ≤ z1 ∧ z1 ≤ 20) → ((¬ z1 = 0) → ((p1 < 0) → Q (0 : Int) μ) ∧ ((0 ≤ p1) → ∀ b9 : Nat, μ a0 4 = (b9 : Int) → mAt w b9 234 → ∀ n_12 : Int, (w.2.2.1 b9 : Int) = n_12 → (0 ≤ n_12 ∧ n_12 ≤ 250) → ((p1 < n_12) → ∀ z18 : Int, μ b9 (p1.toNat) = z18 → ((-9223372036854775808) ≤ z18 ∧ z18 ≤ 9223372036854775807) → loopF (WL_X5_tells_W_1 w μ a0 p1 a3 Q z1) False 22 (z18, (0 : Int), (0 : Int))) ∧ ((n_12 ≤ p1) → Q (0 : Int) μ))) ∧ ((z1 = 0) → Q p2 μ)
theorem vc_X5_tells_W_4 {n_12 p1 : Int} (h0 : p1 < n_12) (h1 : 0 ≤ p1) (h2 : 0 ≤ n_12 ∧ n_12 ≤ 250) (h3 : 0 ≤ p1 ∧ p1 ≤ 2147483647) : 0 ≤ p1 ∧ p1 ≤ 249 := by omega
theorem vc_X5_tells_W_5 {n_12 p1 : Int} (h0 : p1 < n_12) (h1 : 0 ≤ p1) (h2 : 0 ≤ n_12 ∧ n_12 ≤ 250) (h3 : 0 ≤ p1 ∧ p1 ≤ 249) : 1 ≤ n_12 ∧ n_12 ≤ 250 := by omega
theorem vc_X5_tells_W_6 {n_12 p1 : Int} (h0 : 0 ≤ p1) (h1 : p1 < n_12) (h2 : 1 ≤ n_12 ∧ n_12 ≤ 250) (h3 : 0 ≤ p1 ∧ p1 ≤ 249) : 0 ≤ p1 ∧ p1 < n_12 := by omega
theorem vc_X5_tells_W_8 {z1 z1110 : Int} (h0 : z1 ≤ z1110) (h1 : ¬ z1 = 0) (h2 : 1 ≤ z1 ∧ z1 ≤ 20) (h3 : 0 ≤ z1110 ∧ z1110 ≤ 20) : 1 ≤ z1110 ∧ z1110 ≤ 20 := by omega
theorem vc_X5_tells_W_9 {n_12 n_1232 p1 : Int} (h0 : 0 ≤ p1) (h1 : p1 < n_12) (h2 : n_1232 = n_12) (h3 : 1 ≤ n_12 ∧ n_12 ≤ 250) (h4 : 0 ≤ n_1232 ∧ n_1232 ≤ 250) (h5 : 0 ≤ p1 ∧ p1 ≤ 249) : 0 ≤ p1 ∧ p1 < n_1232 := by omega
theorem vc_X5_tells_W_11 {z1 z1110 : Int} (h0 : z1110 < z1) (h1 : ¬ z1 = 0) (h2 : 1 ≤ z1 ∧ z1 ≤ 20) (h3 : 0 ≤ z1110 ∧ z1110 ≤ 20) : 0 ≤ z1110 ∧ z1110 ≤ 19 := by omega
theorem vc_X5_tells_W_13 {N z1 z1110 : Int} (h0 : (21 - z1110) < N + 1) (h1 : z1110 < z1) (h2 : ¬ z1 = 0) (h3 : 1 ≤ z1 ∧ z1 ≤ 20) (h4 : 0 ≤ z1110 ∧ z1110 ≤ 19) : (21 - (z1110 + 1)) < N := by omega
theorem vc_X5_tells_W_14 {n_1775 z1759 : Int} (h0 : z1759 < n_1775) (h1 : 0 ≤ n_1775 ∧ n_1775 ≤ 40) (h2 : 0 ≤ z1759 ∧ z1759 ≤ 40) : 0 ≤ z1759 ∧ z1759 ≤ 39 := by omega
theorem vc_X5_tells_W_15 {n_1775 z1759 : Int} (h0 : z1759 < n_1775) (h1 : 0 ≤ n_1775 ∧ n_1775 ≤ 40) (h2 : 0 ≤ z1759 ∧ z1759 ≤ 39) : 1 ≤ n_1775 ∧ n_1775 ≤ 40 := by omega
theorem vc_X5_tells_W_16 {n_1775 z1759 : Int} (h0 : z1759 < n_1775) (h1 : 1 ≤ n_1775 ∧ n_1775 ≤ 40) (h2 : 0 ≤ z1759 ∧ z1759 ≤ 39) : 0 ≤ z1759 ∧ z1759 < n_1775 := by omega
theorem vc_X5_tells_W_18 {N n_1775 z1759 : Int} (h0 : (41 - z1759) < N + 1) (h1 : z1759 < n_1775) (h2 : 1 ≤ n_1775 ∧ n_1775 ≤ 40) (h3 : 0 ≤ z1759 ∧ z1759 ≤ 39) : (41 - (z1759 + 1)) < N := by omega
theorem vc_X5_tells_W_21 {n_1775 n_1907 z1759 : Int} (h0 : z1759 < n_1775) (h1 : n_1907 = n_1775) (h2 : 1 ≤ n_1775 ∧ n_1775 ≤ 40) (h3 : 0 ≤ n_1907 ∧ n_1907 ≤ 40) (h4 : 0 ≤ z1759 ∧ z1759 ≤ 39) : 0 ≤ z1759 ∧ z1759 < n_1907 := by omega
theorem vc_X5_tells_W_22 {N n_1775 n_1907 z1759 : Int} (h0 : (41 - z1759) < N + 1) (h1 : z1759 < n_1775) (h2 : n_1907 = n_1775) (h3 : 1 ≤ n_1775 ∧ n_1775 ≤ 40) (h4 : 0 ≤ n_1907 ∧ n_1907 ≤ 40) (h5 : 0 ≤ z1759 ∧ z1759 ≤ 39) : (41 - (z1759 + 1)) < N := by omega
set_option maxRecDepth 4000 in
set_option maxHeartbeats 4000000 in
theorem c_X5_tells_W {l : Launch} {D : va_G} {c : Nat → ClassId} {H0 : Heap} {sa : Nat × Nat × (Nat → Int32)} {w : mW} {μ : mM} (hw : mWF w) (hT : mT w μ) {a0 : Nat} (hA0 : mAt w a0 230) {p1 : Int} (hp1 : (-2147483648) ≤ p1 ∧ p1 ≤ 2147483647) {p2 : Int} (hp2 : 0 ≤ p2 ∧ p2 ≤ 1) {a3 : Nat} (hA3 : mAt w a3 200) (he1 : w.2.2.1 (μ a0 2).toNat = w.2.2.1 (μ a0 3).toNat) (he2 : w.2.2.1 (μ a0 4).toNat = w.2.2.1 (μ a0 5).toNat) {Q : Int → mM → Prop} (hQ : WP_X5_tells_W w μ a0 p1 p2 a3 Q) : sC (gG l D c H0 sa) mX5_tells 1 0 0 [.ref a0, iv p1, iv p2, .ref a3] (mk w μ) (qP w μ (fun z => (0 ≤ z ∧ z ≤ 1) ∧ Q z μ ∧ True)) := by
  refine sC.of rfl (by decide) (le_t rfl) ?_
  refine mr_lvE (lv' := [(0, .ref a0), (1, iv p1), (2, iv p2), (3, .ref a3)]) rfl ?_
  refine sv_aload_n (pc := 0) dX5_tells_0 rfl rfl ?_
  refine gf_X7_7 (pc := 1) dX5_tells_1 wF_X5_30 hA3 hT fun z1 q2 h3 => ?_
  refine mr_if_ne (pc := 4) (tgt := 9) dX5_tells_4 (by decide) (r32 h3 rfl) (fun h4 => ?_) (fun h4 => ?_)
  · have h5 : 1 ≤ z1 ∧ z1 ≤ 20 := (vc_X12_waysMatch_2 h4 h3)
    refine mr_iload_n (pc := 9) (z := p1) dX5_tells_9 rfl rfl ?_
    refine mr_if_lt (pc := 10) (tgt := 22) dX5_tells_10 (by decide) hp1 (fun h6 => ?_) (fun h6 => ?_)
    · have h7 : (-2147483648) ≤ p1 ∧ p1 ≤ (-1) := (vc_X12_ring_60 h6 hp1)
      refine mr_iconst (pc := 22) (z := 0) dX5_tells_22 ?_
      exact mr_zretP dX5_tells_23 rfl (rW (c := 0) (d := 1) (rR (x := 0)) rfl) (le_t rfl) (le_t rfl) ⟨(rW (c := 0) (d := 1) (rR (x := 0)) rfl), (((hQ z1 q2 h3).1 h4).1 h6), trivial⟩
    have h8 : 0 ≤ p1 ∧ p1 ≤ 2147483647 := (vc_X12_ring_1 h6 hp1)
    refine mr_iload_n (pc := 13) (z := p1) dX5_tells_13 rfl rfl ?_
    refine sv_aload_n (pc := 14) dX5_tells_14 rfl rfl ?_
    refine gf_X5_4 (pc := 15) dX5_tells_15 wF_X5_24 hA0 hT fun b9 q10 A11 => ?_
    obtain ⟨n_12, q13⟩ : ∃ n : Int, (w.2.2.1 b9 : Int) = n := ⟨_, rfl⟩
    have h14 : 0 ≤ n_12 ∧ n_12 ≤ 250 := lnR (m := 250) q13 A11 rfl
    refine mr_alen (pc := 18) (kd := 1) dX5_tells_18 rfl A11 rfl q13 ?_
    refine mr_icmp_lt (pc := 19) (tgt := 24) dX5_tells_19 (by decide) (r32 h8 rfl) (r32 h14 rfl) (fun h15 => ?_) (fun h15 => ?_)
    · have h16 : 0 ≤ p1 ∧ p1 ≤ 249 := (vc_X5_tells_W_4 h15 h6 h14 h8)
      have h17 : 1 ≤ n_12 ∧ n_12 ≤ 250 := (vc_X5_tells_W_5 h15 h6 h14 h16)
      refine sv_aload_n (pc := 24) dX5_tells_24 rfl rfl ?_
      refine gk_X5_4 (pc := 25) dX5_tells_25 wF_X5_24 hA0 q10 ?_
      refine mr_iload_n (pc := 28) (z := p1) dX5_tells_28 rfl rfl ?_
      refine la_234 (pc := 29) dX5_tells_29 A11 hT (lnC q13 (vc_X5_tells_W_6 h6 h15 h17 h16)) fun z18 q19 h20 => ?_
      refine mr_lstore (pc := 30) (lv' := [(4, jv z18), (0, .ref a0), (1, iv p1), (2, iv p2), (3, .ref a3)]) dX5_tells_30 (by decide) rfl ?_
      refine mr_lconst (pc := 32) (z := 0) dX5_tells_32 (by decide) ?_
      refine mr_lstore (pc := 33) (lv' := [(6, jv 0), (4, jv z18), (0, .ref a0), (1, iv p1), (2, iv p2), (3, .ref a3)]) dX5_tells_33 (by decide) rfl ?_
      refine mr_iconst (pc := 35) (z := 0) dX5_tells_35 ?_
      refine mr_istore (pc := 36) (lv' := [(8, iv 0), (6, jv 0), (4, jv z18), (0, .ref a0), (1, iv p1), (2, iv p2), (3, .ref a3)]) dX5_tells_36 (by decide) rfl ?_
      have L1113 : ∀ (nL1113 : Nat) (z1112 z1111 z1110 : Int), True → ((-9223372036854775808) ≤ z1112 ∧ z1112 ≤ 9223372036854775807) → ((-9223372036854775808) ≤ z1111 ∧ z1111 ≤ 9223372036854775807) → (0 ≤ z1110 ∧ z1110 ≤ 20) → (21 - z1110) < (nL1113 : Int) → loopF (WL_X5_tells_W_1 w μ a0 p1 a3 Q z1) False nL1113 (z1112, z1111, z1110) → sV (gG l D c H0 sa) mX5_tells (sRm 1 0 0) (sZ (gG l D c H0 sa) 0 0 (qP w μ (fun z => (0 ≤ z ∧ z ≤ 1) ∧ Q z μ ∧ True))) 38 [(0, .ref a0), (1, iv p1), (3, .ref a3), (4, jv z1112), (6, jv z1111), (8, iv z1110)] [] (mk w μ) 0 0 := by
        intro nL1113
        induction nL1113 with
        | zero => intro z1112 z1111 z1110 _ h1114 h1115 h1116 h1120 W1121; exact ((vc_X12_tieOf_1 h1120 h1116)).elim
        | succ nL1113 ih1122 =>
          intro z1112 z1111 z1110 _ h1114 h1115 h1116 h1120 W1121
          refine mr_iload (pc := 38) (z := z1110) dX5_tells_38 rfl ?_
          refine sv_aload_n (pc := 40) dX5_tells_40 rfl rfl ?_
          refine gk_X7_7 (pc := 41) dX5_tells_41 wF_X5_30 hA3 q2 ?_
          refine mr_icmp_ge (pc := 44) (tgt := 155) dX5_tells_44 (by decide) (r32 h1116 rfl) (r32 h5 rfl) (fun h1227 => ?_) (fun h1227 => ?_)
          · have h1228 : 1 ≤ z1110 ∧ z1110 ≤ 20 := (vc_X5_tells_W_8 h1227 h4 h5 h1116)
            refine mr_lload (pc := 155) (z := z1111) dX5_tells_155 rfl ?_
            refine sv_aload_n (pc := 157) dX5_tells_157 rfl rfl ?_
            refine gf_X5_5 (pc := 158) dX5_tells_158 wF_X5_27 hA0 hT fun b1229 q1230 A1231 => ?_
            obtain ⟨n_1232, q1233⟩ : ∃ n : Int, (w.2.2.1 b1229 : Int) = n := ⟨_, rfl⟩
            have h1234 : 0 ≤ n_1232 ∧ n_1232 ≤ 250 := lnR (m := 250) q1233 A1231 rfl
            have h1235 : n_1232 = n_12 := lnQ q10 q1230 he2 q13 q1233
            refine mr_iload_n (pc := 161) (z := p1) dX5_tells_161 rfl rfl ?_
            refine la_235 (pc := 162) dX5_tells_162 A1231 hT (lnC q1233 (vc_X5_tells_W_9 h6 h15 h1235 h17 h1234 h16)) fun z1236 q1237 h1238 => ?_
            refine mr_land (pc := 163) dX5_tells_163 ?_
            refine mr_genL (r64i _) fun z1239 q1240 h1241 => ?_
            refine mr_lconst (pc := 164) (z := 0) dX5_tells_164 (by decide) ?_
            refine mr_lcmp (pc := 165) dX5_tells_165 ?_
            refine mr_gen (P := fun z => (-1) ≤ z ∧ z ≤ 1) (lg_cmp_r _ _) fun z1242 q1243 h1244 => ?_
            refine mr_if_eq (pc := 166) (tgt := 173) dX5_tells_166 (by decide) (r32 h1244 rfl) (fun h1246 => ?_) (fun h1246 => ?_)
            · have h1247 : 0 ≤ z1242 ∧ z1242 ≤ 0 := (vc_X12_waysMatch_5 h1246 h1244)
              refine mr_iconst (pc := 173) (z := 0) dX5_tells_173 ?_
              exact mr_zretP dX5_tells_174 rfl (rW (c := 0) (d := 1) (rR (x := 0)) rfl) (le_t rfl) (le_t rfl) ⟨(rW (c := 0) (d := 1) (rR (x := 0)) rfl), ((((((((W1121 z1112 z1111 z1110 rfl h1114 h1115 h1116).1 h1227) b1229 q1230 A1231) n_1232 q1233 h1234) z1236 q1237 h1238) z1239 q1240) z1242 q1243).1 h1246), trivial⟩
            refine mr_iconst (pc := 169) (z := 1) dX5_tells_169 ?_
            refine sv_goto (pc := 170) (tgt := 174) dX5_tells_170 (by decide) ?_
            exact mr_zretP dX5_tells_174 rfl (rW (c := 0) (d := 1) (rR (x := 1)) rfl) (le_t rfl) (le_t rfl) ⟨(rW (c := 0) (d := 1) (rR (x := 1)) rfl), ((((((((W1121 z1112 z1111 z1110 rfl h1114 h1115 h1116).1 h1227) b1229 q1230 A1231) n_1232 q1233 h1234) z1236 q1237 h1238) z1239 q1240) z1242 q1243).2 h1246), trivial⟩
          have h1248 : 0 ≤ z1110 ∧ z1110 ≤ 19 := (vc_X5_tells_W_11 h1227 h4 h5 h1116)
          refine mr_lconst (pc := 47) (z := 0) dX5_tells_47 (by decide) ?_
          refine mr_lstore (pc := 48) (lv' := [(6, jv 0), (0, .ref a0), (1, iv p1), (3, .ref a3), (4, jv z1112), (8, iv z1110)]) dX5_tells_48 (by decide) rfl ?_
          refine mr_lconst (pc := 50) (z := 0) dX5_tells_50 (by decide) ?_
          refine mr_lstore (pc := 51) (lv' := [(9, jv 0), (6, jv 0), (0, .ref a0), (1, iv p1), (3, .ref a3), (4, jv z1112), (8, iv z1110)]) dX5_tells_51 (by decide) rfl ?_
          refine mr_iconst (pc := 53) (z := 0) dX5_tells_53 ?_
          refine mr_istore (pc := 54) (lv' := [(11, iv 0), (9, jv 0), (6, jv 0), (0, .ref a0), (1, iv p1), (3, .ref a3), (4, jv z1112), (8, iv z1110)]) dX5_tells_54 (by decide) rfl ?_
          have L1762 : ∀ (nL1762 : Nat) (z1761 z1760 z1759 : Int), True → ((-9223372036854775808) ≤ z1761 ∧ z1761 ≤ 9223372036854775807) → ((-9223372036854775808) ≤ z1760 ∧ z1760 ≤ 9223372036854775807) → (0 ≤ z1759 ∧ z1759 ≤ 40) → (41 - z1759) < (nL1762 : Int) → loopF (WL_X5_tells_W_2 w μ a0 a3 (loopF (WL_X5_tells_W_1 w μ a0 p1 a3 Q z1) False nL1113) z1112 z1110) False nL1762 (z1761, z1760, z1759) → sV (gG l D c H0 sa) mX5_tells (sRm 1 0 0) (sZ (gG l D c H0 sa) 0 0 (qP w μ (fun z => (0 ≤ z ∧ z ≤ 1) ∧ Q z μ ∧ True))) 56 [(0, .ref a0), (1, iv p1), (3, .ref a3), (4, jv z1112), (6, jv z1761), (8, iv z1110), (9, jv z1760), (11, iv z1759)] [] (mk w μ) 0 0 := by
            intro nL1762
            induction nL1762 with
            | zero => intro z1761 z1760 z1759 _ h1763 h1764 h1765 h1769 W1770; exact ((vc_X12_waysMatch_7 h1769 h1765)).elim
            | succ nL1762 ih1771 =>
              intro z1761 z1760 z1759 _ h1763 h1764 h1765 h1769 W1770
              refine mr_iload (pc := 56) (z := z1759) dX5_tells_56 rfl ?_
              refine sv_aload_n (pc := 58) dX5_tells_58 rfl rfl ?_
              refine gf_X5_2 (pc := 59) dX5_tells_59 wF_X5_17 hA0 hT fun b1772 q1773 A1774 => ?_
              obtain ⟨n_1775, q1776⟩ : ∃ n : Int, (w.2.2.1 b1772 : Int) = n := ⟨_, rfl⟩
              have h1777 : 0 ≤ n_1775 ∧ n_1775 ≤ 40 := lnR (m := 40) q1776 A1774 rfl
              refine mr_alen (pc := 62) (kd := 0) dX5_tells_62 rfl A1774 rfl q1776 ?_
              refine mr_icmp_ge (pc := 63) (tgt := 145) dX5_tells_63 (by decide) (r32 h1765 rfl) (r32 h1777 rfl) (fun h1820 => ?_) (fun h1820 => ?_)
              · refine mr_lload (pc := 145) (z := z1760) dX5_tells_145 rfl ?_
                refine mr_lstore (pc := 147) (lv' := [(4, jv z1760), (0, .ref a0), (1, iv p1), (3, .ref a3), (6, jv z1761), (8, iv z1110), (9, jv z1760), (11, iv z1759)]) dX5_tells_147 (by decide) rfl ?_
                refine mr_iinc (pc := 149) (lv' := [(8, iv (z1110 + 1)), (4, jv z1760), (0, .ref a0), (1, iv p1), (3, .ref a3), (6, jv z1761), (9, jv z1760), (11, iv z1759)]) dX5_tells_149 rfl (by decide) rfl ?_
                refine sv_goto (pc := 152) (tgt := 38) dX5_tells_152 (by decide) ?_
                refine mr_lvS (lv' := [(0, .ref a0), (1, iv p1), (3, .ref a3), (4, jv z1760), (6, jv z1761), (8, iv (z1110 + 1))]) (List.forall_mem_cons.mpr ⟨rfl, List.forall_mem_cons.mpr ⟨rfl, List.forall_mem_cons.mpr ⟨rfl, List.forall_mem_cons.mpr ⟨rfl, List.forall_mem_cons.mpr ⟨rfl, List.forall_mem_cons.mpr ⟨rfl, fun _ h => absurd h List.not_mem_nil⟩⟩⟩⟩⟩⟩) ?_
                exact ih1122 z1760 z1761 (z1110 + 1) trivial h1764 h1763 (rW (c := 0) (d := 20) (rAdd (e := 1) (f := 20) h1248 (rR (x := 1)) rfl) rfl) (vc_X5_tells_W_13 (nS h1120) h1227 h4 h5 h1248) ((((W1770 z1761 z1760 z1759 rfl h1763 h1764 h1765) b1772 q1773 A1774) n_1775 q1776 h1777).1 h1820)
              have h1821 : 0 ≤ z1759 ∧ z1759 ≤ 39 := (vc_X5_tells_W_14 h1820 h1777 h1765)
              have h1822 : 1 ≤ n_1775 ∧ n_1775 ≤ 40 := (vc_X5_tells_W_15 h1820 h1777 h1821)
              refine sv_aload_n (pc := 66) dX5_tells_66 rfl rfl ?_
              refine gk_X5_2 (pc := 67) dX5_tells_67 wF_X5_17 hA0 q1773 ?_
              refine mr_iload (pc := 70) (z := z1759) dX5_tells_70 rfl ?_
              refine la_232 (pc := 72) dX5_tells_72 A1774 hT (lnC q1776 (vc_X5_tells_W_16 h1820 h1822 h1821)) fun z1823 q1824 h1825 => ?_
              refine mr_iconst (pc := 73) (z := (-1)) dX5_tells_73 ?_
              have J1833 : ∀ (z1831 : Int), ((0 ≤ z1831 ∧ z1831 ≤ 1)) → ((WJ_X5_tells_W_3 w μ a0 z1112 (loopF (WL_X5_tells_W_2 w μ a0 a3 (loopF (WL_X5_tells_W_1 w μ a0 p1 a3 Q z1) False nL1113) z1112 z1110) False nL1762) z1761 z1760 z1759) z1831) → sV (gG l D c H0 sa) mX5_tells (sRm 1 0 0) (sZ (gG l D c H0 sa) 0 0 (qP w μ (fun z => (0 ≤ z ∧ z ≤ 1) ∧ Q z μ ∧ True))) 99 [(0, .ref a0), (1, iv p1), (3, .ref a3), (4, jv z1112), (6, jv z1761), (8, iv z1110), (9, jv z1760), (11, iv z1759)] [iv z1831] (mk w μ) 0 0 := by
                intro z1831 h1832 W1834
                refine mr_istore (pc := 99) (lv' := [(12, iv z1831), (0, .ref a0), (1, iv p1), (3, .ref a3), (4, jv z1112), (6, jv z1761), (8, iv z1110), (9, jv z1760), (11, iv z1759)]) dX5_tells_99 (by decide) rfl ?_
                refine mr_iload (pc := 101) (z := z1831) dX5_tells_101 rfl ?_
                refine mr_if_eq (pc := 103) (tgt := 139) dX5_tells_103 (by decide) (r32 h1832 rfl) (fun h1865 => ?_) (fun h1865 => ?_)
                · have h1866 : 0 ≤ z1831 ∧ z1831 ≤ 0 := (vc_X12_ring_22 h1865 h1832)
                  refine mr_iinc (pc := 139) (lv' := [(11, iv (z1759 + 1)), (12, iv z1831), (0, .ref a0), (1, iv p1), (3, .ref a3), (4, jv z1112), (6, jv z1761), (8, iv z1110), (9, jv z1760)]) dX5_tells_139 rfl (by decide) rfl ?_
                  refine sv_goto (pc := 142) (tgt := 56) dX5_tells_142 (by decide) ?_
                  refine mr_lvS (lv' := [(0, .ref a0), (1, iv p1), (3, .ref a3), (4, jv z1112), (6, jv z1761), (8, iv z1110), (9, jv z1760), (11, iv (z1759 + 1))]) (List.forall_mem_cons.mpr ⟨rfl, List.forall_mem_cons.mpr ⟨rfl, List.forall_mem_cons.mpr ⟨rfl, List.forall_mem_cons.mpr ⟨rfl, List.forall_mem_cons.mpr ⟨rfl, List.forall_mem_cons.mpr ⟨rfl, List.forall_mem_cons.mpr ⟨rfl, List.forall_mem_cons.mpr ⟨rfl, fun _ h => absurd h List.not_mem_nil⟩⟩⟩⟩⟩⟩⟩⟩) ?_
                  exact ih1771 z1761 z1760 (z1759 + 1) trivial h1763 h1764 (rW (c := 0) (d := 40) (rAdd (e := 1) (f := 40) h1821 (rR (x := 1)) rfl) rfl) (vc_X5_tells_W_18 (nS h1769) h1820 h1822 h1821) ((W1834 h1832).1 h1865)
                have h1867 : 1 ≤ z1831 ∧ z1831 ≤ 1 := (vc_X12_ring_24 h1865 h1832)
                refine mr_lload (pc := 106) (z := z1112) dX5_tells_106 rfl ?_
                refine mr_iload (pc := 108) (z := z1759) dX5_tells_108 rfl ?_
                refine mr_lushr (pc := 110) dX5_tells_110 ?_
                refine mr_genL (r64i _) fun z1868 q1869 h1870 => ?_
                refine mr_lconst (pc := 111) (z := 1) dX5_tells_111 (by decide) ?_
                refine mr_land (pc := 112) dX5_tells_112 ?_
                refine mr_genL (r64i _) fun z1871 q1872 h1873 => ?_
                refine mr_lconst (pc := 113) (z := 0) dX5_tells_113 (by decide) ?_
                refine mr_lcmp (pc := 114) dX5_tells_114 ?_
                refine mr_gen (P := fun z => (-1) ≤ z ∧ z ≤ 1) (lg_cmp_r _ _) fun z1874 q1875 h1876 => ?_
                refine mr_if_eq (pc := 115) (tgt := 139) dX5_tells_115 (by decide) (r32 h1876 rfl) (fun h1896 => ?_) (fun h1896 => ?_)
                · have h1897 : 0 ≤ z1874 ∧ z1874 ≤ 0 := (vc_X12_waysMatch_5 h1896 h1876)
                  refine mr_iinc (pc := 139) (lv' := [(11, iv (z1759 + 1)), (12, iv z1831), (0, .ref a0), (1, iv p1), (3, .ref a3), (4, jv z1112), (6, jv z1761), (8, iv z1110), (9, jv z1760)]) dX5_tells_139 rfl (by decide) rfl ?_
                  refine sv_goto (pc := 142) (tgt := 56) dX5_tells_142 (by decide) ?_
                  refine mr_lvS (lv' := [(0, .ref a0), (1, iv p1), (3, .ref a3), (4, jv z1112), (6, jv z1761), (8, iv z1110), (9, jv z1760), (11, iv (z1759 + 1))]) (List.forall_mem_cons.mpr ⟨rfl, List.forall_mem_cons.mpr ⟨rfl, List.forall_mem_cons.mpr ⟨rfl, List.forall_mem_cons.mpr ⟨rfl, List.forall_mem_cons.mpr ⟨rfl, List.forall_mem_cons.mpr ⟨rfl, List.forall_mem_cons.mpr ⟨rfl, List.forall_mem_cons.mpr ⟨rfl, fun _ h => absurd h List.not_mem_nil⟩⟩⟩⟩⟩⟩⟩⟩) ?_
                  exact ih1771 z1761 z1760 (z1759 + 1) trivial h1763 h1764 (rW (c := 0) (d := 40) (rAdd (e := 1) (f := 40) h1821 (rR (x := 1)) rfl) rfl) (vc_X5_tells_W_18 (nS h1769) h1820 h1822 h1821) ((((((W1834 h1832).2 h1865) z1868 q1869) z1871 q1872) z1874 q1875).1 h1896)
                refine mr_lload (pc := 118) (z := z1761) dX5_tells_118 rfl ?_
                refine mr_lconst (pc := 120) (z := 1) dX5_tells_120 (by decide) ?_
                refine mr_iload (pc := 121) (z := z1759) dX5_tells_121 rfl ?_
                refine mr_lshl (pc := 123) dX5_tells_123 ?_
                refine mr_genL (r64i _) fun z1898 q1899 h1900 => ?_
                refine mr_lor (pc := 124) dX5_tells_124 ?_
                refine mr_genL (r64i _) fun z1901 q1902 h1903 => ?_
                refine mr_lstore (pc := 125) (lv' := [(6, jv z1901), (12, iv z1831), (0, .ref a0), (1, iv p1), (3, .ref a3), (4, jv z1112), (8, iv z1110), (9, jv z1760), (11, iv z1759)]) dX5_tells_125 (by decide) rfl ?_
                refine mr_lload (pc := 127) (z := z1760) dX5_tells_127 rfl ?_
                refine sv_aload_n (pc := 129) dX5_tells_129 rfl rfl ?_
                refine gf_X5_3 (pc := 130) dX5_tells_130 wF_X5_20 hA0 hT fun b1904 q1905 A1906 => ?_
                obtain ⟨n_1907, q1908⟩ : ∃ n : Int, (w.2.2.1 b1904 : Int) = n := ⟨_, rfl⟩
                have h1909 : 0 ≤ n_1907 ∧ n_1907 ≤ 40 := lnR (m := 40) q1908 A1906 rfl
                have h1910 : n_1907 = n_1775 := lnQ q1773 q1905 he1 q1776 q1908
                refine mr_iload (pc := 133) (z := z1759) dX5_tells_133 rfl ?_
                refine la_233 (pc := 135) dX5_tells_135 A1906 hT (lnC q1908 (vc_X5_tells_W_21 h1820 h1910 h1822 h1909 h1821)) fun z1911 q1912 h1913 => ?_
                refine mr_lor (pc := 136) dX5_tells_136 ?_
                refine mr_genL (r64i _) fun z1914 q1915 h1916 => ?_
                refine mr_lstore (pc := 137) (lv' := [(9, jv z1914), (6, jv z1901), (12, iv z1831), (0, .ref a0), (1, iv p1), (3, .ref a3), (4, jv z1112), (8, iv z1110), (11, iv z1759)]) dX5_tells_137 (by decide) rfl ?_
                refine mr_iinc (pc := 139) (lv' := [(11, iv (z1759 + 1)), (9, jv z1914), (6, jv z1901), (12, iv z1831), (0, .ref a0), (1, iv p1), (3, .ref a3), (4, jv z1112), (8, iv z1110)]) dX5_tells_139 rfl (by decide) rfl ?_
                refine sv_goto (pc := 142) (tgt := 56) dX5_tells_142 (by decide) ?_
                refine mr_lvS (lv' := [(0, .ref a0), (1, iv p1), (3, .ref a3), (4, jv z1112), (6, jv z1901), (8, iv z1110), (9, jv z1914), (11, iv (z1759 + 1))]) (List.forall_mem_cons.mpr ⟨rfl, List.forall_mem_cons.mpr ⟨rfl, List.forall_mem_cons.mpr ⟨rfl, List.forall_mem_cons.mpr ⟨rfl, List.forall_mem_cons.mpr ⟨rfl, List.forall_mem_cons.mpr ⟨rfl, List.forall_mem_cons.mpr ⟨rfl, List.forall_mem_cons.mpr ⟨rfl, fun _ h => absurd h List.not_mem_nil⟩⟩⟩⟩⟩⟩⟩⟩) ?_
                exact ih1771 z1901 z1914 (z1759 + 1) trivial h1903 h1916 (rW (c := 0) (d := 40) (rAdd (e := 1) (f := 40) h1821 (rR (x := 1)) rfl) rfl) (vc_X5_tells_W_22 (nS h1769) h1820 h1910 h1822 h1909 h1821) ((((((((((((W1834 h1832).2 h1865) z1868 q1869) z1871 q1872) z1874 q1875).2 h1896) z1898 q1899) z1901 q1902) b1904 q1905 A1906) n_1907 q1908 h1909) z1911 q1912 h1913) z1914 q1915)
              refine mr_icmp_eq (pc := 74) (tgt := 94) dX5_tells_74 (by decide) h1825 (r32 (rR (x := (-1))) rfl) (fun h1917 => ?_) (fun h1917 => ?_)
              · have h1918 : (-1) ≤ z1823 ∧ z1823 ≤ (-1) := (vc_X10_verdictOn_17 h1917 h1825)
                refine mr_iconst (pc := 94) (z := 1) dX5_tells_94 ?_
                refine sv_goto (pc := 95) (tgt := 99) dX5_tells_95 (by decide) ?_
                exact J1833 1 (rW (c := 0) (d := 1) (rR (x := 1)) rfl) ((((((W1770 z1761 z1760 z1759 rfl h1763 h1764 h1765) b1772 q1773 A1774) n_1775 q1776 h1777).2 h1820) z1823 q1824 h1825).1 h1917)
              refine sv_aload_n (pc := 77) dX5_tells_77 rfl rfl ?_
              refine gk_X5_2 (pc := 78) dX5_tells_78 wF_X5_17 hA0 q1773 ?_
              refine mr_iload (pc := 81) (z := z1759) dX5_tells_81 rfl ?_
              refine lk_232 (pc := 83) dX5_tells_83 A1774 (lnC q1776 (vc_X5_tells_W_16 h1820 h1822 h1821)) q1824 ?_
              refine sv_aload_n (pc := 84) dX5_tells_84 rfl rfl ?_
              refine gf_X7_0 (pc := 85) dX5_tells_85 wF_X5_35 hA3 hT fun A1919 => ?_
              refine mr_iload (pc := 88) (z := z1110) dX5_tells_88 rfl ?_
              refine la_201 (pc := 90) dX5_tells_90 A1919 hT (rIx (n := 20) h1248 rfl) fun z1920 q1921 h1922 => ?_
              refine mr_icmp_ne (pc := 91) (tgt := 98) dX5_tells_91 (by decide) h1825 h1922 (fun h1923 => ?_) (fun h1923 => ?_)
              · refine mr_iconst (pc := 98) (z := 0) dX5_tells_98 ?_
                exact J1833 0 (rW (c := 0) (d := 1) (rR (x := 0)) rfl) ((((((((W1770 z1761 z1760 z1759 rfl h1763 h1764 h1765) b1772 q1773 A1774) n_1775 q1776 h1777).2 h1820) z1823 q1824 h1825).2 h1917) z1920 q1921 h1922).1 h1923)
              refine mr_iconst (pc := 94) (z := 1) dX5_tells_94 ?_
              refine sv_goto (pc := 95) (tgt := 99) dX5_tells_95 (by decide) ?_
              exact J1833 1 (rW (c := 0) (d := 1) (rR (x := 1)) rfl) ((((((((W1770 z1761 z1760 z1759 rfl h1763 h1764 h1765) b1772 q1773 A1774) n_1775 q1776 h1777).2 h1820) z1823 q1824 h1825).2 h1917) z1920 q1921 h1922).2 h1923)
          refine mr_lvS (lv' := [(0, .ref a0), (1, iv p1), (3, .ref a3), (4, jv z1112), (6, jv 0), (8, iv z1110), (9, jv 0), (11, iv 0)]) (List.forall_mem_cons.mpr ⟨rfl, List.forall_mem_cons.mpr ⟨rfl, List.forall_mem_cons.mpr ⟨rfl, List.forall_mem_cons.mpr ⟨rfl, List.forall_mem_cons.mpr ⟨rfl, List.forall_mem_cons.mpr ⟨rfl, List.forall_mem_cons.mpr ⟨rfl, List.forall_mem_cons.mpr ⟨rfl, fun _ h => absurd h List.not_mem_nil⟩⟩⟩⟩⟩⟩⟩⟩) ?_
          exact L1762 42 0 0 0 trivial (rW (c := -9223372036854775808) (d := 9223372036854775807) (rR (x := 0)) rfl) (rW (c := -9223372036854775808) (d := 9223372036854775807) (rR (x := 0)) rfl) (rW (c := 0) (d := 40) (rR (x := 0)) rfl) vc_X12_waysMatch_14 ((W1121 z1112 z1111 z1110 rfl h1114 h1115 h1116).2 h1227)
      refine mr_lvS (lv' := [(0, .ref a0), (1, iv p1), (3, .ref a3), (4, jv z18), (6, jv 0), (8, iv 0)]) (List.forall_mem_cons.mpr ⟨rfl, List.forall_mem_cons.mpr ⟨rfl, List.forall_mem_cons.mpr ⟨rfl, List.forall_mem_cons.mpr ⟨rfl, List.forall_mem_cons.mpr ⟨rfl, List.forall_mem_cons.mpr ⟨rfl, fun _ h => absurd h List.not_mem_nil⟩⟩⟩⟩⟩⟩) ?_
      exact L1113 22 z18 0 0 trivial h20 (rW (c := -9223372036854775808) (d := 9223372036854775807) (rR (x := 0)) rfl) (rW (c := 0) (d := 20) (rR (x := 0)) rfl) vc_X12_tieOf_12 (((((((hQ z1 q2 h3).1 h4).2 h6) b9 q10 A11) n_12 q13 h14).1 h15) z18 q19 h20)
    refine mr_iconst (pc := 22) (z := 0) dX5_tells_22 ?_
    exact mr_zretP dX5_tells_23 rfl (rW (c := 0) (d := 1) (rR (x := 0)) rfl) (le_t rfl) (le_t rfl) ⟨(rW (c := 0) (d := 1) (rR (x := 0)) rfl), ((((((hQ z1 q2 h3).1 h4).2 h6) b9 q10 A11) n_12 q13 h14).2 h15), trivial⟩
  have h1924 : 0 ≤ z1 ∧ z1 ≤ 0 := (vc_X12_waysMatch_23 h4 h3)
  refine mr_iload_n (pc := 7) (z := p2) dX5_tells_7 rfl rfl ?_
  exact mr_zretP dX5_tells_8 rfl hp2 (le_t rfl) (le_t rfl) ⟨hp2, ((hQ z1 q2 h3).2 h4), trivial⟩
def WJ_X10_verdictOn_W_4 (μ : mM) (p2 : Int) (Q : Int → mM → Prop) (rec1 : (Int × Int) → Prop) (z783 : Int) (z782 : Int) (z809 : Int) (z824 : Int) (z834 : Int) (z851 : Int) : Prop := (0 ≤ z851 ∧ z851 ≤ 1) → ((z809 = 0) → rec1 (z783, (z782 + 1))) ∧ ((¬ z809 = 0) → ((z824 = 0) → rec1 (z783, (z782 + 1))) ∧ ((¬ z824 = 0) → ((¬ z851 = 0) → ∀ z863 : Int, μ 16 (z782.toNat) = z863 → ((-2147483648) ≤ z863 ∧ z863 ≤ 2147483647) → ((¬ z863 = p2) → rec1 ((0 : Int), (z782 + 1))) ∧ ((z863 = p2) → ∀ z867 : Int, μ 15 (z782.toNat) = z867 → ((-2147483648) ≤ z867 ∧ z867 ≤ 2147483647) → ((z867 < z834) → rec1 ((0 : Int), (z782 + 1))) ∧ ((z834 ≤ z867) → Q (1 : Int) μ))) ∧ ((z851 = 0) → rec1 (z783, (z782 + 1)))))
def WJ_X10_verdictOn_W_3 (μ : mM) (p1 : Int) (p2 : Int) (Q : Int → mM → Prop) (rec1 : (Int × Int) → Prop) (z783 : Int) (z782 : Int) (z809 : Int) (z824 : Int) : Prop := (0 ≤ z824 ∧ z824 ≤ 1) → ∀ z828 : Int, μ 14 (z782.toNat) = z828 → (0 ≤ z828 ∧ z828 ≤ 9) → ∀ z831 : Int, μ 8 (z828.toNat) = z831 → (0 ≤ z831 ∧ z831 ≤ 32) → ∀ z834 : Int, μ 8 (p1.toNat) = z834 → (0 ≤ z834 ∧ z834 ≤ 32) → ((z834 < z831) → (WJ_X10_verdictOn_W_4 μ p2 Q rec1 z783 z782 z809 z824 z834) (0 : Int)) ∧ ((z831 ≤ z834) → ∀ z877 : Int, μ 7 (p1.toNat) = z877 → ((-2147483648) ≤ z877 ∧ z877 ≤ 2147483647) → ∀ z880 : Int, μ 9 (z828.toNat) = z880 → ((-2147483648) ≤ z880 ∧ z880 ≤ 2147483647) → ∀ z883 : Int, bAnd z877 z880 = z883 → ∀ z886 : Int, μ 7 (z828.toNat) = z886 → ((-2147483648) ≤ z886 ∧ z886 ≤ 2147483647) → ((¬ z883 = z886) → (WJ_X10_verdictOn_W_4 μ p2 Q rec1 z783 z782 z809 z824 z834) (0 : Int)) ∧ ((z883 = z886) → (WJ_X10_verdictOn_W_4 μ p2 Q rec1 z783 z782 z809 z824 z834) (1 : Int)))
def WJ_X10_verdictOn_W_2 (μ : mM) (p1 : Int) (p2 : Int) (p4 : Int) (Q : Int → mM → Prop) (rec1 : (Int × Int) → Prop) (z783 : Int) (z782 : Int) (z809 : Int) : Prop := (0 ≤ z809 ∧ z809 ≤ 1) → ∀ z813 : Int, μ 19 (z782.toNat) = z813 → ((-2147483648) ≤ z813 ∧ z813 ≤ 2147483647) → ((p4 < z813) → (WJ_X10_verdictOn_W_3 μ p1 p2 Q rec1 z783 z782 z809) (0 : Int)) ∧ ((z813 ≤ p4) → ∀ z893 : Int, μ 20 (z782.toNat) = z893 → ((-2147483648) ≤ z893 ∧ z893 ≤ 2147483647) → ((z893 = (-1)) → (WJ_X10_verdictOn_W_3 μ p1 p2 Q rec1 z783 z782 z809) (1 : Int)) ∧ ((¬ z893 = (-1)) → ((z893 ≤ p4) → (WJ_X10_verdictOn_W_3 μ p1 p2 Q rec1 z783 z782 z809) (0 : Int)) ∧ ((p4 < z893) → (WJ_X10_verdictOn_W_3 μ p1 p2 Q rec1 z783 z782 z809) (1 : Int))))
def WL_X10_verdictOn_W_1 (μ : mM) (p1 : Int) (p2 : Int) (p3 : Int) (p4 : Int) (Q : Int → mM → Prop) (rec1 : (Int × Int) → Prop) (s : (Int × Int)) : Prop := ∀ z783 : Int, ∀ z782 : Int, s = (z783, z782) → (0 ≤ z783 ∧ z783 ≤ 2) → (0 ≤ z782 ∧ z782 ≤ 30) → ∀ z793 : Int, μ 6 17 = z793 → (0 ≤ z793 ∧ z793 ≤ 30) → ((z793 ≤ z782) → Q z783 μ) ∧ ((z782 < z793) → ∀ z799 : Int, μ 17 (z782.toNat) = z799 → ((-2147483648) ≤ z799 ∧ z799 ≤ 2147483647) → ((p3 < z799) → (WJ_X10_verdictOn_W_2 μ p1 p2 p4 Q rec1 z783 z782) (0 : Int)) ∧ ((z799 ≤ p3) → ∀ z904 : Int, μ 18 (z782.toNat) = z904 → ((-2147483648) ≤ z904 ∧ z904 ≤ 2147483647) → ((z904 ≤ p3) → (WJ_X10_verdictOn_W_2 μ p1 p2 p4 Q rec1 z783 z782) (0 : Int)) ∧ ((p3 < z904) → (WJ_X10_verdictOn_W_2 μ p1 p2 p4 Q rec1 z783 z782) (1 : Int))))
def WP_X10_verdictOn_W (w : mW) (μ : mM) (p1 : Int) (p2 : Int) (p3 : Int) (p4 : Int) (Q : Int → mM → Prop) : Prop := loopF (WL_X10_verdictOn_W_1 μ p1 p2 p3 p4 Q) False 32 ((2 : Int), (0 : Int))
set_option maxRecDepth 4000 in
set_option maxHeartbeats 4000000 in
theorem c_X10_verdictOn_W {l : Launch} {D : va_G} {c : Nat → ClassId} {H0 : Heap} {sa : Nat × Nat × (Nat → Int32)} {w : mW} {μ : mM} (hw : mWF w) (hT : mT w μ) {p1 : Int} (hp1 : 0 ≤ p1 ∧ p1 ≤ 9) {p2 : Int} (hp2 : (-2147483648) ≤ p2 ∧ p2 ≤ 2147483647) {p3 : Int} (hp3 : (-2147483648) ≤ p3 ∧ p3 ≤ 2147483647) {p4 : Int} (hp4 : (-2147483648) ≤ p4 ∧ p4 ≤ 2147483647) {Q : Int → mM → Prop} (hQ : WP_X10_verdictOn_W w μ p1 p2 p3 p4 Q) : sC (gG l D c H0 sa) mX10_verdictOn 1 0 0 [.ref 6, iv p1, iv p2, iv p3, iv p4] (mk w μ) (qP w μ (fun z => (0 ≤ z ∧ z ≤ 2) ∧ Q z μ ∧ True)) := by
  refine sC.of rfl (by decide) (le_t rfl) ?_
  refine mr_lvE (lv' := [(0, .ref 6), (1, iv p1), (2, iv p2), (3, iv p3), (4, iv p4)]) rfl ?_
  refine mr_iconst (pc := 0) (z := 2) dX10_verdictOn_0 ?_
  refine mr_istore (pc := 1) (lv' := [(5, iv 2), (0, .ref 6), (1, iv p1), (2, iv p2), (3, iv p3), (4, iv p4)]) dX10_verdictOn_1 (by decide) rfl ?_
  refine mr_iconst (pc := 3) (z := 0) dX10_verdictOn_3 ?_
  refine mr_istore (pc := 4) (lv' := [(6, iv 0), (5, iv 2), (0, .ref 6), (1, iv p1), (2, iv p2), (3, iv p3), (4, iv p4)]) dX10_verdictOn_4 (by decide) rfl ?_
  have L784 : ∀ (nL784 : Nat) (z783 z782 : Int), True → (0 ≤ z783 ∧ z783 ≤ 2) → (0 ≤ z782 ∧ z782 ≤ 30) → (31 - z782) < (nL784 : Int) → loopF (WL_X10_verdictOn_W_1 μ p1 p2 p3 p4 Q) False nL784 (z783, z782) → sV (gG l D c H0 sa) mX10_verdictOn (sRm 1 0 0) (sZ (gG l D c H0 sa) 0 0 (qP w μ (fun z => (0 ≤ z ∧ z ≤ 2) ∧ Q z μ ∧ True))) 6 [(0, .ref 6), (1, iv p1), (2, iv p2), (3, iv p3), (4, iv p4), (5, iv z783), (6, iv z782)] [] (mk w μ) 0 0 := by
    intro nL784
    induction nL784 with
    | zero => intro z783 z782 _ h785 h786 h790 W791; exact ((vc_X12_judgedAnew_1 h790 h786)).elim
    | succ nL784 ih792 =>
      intro z783 z782 _ h785 h786 h790 W791
      refine mr_iload (pc := 6) (z := z782) dX10_verdictOn_6 rfl ?_
      refine sv_aload_n (pc := 8) dX10_verdictOn_8 rfl rfl ?_
      refine gf_X10_17 (pc := 9) dX10_verdictOn_9 wF_X10_118 (A_6 hw) hT fun z793 q794 h795 => ?_
      refine mr_icmp_ge (pc := 12) (tgt := 198) dX10_verdictOn_12 (by decide) (r32 h786 rfl) (r32 h795 rfl) (fun h796 => ?_) (fun h796 => ?_)
      · refine mr_iload (pc := 198) (z := z783) dX10_verdictOn_198 rfl ?_
        exact mr_iretP dX10_verdictOn_200 rfl (le_t rfl) (le_t rfl) ⟨h785, (((W791 z783 z782 rfl h785 h786) z793 q794 h795).1 h796), trivial⟩
      have h797 : 0 ≤ z782 ∧ z782 ≤ 29 := (vc_X12_judgedAnew_2 h796 h786 h795)
      have h798 : 1 ≤ z793 ∧ z793 ≤ 30 := (vc_X12_judgedAnew_3 h796 h797 h795)
      refine sv_aload_n (pc := 15) dX10_verdictOn_15 rfl rfl ?_
      refine gf_X10_10 (pc := 16) dX10_verdictOn_16 wF_X10_48 (A_6 hw) hT ?_
      refine mr_iload (pc := 19) (z := z782) dX10_verdictOn_19 rfl ?_
      refine la_17 (pc := 21) dX10_verdictOn_21 (A_17 hw) hT (rIx (n := 30) h797 rfl) fun z799 q800 h801 => ?_
      refine mr_iload_n (pc := 22) (z := p3) dX10_verdictOn_22 rfl rfl ?_
      have J811 : ∀ (z809 : Int), ((0 ≤ z809 ∧ z809 ≤ 1)) → ((WJ_X10_verdictOn_W_2 μ p1 p2 p4 Q (loopF (WL_X10_verdictOn_W_1 μ p1 p2 p3 p4 Q) False nL784) z783 z782) z809) → sV (gG l D c H0 sa) mX10_verdictOn (sRm 1 0 0) (sZ (gG l D c H0 sa) 0 0 (qP w μ (fun z => (0 ≤ z ∧ z ≤ 2) ∧ Q z μ ∧ True))) 42 [(0, .ref 6), (1, iv p1), (2, iv p2), (3, iv p3), (4, iv p4), (5, iv z783), (6, iv z782)] [iv z809] (mk w μ) 0 0 := by
        intro z809 h810 W812
        refine mr_istore (pc := 42) (lv' := [(7, iv z809), (0, .ref 6), (1, iv p1), (2, iv p2), (3, iv p3), (4, iv p4), (5, iv z783), (6, iv z782)]) dX10_verdictOn_42 (by decide) rfl ?_
        refine sv_aload_n (pc := 44) dX10_verdictOn_44 rfl rfl ?_
        refine gf_X10_12 (pc := 45) dX10_verdictOn_45 wF_X10_54 (A_6 hw) hT ?_
        refine mr_iload (pc := 48) (z := z782) dX10_verdictOn_48 rfl ?_
        refine la_19 (pc := 50) dX10_verdictOn_50 (A_19 hw) hT (rIx (n := 30) h797 rfl) fun z813 q814 h815 => ?_
        refine mr_iload (pc := 51) (z := p4) dX10_verdictOn_51 rfl ?_
        have J826 : ∀ (z824 : Int), ((0 ≤ z824 ∧ z824 ≤ 1)) → ((WJ_X10_verdictOn_W_3 μ p1 p2 Q (loopF (WL_X10_verdictOn_W_1 μ p1 p2 p3 p4 Q) False nL784) z783 z782 z809) z824) → sV (gG l D c H0 sa) mX10_verdictOn (sRm 1 0 0) (sZ (gG l D c H0 sa) 0 0 (qP w μ (fun z => (0 ≤ z ∧ z ≤ 2) ∧ Q z μ ∧ True))) 84 [(0, .ref 6), (1, iv p1), (2, iv p2), (3, iv p3), (4, iv p4), (5, iv z783), (6, iv z782), (7, iv z809)] [iv z824] (mk w μ) 0 0 := by
          intro z824 h825 W827
          refine mr_istore (pc := 84) (lv' := [(8, iv z824), (0, .ref 6), (1, iv p1), (2, iv p2), (3, iv p3), (4, iv p4), (5, iv z783), (6, iv z782), (7, iv z809)]) dX10_verdictOn_84 (by decide) rfl ?_
          refine sv_aload_n (pc := 86) dX10_verdictOn_86 rfl rfl ?_
          refine gf_X10_7 (pc := 87) dX10_verdictOn_87 wF_X10_39 (A_6 hw) hT ?_
          refine mr_iload (pc := 90) (z := z782) dX10_verdictOn_90 rfl ?_
          refine la_14 (pc := 92) dX10_verdictOn_92 (A_14 hw) hT (rIx (n := 30) h797 rfl) fun z828 q829 h830 => ?_
          refine mr_istore (pc := 93) (lv' := [(9, iv z828), (8, iv z824), (0, .ref 6), (1, iv p1), (2, iv p2), (3, iv p3), (4, iv p4), (5, iv z783), (6, iv z782), (7, iv z809)]) dX10_verdictOn_93 (by decide) rfl ?_
          refine sv_aload_n (pc := 95) dX10_verdictOn_95 rfl rfl ?_
          refine gf_X10_1 (pc := 96) dX10_verdictOn_96 wF_X10_15 (A_6 hw) hT ?_
          refine mr_iload (pc := 99) (z := z828) dX10_verdictOn_99 rfl ?_
          refine la_8 (pc := 101) dX10_verdictOn_101 (A_8 hw) hT (rIx (n := 10) h830 rfl) fun z831 q832 h833 => ?_
          refine sv_aload_n (pc := 102) dX10_verdictOn_102 rfl rfl ?_
          refine gf_X10_1 (pc := 103) dX10_verdictOn_103 wF_X10_15 (A_6 hw) hT ?_
          refine mr_iload_n (pc := 106) (z := p1) dX10_verdictOn_106 rfl rfl ?_
          refine la_8 (pc := 107) dX10_verdictOn_107 (A_8 hw) hT (rIx (n := 10) hp1 rfl) fun z834 q835 h836 => ?_
          have J853 : ∀ (z851 : Int), ((0 ≤ z851 ∧ z851 ≤ 1)) → ((WJ_X10_verdictOn_W_4 μ p2 Q (loopF (WL_X10_verdictOn_W_1 μ p1 p2 p3 p4 Q) False nL784) z783 z782 z809 z824 z834) z851) → sV (gG l D c H0 sa) mX10_verdictOn (sRm 1 0 0) (sZ (gG l D c H0 sa) 0 0 (qP w μ (fun z => (0 ≤ z ∧ z ≤ 2) ∧ Q z μ ∧ True))) 140 [(0, .ref 6), (1, iv p1), (2, iv p2), (3, iv p3), (4, iv p4), (5, iv z783), (6, iv z782), (7, iv z809), (8, iv z824)] [iv z851] (mk w μ) 0 0 := by
            intro z851 h852 W854
            refine mr_istore (pc := 140) (lv' := [(10, iv z851), (0, .ref 6), (1, iv p1), (2, iv p2), (3, iv p3), (4, iv p4), (5, iv z783), (6, iv z782), (7, iv z809), (8, iv z824)]) dX10_verdictOn_140 (by decide) rfl ?_
            refine mr_iload (pc := 142) (z := z809) dX10_verdictOn_142 rfl ?_
            refine mr_if_eq (pc := 144) (tgt := 192) dX10_verdictOn_144 (by decide) (r32 h810 rfl) (fun h855 => ?_) (fun h855 => ?_)
            · have h856 : 0 ≤ z809 ∧ z809 ≤ 0 := (vc_X12_ring_22 h855 h810)
              refine mr_iinc (pc := 192) (lv' := [(6, iv (z782 + 1)), (10, iv z851), (0, .ref 6), (1, iv p1), (2, iv p2), (3, iv p3), (4, iv p4), (5, iv z783), (7, iv z809), (8, iv z824)]) dX10_verdictOn_192 rfl (by decide) rfl ?_
              refine sv_goto (pc := 195) (tgt := 6) dX10_verdictOn_195 (by decide) ?_
              refine mr_lvS (lv' := [(0, .ref 6), (1, iv p1), (2, iv p2), (3, iv p3), (4, iv p4), (5, iv z783), (6, iv (z782 + 1))]) (List.forall_mem_cons.mpr ⟨rfl, List.forall_mem_cons.mpr ⟨rfl, List.forall_mem_cons.mpr ⟨rfl, List.forall_mem_cons.mpr ⟨rfl, List.forall_mem_cons.mpr ⟨rfl, List.forall_mem_cons.mpr ⟨rfl, List.forall_mem_cons.mpr ⟨rfl, fun _ h => absurd h List.not_mem_nil⟩⟩⟩⟩⟩⟩⟩) ?_
              exact ih792 z783 (z782 + 1) trivial h785 (rW (c := 0) (d := 30) (rAdd (e := 1) (f := 30) h797 (rR (x := 1)) rfl) rfl) (vc_X12_judgedAnew_5 (nS h790) h796 h797 h798) ((W854 h852).1 h855)
            have h857 : 1 ≤ z809 ∧ z809 ≤ 1 := (vc_X12_ring_24 h855 h810)
            refine mr_iload (pc := 147) (z := z824) dX10_verdictOn_147 rfl ?_
            refine mr_if_eq (pc := 149) (tgt := 192) dX10_verdictOn_149 (by decide) (r32 h825 rfl) (fun h858 => ?_) (fun h858 => ?_)
            · have h859 : 0 ≤ z824 ∧ z824 ≤ 0 := (vc_X12_ring_22 h858 h825)
              refine mr_iinc (pc := 192) (lv' := [(6, iv (z782 + 1)), (10, iv z851), (0, .ref 6), (1, iv p1), (2, iv p2), (3, iv p3), (4, iv p4), (5, iv z783), (7, iv z809), (8, iv z824)]) dX10_verdictOn_192 rfl (by decide) rfl ?_
              refine sv_goto (pc := 195) (tgt := 6) dX10_verdictOn_195 (by decide) ?_
              refine mr_lvS (lv' := [(0, .ref 6), (1, iv p1), (2, iv p2), (3, iv p3), (4, iv p4), (5, iv z783), (6, iv (z782 + 1))]) (List.forall_mem_cons.mpr ⟨rfl, List.forall_mem_cons.mpr ⟨rfl, List.forall_mem_cons.mpr ⟨rfl, List.forall_mem_cons.mpr ⟨rfl, List.forall_mem_cons.mpr ⟨rfl, List.forall_mem_cons.mpr ⟨rfl, List.forall_mem_cons.mpr ⟨rfl, fun _ h => absurd h List.not_mem_nil⟩⟩⟩⟩⟩⟩⟩) ?_
              exact ih792 z783 (z782 + 1) trivial h785 (rW (c := 0) (d := 30) (rAdd (e := 1) (f := 30) h797 (rR (x := 1)) rfl) rfl) (vc_X12_judgedAnew_5 (nS h790) h796 h797 h798) (((W854 h852).2 h855).1 h858)
            have h860 : 1 ≤ z824 ∧ z824 ≤ 1 := (vc_X12_ring_24 h858 h825)
            refine mr_iload (pc := 152) (z := z851) dX10_verdictOn_152 rfl ?_
            refine mr_if_ne (pc := 154) (tgt := 160) dX10_verdictOn_154 (by decide) (r32 h852 rfl) (fun h861 => ?_) (fun h861 => ?_)
            · have h862 : 1 ≤ z851 ∧ z851 ≤ 1 := (vc_X12_ring_24 h861 h852)
              refine sv_aload_n (pc := 160) dX10_verdictOn_160 rfl rfl ?_
              refine gf_X10_9 (pc := 161) dX10_verdictOn_161 wF_X10_45 (A_6 hw) hT ?_
              refine mr_iload (pc := 164) (z := z782) dX10_verdictOn_164 rfl ?_
              refine la_16 (pc := 166) dX10_verdictOn_166 (A_16 hw) hT (rIx (n := 30) h797 rfl) fun z863 q864 h865 => ?_
              refine mr_iload_n (pc := 167) (z := p2) dX10_verdictOn_167 rfl rfl ?_
              refine mr_icmp_ne (pc := 168) (tgt := 189) dX10_verdictOn_168 (by decide) h865 hp2 (fun h866 => ?_) (fun h866 => ?_)
              · refine mr_iconst (pc := 189) (z := 0) dX10_verdictOn_189 ?_
                refine mr_istore (pc := 190) (lv' := [(5, iv 0), (10, iv z851), (0, .ref 6), (1, iv p1), (2, iv p2), (3, iv p3), (4, iv p4), (6, iv z782), (7, iv z809), (8, iv z824)]) dX10_verdictOn_190 (by decide) rfl ?_
                refine mr_iinc (pc := 192) (lv' := [(6, iv (z782 + 1)), (5, iv 0), (10, iv z851), (0, .ref 6), (1, iv p1), (2, iv p2), (3, iv p3), (4, iv p4), (7, iv z809), (8, iv z824)]) dX10_verdictOn_192 rfl (by decide) rfl ?_
                refine sv_goto (pc := 195) (tgt := 6) dX10_verdictOn_195 (by decide) ?_
                refine mr_lvS (lv' := [(0, .ref 6), (1, iv p1), (2, iv p2), (3, iv p3), (4, iv p4), (5, iv 0), (6, iv (z782 + 1))]) (List.forall_mem_cons.mpr ⟨rfl, List.forall_mem_cons.mpr ⟨rfl, List.forall_mem_cons.mpr ⟨rfl, List.forall_mem_cons.mpr ⟨rfl, List.forall_mem_cons.mpr ⟨rfl, List.forall_mem_cons.mpr ⟨rfl, List.forall_mem_cons.mpr ⟨rfl, fun _ h => absurd h List.not_mem_nil⟩⟩⟩⟩⟩⟩⟩) ?_
                exact ih792 0 (z782 + 1) trivial (rW (c := 0) (d := 2) (rR (x := 0)) rfl) (rW (c := 0) (d := 30) (rAdd (e := 1) (f := 30) h797 (rR (x := 1)) rfl) rfl) (vc_X12_judgedAnew_5 (nS h790) h796 h797 h798) ((((((W854 h852).2 h855).2 h858).1 h861) z863 q864 h865).1 h866)
              refine sv_aload_n (pc := 171) dX10_verdictOn_171 rfl rfl ?_
              refine gf_X10_8 (pc := 172) dX10_verdictOn_172 wF_X10_42 (A_6 hw) hT ?_
              refine mr_iload (pc := 175) (z := z782) dX10_verdictOn_175 rfl ?_
              refine la_15 (pc := 177) dX10_verdictOn_177 (A_15 hw) hT (rIx (n := 30) h797 rfl) fun z867 q868 h869 => ?_
              refine sv_aload_n (pc := 178) dX10_verdictOn_178 rfl rfl ?_
              refine gf_X10_1 (pc := 179) dX10_verdictOn_179 wF_X10_15 (A_6 hw) hT ?_
              refine mr_iload_n (pc := 182) (z := p1) dX10_verdictOn_182 rfl rfl ?_
              refine lk_8 (pc := 183) dX10_verdictOn_183 (A_8 hw) (rIx (n := 10) hp1 rfl) q835 ?_
              refine mr_icmp_lt (pc := 184) (tgt := 189) dX10_verdictOn_184 (by decide) h869 (r32 h836 rfl) (fun h870 => ?_) (fun h870 => ?_)
              · have h871 : (-2147483648) ≤ z867 ∧ z867 ≤ 31 := (vc_X10_verdictOn_10 h870 h836 h869)
                refine mr_iconst (pc := 189) (z := 0) dX10_verdictOn_189 ?_
                refine mr_istore (pc := 190) (lv' := [(5, iv 0), (10, iv z851), (0, .ref 6), (1, iv p1), (2, iv p2), (3, iv p3), (4, iv p4), (6, iv z782), (7, iv z809), (8, iv z824)]) dX10_verdictOn_190 (by decide) rfl ?_
                refine mr_iinc (pc := 192) (lv' := [(6, iv (z782 + 1)), (5, iv 0), (10, iv z851), (0, .ref 6), (1, iv p1), (2, iv p2), (3, iv p3), (4, iv p4), (7, iv z809), (8, iv z824)]) dX10_verdictOn_192 rfl (by decide) rfl ?_
                refine sv_goto (pc := 195) (tgt := 6) dX10_verdictOn_195 (by decide) ?_
                refine mr_lvS (lv' := [(0, .ref 6), (1, iv p1), (2, iv p2), (3, iv p3), (4, iv p4), (5, iv 0), (6, iv (z782 + 1))]) (List.forall_mem_cons.mpr ⟨rfl, List.forall_mem_cons.mpr ⟨rfl, List.forall_mem_cons.mpr ⟨rfl, List.forall_mem_cons.mpr ⟨rfl, List.forall_mem_cons.mpr ⟨rfl, List.forall_mem_cons.mpr ⟨rfl, List.forall_mem_cons.mpr ⟨rfl, fun _ h => absurd h List.not_mem_nil⟩⟩⟩⟩⟩⟩⟩) ?_
                exact ih792 0 (z782 + 1) trivial (rW (c := 0) (d := 2) (rR (x := 0)) rfl) (rW (c := 0) (d := 30) (rAdd (e := 1) (f := 30) h797 (rR (x := 1)) rfl) rfl) (vc_X12_judgedAnew_5 (nS h790) h796 h797 h798) ((((((((W854 h852).2 h855).2 h858).1 h861) z863 q864 h865).2 h866) z867 q868 h869).1 h870)
              have h872 : 0 ≤ z867 ∧ z867 ≤ 2147483647 := (vc_X10_verdictOn_11 h870 h836 h869)
              refine mr_iconst (pc := 187) (z := 1) dX10_verdictOn_187 ?_
              exact mr_iretP dX10_verdictOn_188 rfl (le_t rfl) (le_t rfl) ⟨(rW (c := 0) (d := 2) (rR (x := 1)) rfl), ((((((((W854 h852).2 h855).2 h858).1 h861) z863 q864 h865).2 h866) z867 q868 h869).2 h870), trivial⟩
            have h873 : 0 ≤ z851 ∧ z851 ≤ 0 := (vc_X12_ring_22 h861 h852)
            refine sv_goto (pc := 157) (tgt := 192) dX10_verdictOn_157 (by decide) ?_
            refine mr_iinc (pc := 192) (lv' := [(6, iv (z782 + 1)), (10, iv z851), (0, .ref 6), (1, iv p1), (2, iv p2), (3, iv p3), (4, iv p4), (5, iv z783), (7, iv z809), (8, iv z824)]) dX10_verdictOn_192 rfl (by decide) rfl ?_
            refine sv_goto (pc := 195) (tgt := 6) dX10_verdictOn_195 (by decide) ?_
            refine mr_lvS (lv' := [(0, .ref 6), (1, iv p1), (2, iv p2), (3, iv p3), (4, iv p4), (5, iv z783), (6, iv (z782 + 1))]) (List.forall_mem_cons.mpr ⟨rfl, List.forall_mem_cons.mpr ⟨rfl, List.forall_mem_cons.mpr ⟨rfl, List.forall_mem_cons.mpr ⟨rfl, List.forall_mem_cons.mpr ⟨rfl, List.forall_mem_cons.mpr ⟨rfl, List.forall_mem_cons.mpr ⟨rfl, fun _ h => absurd h List.not_mem_nil⟩⟩⟩⟩⟩⟩⟩) ?_
            exact ih792 z783 (z782 + 1) trivial h785 (rW (c := 0) (d := 30) (rAdd (e := 1) (f := 30) h797 (rR (x := 1)) rfl) rfl) (vc_X12_judgedAnew_5 (nS h790) h796 h797 h798) ((((W854 h852).2 h855).2 h858).2 h861)
          refine mr_icmp_gt (pc := 108) (tgt := 139) dX10_verdictOn_108 (by decide) (r32 h833 rfl) (r32 h836 rfl) (fun h874 => ?_) (fun h874 => ?_)
          · have h875 : 1 ≤ z831 ∧ z831 ≤ 32 := (vc_X12_judgedAnew_7 h874 h833 h836)
            have h876 : 0 ≤ z834 ∧ z834 ≤ 31 := (vc_X12_judgedAnew_8 h874 h875 h836)
            refine mr_iconst (pc := 139) (z := 0) dX10_verdictOn_139 ?_
            refine mr_lvS (lv' := [(0, .ref 6), (1, iv p1), (2, iv p2), (3, iv p3), (4, iv p4), (5, iv z783), (6, iv z782), (7, iv z809), (8, iv z824)]) (List.forall_mem_cons.mpr ⟨rfl, List.forall_mem_cons.mpr ⟨rfl, List.forall_mem_cons.mpr ⟨rfl, List.forall_mem_cons.mpr ⟨rfl, List.forall_mem_cons.mpr ⟨rfl, List.forall_mem_cons.mpr ⟨rfl, List.forall_mem_cons.mpr ⟨rfl, List.forall_mem_cons.mpr ⟨rfl, List.forall_mem_cons.mpr ⟨rfl, fun _ h => absurd h List.not_mem_nil⟩⟩⟩⟩⟩⟩⟩⟩⟩) ?_
            exact J853 0 (rW (c := 0) (d := 1) (rR (x := 0)) rfl) (((((W827 h825) z828 q829 h830) z831 q832 h833) z834 q835 h836).1 h874)
          refine sv_aload_n (pc := 111) dX10_verdictOn_111 rfl rfl ?_
          refine gf_X10_0 (pc := 112) dX10_verdictOn_112 wF_X10_9 (A_6 hw) hT ?_
          refine mr_iload_n (pc := 115) (z := p1) dX10_verdictOn_115 rfl rfl ?_
          refine la_7 (pc := 116) dX10_verdictOn_116 (A_7 hw) hT (rIx (n := 10) hp1 rfl) fun z877 q878 h879 => ?_
          refine sv_aload_n (pc := 117) dX10_verdictOn_117 rfl rfl ?_
          refine gf_X10_2 (pc := 118) dX10_verdictOn_118 wF_X10_18 (A_6 hw) hT ?_
          refine mr_iload (pc := 121) (z := z828) dX10_verdictOn_121 rfl ?_
          refine la_9 (pc := 123) dX10_verdictOn_123 (A_9 hw) hT (rIx (n := 10) h830 rfl) fun z880 q881 h882 => ?_
          refine mr_iand (pc := 124) (x := z877) (y := z880) dX10_verdictOn_124 ?_
          refine mr_gen (P := fun z => (-2147483648) ≤ z ∧ z ≤ 2147483647) (r32i _) fun z883 q884 h885 => ?_
          refine sv_aload_n (pc := 125) dX10_verdictOn_125 rfl rfl ?_
          refine gf_X10_0 (pc := 126) dX10_verdictOn_126 wF_X10_9 (A_6 hw) hT ?_
          refine mr_iload (pc := 129) (z := z828) dX10_verdictOn_129 rfl ?_
          refine la_7 (pc := 131) dX10_verdictOn_131 (A_7 hw) hT (rIx (n := 10) h830 rfl) fun z886 q887 h888 => ?_
          refine mr_icmp_ne (pc := 132) (tgt := 139) dX10_verdictOn_132 (by decide) h885 h888 (fun h889 => ?_) (fun h889 => ?_)
          · refine mr_iconst (pc := 139) (z := 0) dX10_verdictOn_139 ?_
            refine mr_lvS (lv' := [(0, .ref 6), (1, iv p1), (2, iv p2), (3, iv p3), (4, iv p4), (5, iv z783), (6, iv z782), (7, iv z809), (8, iv z824)]) (List.forall_mem_cons.mpr ⟨rfl, List.forall_mem_cons.mpr ⟨rfl, List.forall_mem_cons.mpr ⟨rfl, List.forall_mem_cons.mpr ⟨rfl, List.forall_mem_cons.mpr ⟨rfl, List.forall_mem_cons.mpr ⟨rfl, List.forall_mem_cons.mpr ⟨rfl, List.forall_mem_cons.mpr ⟨rfl, List.forall_mem_cons.mpr ⟨rfl, fun _ h => absurd h List.not_mem_nil⟩⟩⟩⟩⟩⟩⟩⟩⟩) ?_
            exact J853 0 (rW (c := 0) (d := 1) (rR (x := 0)) rfl) ((((((((((W827 h825) z828 q829 h830) z831 q832 h833) z834 q835 h836).2 h874) z877 q878 h879) z880 q881 h882) z883 q884) z886 q887 h888).1 h889)
          refine mr_iconst (pc := 135) (z := 1) dX10_verdictOn_135 ?_
          refine sv_goto (pc := 136) (tgt := 140) dX10_verdictOn_136 (by decide) ?_
          refine mr_lvS (lv' := [(0, .ref 6), (1, iv p1), (2, iv p2), (3, iv p3), (4, iv p4), (5, iv z783), (6, iv z782), (7, iv z809), (8, iv z824)]) (List.forall_mem_cons.mpr ⟨rfl, List.forall_mem_cons.mpr ⟨rfl, List.forall_mem_cons.mpr ⟨rfl, List.forall_mem_cons.mpr ⟨rfl, List.forall_mem_cons.mpr ⟨rfl, List.forall_mem_cons.mpr ⟨rfl, List.forall_mem_cons.mpr ⟨rfl, List.forall_mem_cons.mpr ⟨rfl, List.forall_mem_cons.mpr ⟨rfl, fun _ h => absurd h List.not_mem_nil⟩⟩⟩⟩⟩⟩⟩⟩⟩) ?_
          exact J853 1 (rW (c := 0) (d := 1) (rR (x := 1)) rfl) ((((((((((W827 h825) z828 q829 h830) z831 q832 h833) z834 q835 h836).2 h874) z877 q878 h879) z880 q881 h882) z883 q884) z886 q887 h888).2 h889)
        refine mr_icmp_gt (pc := 53) (tgt := 83) dX10_verdictOn_53 (by decide) h815 hp4 (fun h890 => ?_) (fun h890 => ?_)
        · have h891 : (-2147483647) ≤ z813 ∧ z813 ≤ 2147483647 := (vc_X12_judgedAnew_15 h890 hp4 h815)
          have h892 : (-2147483648) ≤ p4 ∧ p4 ≤ 2147483646 := (vc_X12_judgedAnew_16 h890 hp4 h891)
          refine mr_iconst (pc := 83) (z := 0) dX10_verdictOn_83 ?_
          refine mr_lvS (lv' := [(0, .ref 6), (1, iv p1), (2, iv p2), (3, iv p3), (4, iv p4), (5, iv z783), (6, iv z782), (7, iv z809)]) (List.forall_mem_cons.mpr ⟨rfl, List.forall_mem_cons.mpr ⟨rfl, List.forall_mem_cons.mpr ⟨rfl, List.forall_mem_cons.mpr ⟨rfl, List.forall_mem_cons.mpr ⟨rfl, List.forall_mem_cons.mpr ⟨rfl, List.forall_mem_cons.mpr ⟨rfl, List.forall_mem_cons.mpr ⟨rfl, fun _ h => absurd h List.not_mem_nil⟩⟩⟩⟩⟩⟩⟩⟩) ?_
          exact J826 0 (rW (c := 0) (d := 1) (rR (x := 0)) rfl) (((W812 h810) z813 q814 h815).1 h890)
        refine sv_aload_n (pc := 56) dX10_verdictOn_56 rfl rfl ?_
        refine gf_X10_13 (pc := 57) dX10_verdictOn_57 wF_X10_57 (A_6 hw) hT ?_
        refine mr_iload (pc := 60) (z := z782) dX10_verdictOn_60 rfl ?_
        refine la_20 (pc := 62) dX10_verdictOn_62 (A_20 hw) hT (rIx (n := 30) h797 rfl) fun z893 q894 h895 => ?_
        refine mr_iconst (pc := 63) (z := (-1)) dX10_verdictOn_63 ?_
        refine mr_icmp_eq (pc := 64) (tgt := 79) dX10_verdictOn_64 (by decide) h895 (r32 (rR (x := (-1))) rfl) (fun h896 => ?_) (fun h896 => ?_)
        · have h897 : (-1) ≤ z893 ∧ z893 ≤ (-1) := (vc_X10_verdictOn_17 h896 h895)
          refine mr_iconst (pc := 79) (z := 1) dX10_verdictOn_79 ?_
          refine sv_goto (pc := 80) (tgt := 84) dX10_verdictOn_80 (by decide) ?_
          refine mr_lvS (lv' := [(0, .ref 6), (1, iv p1), (2, iv p2), (3, iv p3), (4, iv p4), (5, iv z783), (6, iv z782), (7, iv z809)]) (List.forall_mem_cons.mpr ⟨rfl, List.forall_mem_cons.mpr ⟨rfl, List.forall_mem_cons.mpr ⟨rfl, List.forall_mem_cons.mpr ⟨rfl, List.forall_mem_cons.mpr ⟨rfl, List.forall_mem_cons.mpr ⟨rfl, List.forall_mem_cons.mpr ⟨rfl, List.forall_mem_cons.mpr ⟨rfl, fun _ h => absurd h List.not_mem_nil⟩⟩⟩⟩⟩⟩⟩⟩) ?_
          exact J826 1 (rW (c := 0) (d := 1) (rR (x := 1)) rfl) (((((W812 h810) z813 q814 h815).2 h890) z893 q894 h895).1 h896)
        refine mr_iload (pc := 67) (z := p4) dX10_verdictOn_67 rfl ?_
        refine sv_aload_n (pc := 69) dX10_verdictOn_69 rfl rfl ?_
        refine gf_X10_13 (pc := 70) dX10_verdictOn_70 wF_X10_57 (A_6 hw) hT ?_
        refine mr_iload (pc := 73) (z := z782) dX10_verdictOn_73 rfl ?_
        refine lk_20 (pc := 75) dX10_verdictOn_75 (A_20 hw) (rIx (n := 30) h797 rfl) q894 ?_
        refine mr_icmp_ge (pc := 76) (tgt := 83) dX10_verdictOn_76 (by decide) hp4 h895 (fun h898 => ?_) (fun h898 => ?_)
        · refine mr_iconst (pc := 83) (z := 0) dX10_verdictOn_83 ?_
          refine mr_lvS (lv' := [(0, .ref 6), (1, iv p1), (2, iv p2), (3, iv p3), (4, iv p4), (5, iv z783), (6, iv z782), (7, iv z809)]) (List.forall_mem_cons.mpr ⟨rfl, List.forall_mem_cons.mpr ⟨rfl, List.forall_mem_cons.mpr ⟨rfl, List.forall_mem_cons.mpr ⟨rfl, List.forall_mem_cons.mpr ⟨rfl, List.forall_mem_cons.mpr ⟨rfl, List.forall_mem_cons.mpr ⟨rfl, List.forall_mem_cons.mpr ⟨rfl, fun _ h => absurd h List.not_mem_nil⟩⟩⟩⟩⟩⟩⟩⟩) ?_
          exact J826 0 (rW (c := 0) (d := 1) (rR (x := 0)) rfl) ((((((W812 h810) z813 q814 h815).2 h890) z893 q894 h895).2 h896).1 h898)
        have h899 : (-2147483648) ≤ p4 ∧ p4 ≤ 2147483646 := (vc_X10_verdictOn_18 h898 h890 h896 hp4 h815 h895)
        have h900 : (-2147483647) ≤ z893 ∧ z893 ≤ 2147483647 := (vc_X10_verdictOn_19 h898 h890 h896 h899 h815 h895)
        refine mr_iconst (pc := 79) (z := 1) dX10_verdictOn_79 ?_
        refine sv_goto (pc := 80) (tgt := 84) dX10_verdictOn_80 (by decide) ?_
        refine mr_lvS (lv' := [(0, .ref 6), (1, iv p1), (2, iv p2), (3, iv p3), (4, iv p4), (5, iv z783), (6, iv z782), (7, iv z809)]) (List.forall_mem_cons.mpr ⟨rfl, List.forall_mem_cons.mpr ⟨rfl, List.forall_mem_cons.mpr ⟨rfl, List.forall_mem_cons.mpr ⟨rfl, List.forall_mem_cons.mpr ⟨rfl, List.forall_mem_cons.mpr ⟨rfl, List.forall_mem_cons.mpr ⟨rfl, List.forall_mem_cons.mpr ⟨rfl, fun _ h => absurd h List.not_mem_nil⟩⟩⟩⟩⟩⟩⟩⟩) ?_
        exact J826 1 (rW (c := 0) (d := 1) (rR (x := 1)) rfl) ((((((W812 h810) z813 q814 h815).2 h890) z893 q894 h895).2 h896).2 h898)
      refine mr_icmp_gt (pc := 23) (tgt := 41) dX10_verdictOn_23 (by decide) h801 hp3 (fun h901 => ?_) (fun h901 => ?_)
      · have h902 : (-2147483647) ≤ z799 ∧ z799 ≤ 2147483647 := (vc_X12_judgedAnew_15 h901 hp3 h801)
        have h903 : (-2147483648) ≤ p3 ∧ p3 ≤ 2147483646 := (vc_X12_judgedAnew_16 h901 hp3 h902)
        refine mr_iconst (pc := 41) (z := 0) dX10_verdictOn_41 ?_
        exact J811 0 (rW (c := 0) (d := 1) (rR (x := 0)) rfl) (((((W791 z783 z782 rfl h785 h786) z793 q794 h795).2 h796) z799 q800 h801).1 h901)
      refine mr_iload_n (pc := 26) (z := p3) dX10_verdictOn_26 rfl rfl ?_
      refine sv_aload_n (pc := 27) dX10_verdictOn_27 rfl rfl ?_
      refine gf_X10_11 (pc := 28) dX10_verdictOn_28 wF_X10_51 (A_6 hw) hT ?_
      refine mr_iload (pc := 31) (z := z782) dX10_verdictOn_31 rfl ?_
      refine la_18 (pc := 33) dX10_verdictOn_33 (A_18 hw) hT (rIx (n := 30) h797 rfl) fun z904 q905 h906 => ?_
      refine mr_icmp_ge (pc := 34) (tgt := 41) dX10_verdictOn_34 (by decide) hp3 h906 (fun h907 => ?_) (fun h907 => ?_)
      · refine mr_iconst (pc := 41) (z := 0) dX10_verdictOn_41 ?_
        exact J811 0 (rW (c := 0) (d := 1) (rR (x := 0)) rfl) (((((((W791 z783 z782 rfl h785 h786) z793 q794 h795).2 h796) z799 q800 h801).2 h901) z904 q905 h906).1 h907)
      have h908 : (-2147483648) ≤ p3 ∧ p3 ≤ 2147483646 := (vc_X12_judgedAnew_17 h907 h901 hp3 h801 h906)
      have h909 : (-2147483647) ≤ z904 ∧ z904 ≤ 2147483647 := (vc_X12_judgedAnew_18 h907 h901 h908 h801 h906)
      refine mr_iconst (pc := 37) (z := 1) dX10_verdictOn_37 ?_
      refine sv_goto (pc := 38) (tgt := 42) dX10_verdictOn_38 (by decide) ?_
      exact J811 1 (rW (c := 0) (d := 1) (rR (x := 1)) rfl) (((((((W791 z783 z782 rfl h785 h786) z793 q794 h795).2 h796) z799 q800 h801).2 h901) z904 q905 h906).2 h907)
  refine mr_lvS (lv' := [(0, .ref 6), (1, iv p1), (2, iv p2), (3, iv p3), (4, iv p4), (5, iv 2), (6, iv 0)]) (List.forall_mem_cons.mpr ⟨rfl, List.forall_mem_cons.mpr ⟨rfl, List.forall_mem_cons.mpr ⟨rfl, List.forall_mem_cons.mpr ⟨rfl, List.forall_mem_cons.mpr ⟨rfl, List.forall_mem_cons.mpr ⟨rfl, List.forall_mem_cons.mpr ⟨rfl, fun _ h => absurd h List.not_mem_nil⟩⟩⟩⟩⟩⟩⟩) ?_
  exact L784 32 2 0 trivial (rW (c := 0) (d := 2) (rR (x := 2)) rfl) (rW (c := 0) (d := 30) (rR (x := 0)) rfl) vc_X12_judgedAnew_24 hQ
def WJ_X1_isSo_W_1 (w : mW) (μ : mM) (Q : Int → mM → Prop) (z8 : Int) (b176 : Nat) (z191 : Int) : Prop := ((-2147483648) ≤ z191 ∧ z191 ≤ 2147483647) → ∀ z195 : Int, μ b176 3 = z195 → (0 ≤ z195 ∧ z195 ≤ 9) → ∀ z198 : Int, μ 6 18 = z198 → (0 ≤ z198 ∧ z198 ≤ 2147483647) → WP_X10_verdictOn_W w μ z195 z191 z198 z198 (fun z205 _ => (0 ≤ z205 ∧ z205 ≤ 2) → ((¬ z205 = z8) → Q (0 : Int) μ) ∧ ((z205 = z8) → Q (1 : Int) μ))
def WP_X1_isSo_W (w : mW) (μ : mM) (a1 : Nat) (p2 : Int) (Q : Int → mM → Prop) : Prop := ∀ b1 : Nat, μ a1 1 = (b1 : Int) → mAt w b1 231 → ∀ n_4 : Int, (w.2.2.1 b1 : Int) = n_4 → (0 ≤ n_4 ∧ n_4 ≤ 2000) → ∀ z8 : Int, μ b1 ((p2 + 2).toNat) = z8 → ((-2147483648) ≤ z8 ∧ z8 ≤ 2147483647) → ∀ z11 : Int, μ b1 ((p2 + 3).toNat) = z11 → ((-2147483648) ≤ z11 ∧ z11 ≤ 2147483647) → ∀ z14 : Int, μ b1 ((p2 + 4).toNat) = z14 → ((-2147483648) ≤ z14 ∧ z14 ≤ 2147483647) → ∀ z17 : Int, μ b1 (p2.toNat) = z17 → ((-2147483648) ≤ z17 ∧ z17 ≤ 2147483647) → (z17 = 4 → ∀ b23 : Nat, μ 21 2 = (b23 : Int) → mAt w b23 200 → ∀ z26 : Int, μ b23 3 = z26 → (0 ≤ z26 ∧ z26 ≤ 9) → ∀ z29 : Int, μ 8 (z26.toNat) = z29 → (0 ≤ z29 ∧ z29 ≤ 32) → ((z29 < z11) → Q (0 : Int) μ) ∧ ((z11 ≤ z29) → ((z14 < z29) → Q (0 : Int) μ) ∧ ((z29 ≤ z14) → ∀ z66 : Int, μ 7 (z26.toNat) = z66 → ((-2147483648) ≤ z66 ∧ z66 ≤ 2147483647) → WP_X10_maskOf_W w μ z11 (fun z73 _ => ((-2147483648) ≤ z73 ∧ z73 ≤ 2147483647) → ∀ z74 : Int, bAnd z66 z73 = z74 → ((¬ z74 = z8) → Q (0 : Int) μ) ∧ ((z74 = z8) → Q (1 : Int) μ))))) ∧ (¬ z17 = 4 → (z17 = 5 → Q (0 : Int) μ) ∧ (¬ z17 = 5 → (z17 = 6 → ((¬ z11 = 1) → ∀ b84 : Nat, μ 21 2 = (b84 : Int) → mAt w b84 200 → WP_X5_tells_W w μ a1 z8 (0) b84 (fun z91 _ => (0 ≤ z91 ∧ z91 ≤ 1) → Q z91 μ)) ∧ ((z11 = 1) → ∀ b93 : Nat, μ 21 2 = (b93 : Int) → mAt w b93 200 → WP_X5_tells_W w μ a1 z8 (1) b93 (fun z100 _ => (0 ≤ z100 ∧ z100 ≤ 1) → Q z100 μ))) ∧ (¬ z17 = 6 → (z17 = 7 → Q (0 : Int) μ) ∧ (¬ z17 = 7 → (z17 = 8 → ∀ b105 : Nat, μ 21 2 = (b105 : Int) → mAt w b105 200 → WP_X7_hasMark_W w μ b105 z8 (fun z112 _ => (0 ≤ z112 ∧ z112 ≤ 1) → Q z112 μ)) ∧ (¬ z17 = 8 → (z17 = 9 → ∀ z115 : Int, μ 21 4 = z115 → ((-2147483648) ≤ z115 ∧ z115 ≤ 2147483647) → ((¬ z115 = z8) → Q (0 : Int) μ) ∧ ((z115 = z8) → Q (1 : Int) μ)) ∧ (¬ z17 = 9 → (z17 = 10 → ∀ z121 : Int, μ 21 5 = z121 → ((-2147483648) ≤ z121 ∧ z121 ≤ 2147483647) → ((¬ z121 = z8) → Q (0 : Int) μ) ∧ ((z121 = z8) → Q (1 : Int) μ)) ∧ (¬ z17 = 10 → (z17 = 11 → ∀ b128 : Nat, μ 21 2 = (b128 : Int) → mAt w b128 200 → ∀ z131 : Int, μ b128 7 = z131 → (0 ≤ z131 ∧ z131 ≤ 20) → ∀ z134 : Int, ((z131 < z11 → z134 = -1) ∧ (z131 = z11 → z134 = 0) ∧ (z11 < z131 → z134 = 1)) → ((¬ (z134 + 1) = z8) → Q (0 : Int) μ) ∧ (((z134 + 1) = z8) → Q (1 : Int) μ)) ∧ (¬ z17 = 11 → (z17 = 12 → ∀ b141 : Nat, μ 21 2 = (b141 : Int) → mAt w b141 200 → ∀ z144 : Int, μ b141 4 = z144 → ((-2147483648) ≤ z144 ∧ z144 ≤ 2147483647) → ∀ z147 : Int, ((z144 < z11 → z147 = -1) ∧ (z144 = z11 → z147 = 0) ∧ (z11 < z144 → z147 = 1)) → ((¬ (z147 + 1) = z8) → Q (0 : Int) μ) ∧ (((z147 + 1) = z8) → Q (1 : Int) μ)) ∧ (¬ z17 = 12 → (z17 = 13 → ∀ b154 : Nat, μ 21 2 = (b154 : Int) → mAt w b154 200 → ∀ z157 : Int, μ b154 6 = z157 → ((-2147483648) ≤ z157 ∧ z157 ≤ 2147483647) → ∀ z160 : Int, ((z157 < z11 → z160 = -1) ∧ (z157 = z11 → z160 = 0) ∧ (z11 < z157 → z160 = 1)) → ((¬ (z160 + 1) = z8) → Q (0 : Int) μ) ∧ (((z160 + 1) = z8) → Q (1 : Int) μ)) ∧ (¬ z17 = 13 → (z17 = 14 → ∀ b167 : Nat, μ 21 2 = (b167 : Int) → mAt w b167 200 → ∀ z170 : Int, μ b167 5 = z170 → ((-2147483648) ≤ z170 ∧ z170 ≤ 2147483647) → ((¬ z170 = z8) → Q (0 : Int) μ) ∧ ((z170 = z8) → Q (1 : Int) μ)) ∧ (¬ z17 = 14 → (z17 = 15 → ∀ b176 : Nat, μ 21 2 = (b176 : Int) → mAt w b176 200 → ∀ z179 : Int, μ b176 7 = z179 → (0 ≤ z179 ∧ z179 ≤ 20) → ((z179 ≤ 0) → ∀ z211 : Int, μ 21 3 = z211 → ((-2147483648) ≤ z211 ∧ z211 ≤ 2147483647) → (WJ_X1_isSo_W_1 w μ Q z8 b176) z211) ∧ ((0 < z179) → ∀ z216 : Int, μ (b176 + 1) ((z179 - 1).toNat) = z216 → ((-2147483648) ≤ z216 ∧ z216 ≤ 2147483647) → (WJ_X1_isSo_W_1 w μ Q z8 b176) z216)) ∧ (¬ z17 = 15 → Q (0 : Int) μ))))))))))))
theorem vc_X1_isSo_W_1 {n_4 p2 : Int} (h0 : p2 + 4 < n_4) (h1 : 0 ≤ n_4 ∧ n_4 ≤ 2000) (h2 : 0 ≤ p2 ∧ p2 ≤ 2000) : 0 ≤ (p2 + 2) ∧ (p2 + 2) < n_4 := by omega
theorem vc_X1_isSo_W_2 {n_4 p2 : Int} (h0 : p2 + 4 < n_4) (h1 : 0 ≤ n_4 ∧ n_4 ≤ 2000) (h2 : 0 ≤ p2 ∧ p2 ≤ 2000) : 0 ≤ (p2 + 3) ∧ (p2 + 3) < n_4 := by omega
theorem vc_X1_isSo_W_3 {n_4 p2 : Int} (h0 : p2 + 4 < n_4) (h1 : 0 ≤ n_4 ∧ n_4 ≤ 2000) (h2 : 0 ≤ p2 ∧ p2 ≤ 2000) : 0 ≤ (p2 + 4) ∧ (p2 + 4) < n_4 := by omega
theorem vc_X1_isSo_W_4 {n_4 p2 : Int} (h0 : p2 + 4 < n_4) (h1 : 0 ≤ n_4 ∧ n_4 ≤ 2000) (h2 : 0 ≤ p2 ∧ p2 ≤ 2000) : 0 ≤ p2 ∧ p2 < n_4 := by omega
theorem vc_X1_isSo_W_6 {z11 z29 : Int} (h0 : z29 < z11) (h1 : (-2147483648) ≤ z11 ∧ z11 ≤ 2147483647) (h2 : 0 ≤ z29 ∧ z29 ≤ 32) : 1 ≤ z11 ∧ z11 ≤ 2147483647 := by omega
theorem vc_X1_isSo_W_7 {z11 z29 : Int} (h0 : z11 ≤ z29) (h1 : (-2147483648) ≤ z11 ∧ z11 ≤ 2147483647) (h2 : 0 ≤ z29 ∧ z29 ≤ 32) : (-2147483648) ≤ z11 ∧ z11 ≤ 32 := by omega
theorem vc_X1_isSo_W_8 {z11 z14 z29 : Int} (h0 : z14 < z29) (h1 : z11 ≤ z29) (h2 : (-2147483648) ≤ z11 ∧ z11 ≤ 32) (h3 : (-2147483648) ≤ z14 ∧ z14 ≤ 2147483647) (h4 : 0 ≤ z29 ∧ z29 ≤ 32) : (-2147483648) ≤ z14 ∧ z14 ≤ 31 := by omega
theorem vc_X1_isSo_W_9 {z11 z14 z29 : Int} (h0 : z29 ≤ z14) (h1 : z11 ≤ z29) (h2 : (-2147483648) ≤ z11 ∧ z11 ≤ 32) (h3 : (-2147483648) ≤ z14 ∧ z14 ≤ 2147483647) (h4 : 0 ≤ z29 ∧ z29 ≤ 32) : 0 ≤ z14 ∧ z14 ≤ 2147483647 := by omega
theorem vc_X1_isSo_W_10 {z17 : Int} (h0 : z17 = 5) (h1 : ¬ z17 = 4) (h2 : (-2147483648) ≤ z17 ∧ z17 ≤ 2147483647) : 5 ≤ z17 ∧ z17 ≤ 5 := by omega
theorem vc_X1_isSo_W_11 {z17 : Int} (h0 : z17 = 6) (h1 : ¬ z17 = 4) (h2 : ¬ z17 = 5) (h3 : (-2147483648) ≤ z17 ∧ z17 ≤ 2147483647) : 6 ≤ z17 ∧ z17 ≤ 6 := by omega
theorem vc_X1_isSo_W_13 {z17 : Int} (h0 : z17 = 7) (h1 : ¬ z17 = 4) (h2 : ¬ z17 = 5) (h3 : ¬ z17 = 6) (h4 : (-2147483648) ≤ z17 ∧ z17 ≤ 2147483647) : 7 ≤ z17 ∧ z17 ≤ 7 := by omega
theorem vc_X1_isSo_W_14 {z17 : Int} (h0 : z17 = 8) (h1 : ¬ z17 = 4) (h2 : ¬ z17 = 5) (h3 : ¬ z17 = 6) (h4 : ¬ z17 = 7) (h5 : (-2147483648) ≤ z17 ∧ z17 ≤ 2147483647) : 8 ≤ z17 ∧ z17 ≤ 8 := by omega
theorem vc_X1_isSo_W_15 {z17 : Int} (h0 : z17 = 9) (h1 : ¬ z17 = 4) (h2 : ¬ z17 = 5) (h3 : ¬ z17 = 6) (h4 : ¬ z17 = 7) (h5 : ¬ z17 = 8) (h6 : (-2147483648) ≤ z17 ∧ z17 ≤ 2147483647) : 9 ≤ z17 ∧ z17 ≤ 9 := by omega
theorem vc_X1_isSo_W_16 {z17 : Int} (h0 : z17 = 10) (h1 : ¬ z17 = 4) (h2 : ¬ z17 = 5) (h3 : ¬ z17 = 6) (h4 : ¬ z17 = 7) (h5 : ¬ z17 = 8) (h6 : ¬ z17 = 9) (h7 : (-2147483648) ≤ z17 ∧ z17 ≤ 2147483647) : 10 ≤ z17 ∧ z17 ≤ 10 := by omega
theorem vc_X1_isSo_W_18 {z11 z131 z134 z8 : Int} (h0 : (z134 + 1) = z8) (h1 : (z131 < z11 → z134 = -1)) (h2 : (z131 = z11 → z134 = 0)) (h3 : (z11 < z131 → z134 = 1)) (h4 : (-2147483648) ≤ z11 ∧ z11 ≤ 2147483647) (h5 : 0 ≤ z131 ∧ z131 ≤ 20) (h6 : (-1) ≤ z134 ∧ z134 ≤ 1) (h7 : (-2147483648) ≤ z8 ∧ z8 ≤ 2147483647) : 0 ≤ z8 ∧ z8 ≤ 2 := by omega
theorem vc_X1_isSo_W_19 {z17 : Int} (h0 : z17 = 12) (h1 : ¬ z17 = 5) (h2 : ¬ z17 = 6) (h3 : ¬ z17 = 7) (h4 : ¬ z17 = 8) (h5 : ¬ z17 = 9) (h6 : ¬ z17 = 10) (h7 : ¬ z17 = 11) (h8 : (-2147483648) ≤ z17 ∧ z17 ≤ 2147483647) : 12 ≤ z17 ∧ z17 ≤ 12 := by omega
theorem vc_X1_isSo_W_20 {z11 z144 z147 z8 : Int} (h0 : (z147 + 1) = z8) (h1 : (z144 < z11 → z147 = -1)) (h2 : (z144 = z11 → z147 = 0)) (h3 : (z11 < z144 → z147 = 1)) (h4 : (-2147483648) ≤ z11 ∧ z11 ≤ 2147483647) (h5 : (-2147483648) ≤ z144 ∧ z144 ≤ 2147483647) (h6 : (-1) ≤ z147 ∧ z147 ≤ 1) (h7 : (-2147483648) ≤ z8 ∧ z8 ≤ 2147483647) : 0 ≤ z8 ∧ z8 ≤ 2 := by omega
theorem vc_X1_isSo_W_21 {z17 : Int} (h0 : z17 = 13) (h1 : ¬ z17 = 6) (h2 : ¬ z17 = 7) (h3 : ¬ z17 = 8) (h4 : ¬ z17 = 9) (h5 : ¬ z17 = 10) (h6 : ¬ z17 = 11) (h7 : ¬ z17 = 12) (h8 : (-2147483648) ≤ z17 ∧ z17 ≤ 2147483647) : 13 ≤ z17 ∧ z17 ≤ 13 := by omega
theorem vc_X1_isSo_W_23 {z17 : Int} (h0 : z17 = 14) (h1 : ¬ z17 = 7) (h2 : ¬ z17 = 8) (h3 : ¬ z17 = 9) (h4 : ¬ z17 = 10) (h5 : ¬ z17 = 11) (h6 : ¬ z17 = 12) (h7 : ¬ z17 = 13) (h8 : (-2147483648) ≤ z17 ∧ z17 ≤ 2147483647) : 14 ≤ z17 ∧ z17 ≤ 14 := by omega
theorem vc_X1_isSo_W_24 {z17 : Int} (h0 : z17 = 15) (h1 : ¬ z17 = 8) (h2 : ¬ z17 = 9) (h3 : ¬ z17 = 10) (h4 : ¬ z17 = 11) (h5 : ¬ z17 = 12) (h6 : ¬ z17 = 13) (h7 : ¬ z17 = 14) (h8 : (-2147483648) ≤ z17 ∧ z17 ≤ 2147483647) : 15 ≤ z17 ∧ z17 ≤ 15 := by omega
theorem vc_X1_isSo_W_25 {z205 z8 : Int} (h0 : z205 = z8) (h1 : 0 ≤ z205 ∧ z205 ≤ 2) (h2 : (-2147483648) ≤ z8 ∧ z8 ≤ 2147483647) : 0 ≤ z8 ∧ z8 ≤ 2 := by omega
theorem vc_X1_isSo_W_28 {z17 : Int} (h0 : ¬ z17 = 4) (h1 : ¬ z17 = 5) (h2 : ¬ z17 = 6) (h3 : ¬ z17 = 7) (h4 : ¬ z17 = 8) (h5 : ¬ z17 = 9) (h6 : ¬ z17 = 10) (h7 : ¬ z17 = 11) (h8 : ¬ z17 = 12) (h9 : ¬ z17 = 13) (h10 : ¬ z17 = 14) (h11 : ¬ z17 = 15) (h12 : (-2147483648) ≤ z17 ∧ z17 ≤ 2147483647) : z17 < 4 ∨ 15 < z17 := by omega
set_option maxRecDepth 4000 in
set_option maxHeartbeats 4000000 in
theorem c_X1_isSo_W {l : Launch} {D : va_G} {c : Nat → ClassId} {H0 : Heap} {sa : Nat × Nat × (Nat → Int32)} {w : mW} {μ : mM} (hw : mWF w) (hT : mT w μ) {a1 : Nat} (hA1 : mAt w a1 230) {p2 : Int} (hp2 : 0 ≤ p2 ∧ p2 ≤ 2000) (hIRT : RT μ) (hln : p2 + 4 < (w.2.2.1 (μ a1 1).toNat : Int)) (he1 : w.2.2.1 (μ a1 2).toNat = w.2.2.1 (μ a1 3).toNat) (he2 : w.2.2.1 (μ a1 4).toNat = w.2.2.1 (μ a1 5).toNat) {Q : Int → mM → Prop} (hQ : WP_X1_isSo_W w μ a1 p2 Q) : sC (gG l D c H0 sa) mX1_isSo 2 0 0 [.ref 21, .ref a1, iv p2] (mk w μ) (qP w μ (fun z => (0 ≤ z ∧ z ≤ 1) ∧ Q z μ ∧ True)) := by
  refine sC.of rfl (by decide) (le_t rfl) ?_
  refine mr_lvE (lv' := [(0, .ref 21), (1, .ref a1), (2, iv p2)]) rfl ?_
  refine sv_aload_n (pc := 0) dX1_isSo_0 rfl rfl ?_
  refine gf_X5_1 (pc := 1) dX1_isSo_1 wF_X1_60 hA1 hT fun b1 q2 A3 => ?_
  obtain ⟨n_4, q5⟩ : ∃ n : Int, (w.2.2.1 b1 : Int) = n := ⟨_, rfl⟩
  have h6 : 0 ≤ n_4 ∧ n_4 ≤ 2000 := lnR (m := 2000) q5 A3 rfl
  have h7 : p2 + 4 < n_4 := lnLt q5 (lnE q2 hln)
  refine mr_iload_n (pc := 4) (z := p2) dX1_isSo_4 rfl rfl ?_
  refine mr_iconst (pc := 5) (z := 2) dX1_isSo_5 ?_
  refine mr_iadd (pc := 6) (x := p2) (y := 2) dX1_isSo_6 ?_
  refine la_231 (pc := 7) dX1_isSo_7 A3 hT (lnC q5 (vc_X1_isSo_W_1 h7 h6 hp2)) fun z8 q9 h10 => ?_
  refine mr_istore_n (pc := 8) (lv' := [(3, iv z8), (0, .ref 21), (1, .ref a1), (2, iv p2)]) dX1_isSo_8 rfl (by decide) rfl ?_
  refine sv_aload_n (pc := 9) dX1_isSo_9 rfl rfl ?_
  refine gk_X5_1 (pc := 10) dX1_isSo_10 wF_X1_60 hA1 q2 ?_
  refine mr_iload_n (pc := 13) (z := p2) dX1_isSo_13 rfl rfl ?_
  refine mr_iconst (pc := 14) (z := 3) dX1_isSo_14 ?_
  refine mr_iadd (pc := 15) (x := p2) (y := 3) dX1_isSo_15 ?_
  refine la_231 (pc := 16) dX1_isSo_16 A3 hT (lnC q5 (vc_X1_isSo_W_2 h7 h6 hp2)) fun z11 q12 h13 => ?_
  refine mr_istore (pc := 17) (lv' := [(4, iv z11), (3, iv z8), (0, .ref 21), (1, .ref a1), (2, iv p2)]) dX1_isSo_17 (by decide) rfl ?_
  refine sv_aload_n (pc := 19) dX1_isSo_19 rfl rfl ?_
  refine gk_X5_1 (pc := 20) dX1_isSo_20 wF_X1_60 hA1 q2 ?_
  refine mr_iload_n (pc := 23) (z := p2) dX1_isSo_23 rfl rfl ?_
  refine mr_iconst (pc := 24) (z := 4) dX1_isSo_24 ?_
  refine mr_iadd (pc := 25) (x := p2) (y := 4) dX1_isSo_25 ?_
  refine la_231 (pc := 26) dX1_isSo_26 A3 hT (lnC q5 (vc_X1_isSo_W_3 h7 h6 hp2)) fun z14 q15 h16 => ?_
  refine mr_istore (pc := 27) (lv' := [(5, iv z14), (4, iv z11), (3, iv z8), (0, .ref 21), (1, .ref a1), (2, iv p2)]) dX1_isSo_27 (by decide) rfl ?_
  refine sv_aload_n (pc := 29) dX1_isSo_29 rfl rfl ?_
  refine gk_X5_1 (pc := 30) dX1_isSo_30 wF_X1_60 hA1 q2 ?_
  refine mr_iload_n (pc := 33) (z := p2) dX1_isSo_33 rfl rfl ?_
  refine la_231 (pc := 34) dX1_isSo_34 A3 hT (lnC q5 (vc_X1_isSo_W_4 h7 h6 hp2)) fun z17 q18 h19 => ?_
  have W21 := ((((((hQ b1 q2 A3) n_4 q5 h6) z8 q9 h10) z11 q12 h13) z14 q15 h16) z17 q18 h19)
  by_cases h20 : z17 = 4
  · refine mr_tableIn (pc := 35) (v := 4) (tgt := 96) dX1_isSo_35 h20 rfl rfl (by decide) ?_
    have h22 : 4 ≤ z17 ∧ z17 ≤ 4 := (vc_X12_isSo_25 h20 h19)
    refine sv_aload_n (pc := 96) dX1_isSo_96 rfl rfl ?_
    refine gf_X1_0 (pc := 97) dX1_isSo_97 wF_X1_9 (A_21 hw) hT ?_
    refine gf_X10_1 (pc := 100) dX1_isSo_100 wF_X1_72 (A_6 hw) hT ?_
    refine sv_aload_n (pc := 103) dX1_isSo_103 rfl rfl ?_
    refine gf_X1_2 (pc := 104) dX1_isSo_104 wF_X1_25 (A_21 hw) hT hIRT fun b23 q24 A25 => ?_
    refine gf_X7_3 (pc := 107) dX1_isSo_107 wF_X1_77 A25 hT fun z26 q27 h28 => ?_
    refine la_8 (pc := 110) dX1_isSo_110 (A_8 hw) hT (rIx (n := 10) h28 rfl) fun z29 q30 h31 => ?_
    refine mr_istore (pc := 111) (lv' := [(6, iv z29), (5, iv z14), (4, iv z11), (3, iv z8), (0, .ref 21), (1, .ref a1), (2, iv p2)]) dX1_isSo_111 (by decide) rfl ?_
    refine mr_iload (pc := 113) (z := z29) dX1_isSo_113 rfl ?_
    refine mr_iload (pc := 115) (z := z11) dX1_isSo_115 rfl ?_
    refine mr_icmp_lt (pc := 117) (tgt := 156) dX1_isSo_117 (by decide) (r32 h31 rfl) h13 (fun h47 => ?_) (fun h47 => ?_)
    · have h48 : 1 ≤ z11 ∧ z11 ≤ 2147483647 := (vc_X1_isSo_W_6 h47 h13 h31)
      refine mr_iconst (pc := 156) (z := 0) dX1_isSo_156 ?_
      exact mr_zretP dX1_isSo_157 rfl (rW (c := 0) (d := 1) (rR (x := 0)) rfl) (le_t rfl) (le_t rfl) ⟨(rW (c := 0) (d := 1) (rR (x := 0)) rfl), (((((W21.1 h20) b23 q24 A25) z26 q27 h28) z29 q30 h31).1 h47), trivial⟩
    have h49 : (-2147483648) ≤ z11 ∧ z11 ≤ 32 := (vc_X1_isSo_W_7 h47 h13 h31)
    refine mr_iload (pc := 120) (z := z29) dX1_isSo_120 rfl ?_
    refine mr_iload (pc := 122) (z := z14) dX1_isSo_122 rfl ?_
    refine mr_icmp_gt (pc := 124) (tgt := 156) dX1_isSo_124 (by decide) (r32 h31 rfl) h16 (fun h63 => ?_) (fun h63 => ?_)
    · have h64 : (-2147483648) ≤ z14 ∧ z14 ≤ 31 := (vc_X1_isSo_W_8 h63 h47 h49 h16 h31)
      refine mr_iconst (pc := 156) (z := 0) dX1_isSo_156 ?_
      exact mr_zretP dX1_isSo_157 rfl (rW (c := 0) (d := 1) (rR (x := 0)) rfl) (le_t rfl) (le_t rfl) ⟨(rW (c := 0) (d := 1) (rR (x := 0)) rfl), ((((((W21.1 h20) b23 q24 A25) z26 q27 h28) z29 q30 h31).2 h47).1 h63), trivial⟩
    have h65 : 0 ≤ z14 ∧ z14 ≤ 2147483647 := (vc_X1_isSo_W_9 h63 h47 h49 h16 h31)
    refine sv_aload_n (pc := 127) dX1_isSo_127 rfl rfl ?_
    refine gf_X1_0 (pc := 128) dX1_isSo_128 wF_X1_9 (A_21 hw) hT ?_
    refine gf_X10_0 (pc := 131) dX1_isSo_131 wF_X1_82 (A_6 hw) hT ?_
    refine sv_aload_n (pc := 134) dX1_isSo_134 rfl rfl ?_
    refine gk_X1_2 (pc := 135) dX1_isSo_135 wF_X1_25 (A_21 hw) q24 ?_
    refine gk_X7_3 (pc := 138) dX1_isSo_138 wF_X1_77 A25 q27 ?_
    refine la_7 (pc := 141) dX1_isSo_141 (A_7 hw) hT (rIx (n := 10) h28 rfl) fun z66 q67 h68 => ?_
    refine mr_iload (pc := 142) (z := z11) dX1_isSo_142 rfl ?_
    refine mr_cSP (pc := 144) (c_X10_maskOf_W hw hT (rW (c := (-2147483648)) (d := 2147483647) h49 rfl) (((((((W21.1 h20) b23 q24 A25) z26 q27 h28) z29 q30 h31).2 h47).2 h63) z66 q67 h68)) (gOk _ _ _ _ _) dX1_isSo_144 (tX10_maskOf _ _ _ _ _) wS_X10_maskOf wM_X1_85 ⟨le_t rfl, le_t rfl⟩ ⟨le_t rfl, le_t rfl⟩ rfl (le_t rfl) fun z73 h72 => ?_
    refine mr_iand (pc := 147) (x := z66) (y := z73) dX1_isSo_147 ?_
    refine mr_gen (P := fun z => (-2147483648) ≤ z ∧ z ≤ 2147483647) (r32i _) fun z74 q75 h76 => ?_
    refine mr_iload_n (pc := 148) (z := z8) dX1_isSo_148 rfl rfl ?_
    refine mr_icmp_ne (pc := 149) (tgt := 156) dX1_isSo_149 (by decide) h76 h10 (fun h77 => ?_) (fun h77 => ?_)
    · refine mr_iconst (pc := 156) (z := 0) dX1_isSo_156 ?_
      exact mr_zretP dX1_isSo_157 rfl (rW (c := 0) (d := 1) (rR (x := 0)) rfl) (le_t rfl) (le_t rfl) ⟨(rW (c := 0) (d := 1) (rR (x := 0)) rfl), (((h72.2.1 h72.1) z74 q75).1 h77), trivial⟩
    refine mr_iconst (pc := 152) (z := 1) dX1_isSo_152 ?_
    refine sv_goto (pc := 153) (tgt := 157) dX1_isSo_153 (by decide) ?_
    exact mr_zretP dX1_isSo_157 rfl (rW (c := 0) (d := 1) (rR (x := 1)) rfl) (le_t rfl) (le_t rfl) ⟨(rW (c := 0) (d := 1) (rR (x := 1)) rfl), (((h72.2.1 h72.1) z74 q75).2 h77), trivial⟩
  by_cases h78 : z17 = 5
  · refine mr_tableIn (pc := 35) (v := 5) (tgt := 381) dX1_isSo_35 h78 rfl rfl (by decide) ?_
    have h79 : 5 ≤ z17 ∧ z17 ≤ 5 := (vc_X1_isSo_W_10 h78 h20 h19)
    refine mr_iconst (pc := 381) (z := 0) dX1_isSo_381 ?_
    exact mr_zretP dX1_isSo_382 rfl (rW (c := 0) (d := 1) (rR (x := 0)) rfl) (le_t rfl) (le_t rfl) ⟨(rW (c := 0) (d := 1) (rR (x := 0)) rfl), ((W21.2 h20).1 h78), trivial⟩
  by_cases h80 : z17 = 6
  · refine mr_tableIn (pc := 35) (v := 6) (tgt := 158) dX1_isSo_35 h80 rfl rfl (by decide) ?_
    have h81 : 6 ≤ z17 ∧ z17 ≤ 6 := (vc_X1_isSo_W_11 h80 h20 h78 h19)
    refine sv_aload_n (pc := 158) dX1_isSo_158 rfl rfl ?_
    refine mr_iload_n (pc := 159) (z := z8) dX1_isSo_159 rfl rfl ?_
    refine mr_iload (pc := 160) (z := z11) dX1_isSo_160 rfl ?_
    refine mr_iconst (pc := 162) (z := 1) dX1_isSo_162 ?_
    refine mr_icmp_ne (pc := 163) (tgt := 170) dX1_isSo_163 (by decide) h13 (r32 (rR (x := 1)) rfl) (fun h83 => ?_) (fun h83 => ?_)
    · refine mr_iconst (pc := 170) (z := 0) dX1_isSo_170 ?_
      refine sv_aload_n (pc := 171) dX1_isSo_171 rfl rfl ?_
      refine gf_X1_2 (pc := 172) dX1_isSo_172 wF_X1_25 (A_21 hw) hT hIRT fun b84 q85 A86 => ?_
      refine mr_cVP (pc := 175) (c_X5_tells_W hw hT hA1 h10 (rW (c := 0) (d := 1) (rR (x := 0)) rfl) A86 he1 he2 (((((W21.2 h20).2 h78).1 h80).1 h83) b84 q85 A86)) (gOk _ _ _ _ _) dX1_isSo_175 (tX5_tells _ _ _ _ _) ⟨wV_X5_tells, wL_X5_tells⟩ wM_X1_88 (gCX5 _ _ _ _ _) rfl hA1 rfl ⟨le_t rfl, le_t rfl⟩ ⟨le_t rfl, le_t rfl⟩ rfl (le_t rfl) fun z91 h90 => ?_
      exact mr_zretP dX1_isSo_178 rfl h90.1 (le_t rfl) (le_t rfl) ⟨h90.1, (h90.2.1 h90.1), trivial⟩
    have h92 : 1 ≤ z11 ∧ z11 ≤ 1 := (vc_X3_toldInAll_1 h83 h13)
    refine mr_iconst (pc := 166) (z := 1) dX1_isSo_166 ?_
    refine sv_goto (pc := 167) (tgt := 171) dX1_isSo_167 (by decide) ?_
    refine sv_aload_n (pc := 171) dX1_isSo_171 rfl rfl ?_
    refine gf_X1_2 (pc := 172) dX1_isSo_172 wF_X1_25 (A_21 hw) hT hIRT fun b93 q94 A95 => ?_
    refine mr_cVP (pc := 175) (c_X5_tells_W hw hT hA1 h10 (rW (c := 0) (d := 1) (rR (x := 1)) rfl) A95 he1 he2 (((((W21.2 h20).2 h78).1 h80).2 h83) b93 q94 A95)) (gOk _ _ _ _ _) dX1_isSo_175 (tX5_tells _ _ _ _ _) ⟨wV_X5_tells, wL_X5_tells⟩ wM_X1_88 (gCX5 _ _ _ _ _) rfl hA1 rfl ⟨le_t rfl, le_t rfl⟩ ⟨le_t rfl, le_t rfl⟩ rfl (le_t rfl) fun z100 h99 => ?_
    exact mr_zretP dX1_isSo_178 rfl h99.1 (le_t rfl) (le_t rfl) ⟨h99.1, (h99.2.1 h99.1), trivial⟩
  by_cases h101 : z17 = 7
  · refine mr_tableIn (pc := 35) (v := 7) (tgt := 381) dX1_isSo_35 h101 rfl rfl (by decide) ?_
    have h102 : 7 ≤ z17 ∧ z17 ≤ 7 := (vc_X1_isSo_W_13 h101 h20 h78 h80 h19)
    refine mr_iconst (pc := 381) (z := 0) dX1_isSo_381 ?_
    exact mr_zretP dX1_isSo_382 rfl (rW (c := 0) (d := 1) (rR (x := 0)) rfl) (le_t rfl) (le_t rfl) ⟨(rW (c := 0) (d := 1) (rR (x := 0)) rfl), ((((W21.2 h20).2 h78).2 h80).1 h101), trivial⟩
  by_cases h103 : z17 = 8
  · refine mr_tableIn (pc := 35) (v := 8) (tgt := 179) dX1_isSo_35 h103 rfl rfl (by decide) ?_
    have h104 : 8 ≤ z17 ∧ z17 ≤ 8 := (vc_X1_isSo_W_14 h103 h20 h78 h80 h101 h19)
    refine sv_aload_n (pc := 179) dX1_isSo_179 rfl rfl ?_
    refine gf_X1_2 (pc := 180) dX1_isSo_180 wF_X1_25 (A_21 hw) hT hIRT fun b105 q106 A107 => ?_
    refine mr_iload_n (pc := 183) (z := z8) dX1_isSo_183 rfl rfl ?_
    refine mr_cVP (pc := 184) (c_X7_hasMark_W hw hT A107 h10 ((((((W21.2 h20).2 h78).2 h80).2 h101).1 h103) b105 q106 A107)) (gOk _ _ _ _ _) dX1_isSo_184 (tX7_hasMark _ _ _ _ _) ⟨wV_X7_hasMark, wL_X7_hasMark⟩ wM_X1_92 (gCX7 _ _ _ _ _) rfl A107 rfl ⟨le_t rfl, le_t rfl⟩ ⟨le_t rfl, le_t rfl⟩ rfl (le_t rfl) fun z112 h111 => ?_
    exact mr_zretP dX1_isSo_187 rfl h111.1 (le_t rfl) (le_t rfl) ⟨h111.1, (h111.2.1 h111.1), trivial⟩
  by_cases h113 : z17 = 9
  · refine mr_tableIn (pc := 35) (v := 9) (tgt := 188) dX1_isSo_35 h113 rfl rfl (by decide) ?_
    have h114 : 9 ≤ z17 ∧ z17 ≤ 9 := (vc_X1_isSo_W_15 h113 h20 h78 h80 h101 h103 h19)
    refine sv_aload_n (pc := 188) dX1_isSo_188 rfl rfl ?_
    refine gf_X1_4 (pc := 189) dX1_isSo_189 wF_X1_38 (A_21 hw) hT fun z115 q116 h117 => ?_
    refine mr_iload_n (pc := 192) (z := z8) dX1_isSo_192 rfl rfl ?_
    refine mr_icmp_ne (pc := 193) (tgt := 200) dX1_isSo_193 (by decide) h117 h10 (fun h118 => ?_) (fun h118 => ?_)
    · refine mr_iconst (pc := 200) (z := 0) dX1_isSo_200 ?_
      exact mr_zretP dX1_isSo_201 rfl (rW (c := 0) (d := 1) (rR (x := 0)) rfl) (le_t rfl) (le_t rfl) ⟨(rW (c := 0) (d := 1) (rR (x := 0)) rfl), ((((((((W21.2 h20).2 h78).2 h80).2 h101).2 h103).1 h113) z115 q116 h117).1 h118), trivial⟩
    refine mr_iconst (pc := 196) (z := 1) dX1_isSo_196 ?_
    refine sv_goto (pc := 197) (tgt := 201) dX1_isSo_197 (by decide) ?_
    exact mr_zretP dX1_isSo_201 rfl (rW (c := 0) (d := 1) (rR (x := 1)) rfl) (le_t rfl) (le_t rfl) ⟨(rW (c := 0) (d := 1) (rR (x := 1)) rfl), ((((((((W21.2 h20).2 h78).2 h80).2 h101).2 h103).1 h113) z115 q116 h117).2 h118), trivial⟩
  by_cases h119 : z17 = 10
  · refine mr_tableIn (pc := 35) (v := 10) (tgt := 202) dX1_isSo_35 h119 rfl rfl (by decide) ?_
    have h120 : 10 ≤ z17 ∧ z17 ≤ 10 := (vc_X1_isSo_W_16 h119 h20 h78 h80 h101 h103 h113 h19)
    refine sv_aload_n (pc := 202) dX1_isSo_202 rfl rfl ?_
    refine gf_X1_5 (pc := 203) dX1_isSo_203 wF_X1_44 (A_21 hw) hT fun z121 q122 h123 => ?_
    refine mr_iload_n (pc := 206) (z := z8) dX1_isSo_206 rfl rfl ?_
    refine mr_icmp_ne (pc := 207) (tgt := 214) dX1_isSo_207 (by decide) h123 h10 (fun h124 => ?_) (fun h124 => ?_)
    · refine mr_iconst (pc := 214) (z := 0) dX1_isSo_214 ?_
      exact mr_zretP dX1_isSo_215 rfl (rW (c := 0) (d := 1) (rR (x := 0)) rfl) (le_t rfl) (le_t rfl) ⟨(rW (c := 0) (d := 1) (rR (x := 0)) rfl), (((((((((W21.2 h20).2 h78).2 h80).2 h101).2 h103).2 h113).1 h119) z121 q122 h123).1 h124), trivial⟩
    refine mr_iconst (pc := 210) (z := 1) dX1_isSo_210 ?_
    refine sv_goto (pc := 211) (tgt := 215) dX1_isSo_211 (by decide) ?_
    exact mr_zretP dX1_isSo_215 rfl (rW (c := 0) (d := 1) (rR (x := 1)) rfl) (le_t rfl) (le_t rfl) ⟨(rW (c := 0) (d := 1) (rR (x := 1)) rfl), (((((((((W21.2 h20).2 h78).2 h80).2 h101).2 h103).2 h113).1 h119) z121 q122 h123).2 h124), trivial⟩
  have W126 := (((((((W21.2 h20).2 h78).2 h80).2 h101).2 h103).2 h113).2 h119)
  by_cases h125 : z17 = 11
  · refine mr_tableIn (pc := 35) (v := 11) (tgt := 216) dX1_isSo_35 h125 rfl rfl (by decide) ?_
    have h127 : 11 ≤ z17 ∧ z17 ≤ 11 := (vc_X12_count_14 h125 h20 h78 h80 h101 h103 h113 h119 h19)
    refine sv_aload_n (pc := 216) dX1_isSo_216 rfl rfl ?_
    refine gf_X1_2 (pc := 217) dX1_isSo_217 wF_X1_25 (A_21 hw) hT hIRT fun b128 q129 A130 => ?_
    refine gf_X7_7 (pc := 220) dX1_isSo_220 wF_X1_96 A130 hT fun z131 q132 h133 => ?_
    refine mr_iload (pc := 223) (z := z11) dX1_isSo_223 rfl ?_
    refine mr_cSP (pc := 225) (c_J_cmp (r32 h133 rfl) h13) (gOk _ _ _ _ _) dX1_isSo_225 (tJ_cmp _ _ _ _ _) wS_J_cmp wM_X1_99 ⟨le_t rfl, le_t rfl⟩ ⟨le_t rfl, le_t rfl⟩ rfl (le_t rfl) fun z134 h135 => ?_
    refine mr_iconst (pc := 228) (z := 1) dX1_isSo_228 ?_
    refine mr_iadd (pc := 229) (x := z134) (y := 1) dX1_isSo_229 ?_
    refine mr_iload_n (pc := 230) (z := z8) dX1_isSo_230 rfl rfl ?_
    refine mr_icmp_ne (pc := 231) (tgt := 238) dX1_isSo_231 (by decide) (r32 (rAdd (e := 0) (f := 2) h135.1 (rR (x := 1)) rfl) rfl) h10 (fun h137 => ?_) (fun h137 => ?_)
    · refine mr_iconst (pc := 238) (z := 0) dX1_isSo_238 ?_
      exact mr_zretP dX1_isSo_239 rfl (rW (c := 0) (d := 1) (rR (x := 0)) rfl) (le_t rfl) (le_t rfl) ⟨(rW (c := 0) (d := 1) (rR (x := 0)) rfl), (((((W126.1 h125) b128 q129 A130) z131 q132 h133) z134 h135.2).1 h137), trivial⟩
    have h138 : 0 ≤ z8 ∧ z8 ≤ 2 := (vc_X1_isSo_W_18 h137 h135.2.1 h135.2.2.1 h135.2.2.2 h13 h133 h135.1 h10)
    refine mr_iconst (pc := 234) (z := 1) dX1_isSo_234 ?_
    refine sv_goto (pc := 235) (tgt := 239) dX1_isSo_235 (by decide) ?_
    exact mr_zretP dX1_isSo_239 rfl (rW (c := 0) (d := 1) (rR (x := 1)) rfl) (le_t rfl) (le_t rfl) ⟨(rW (c := 0) (d := 1) (rR (x := 1)) rfl), (((((W126.1 h125) b128 q129 A130) z131 q132 h133) z134 h135.2).2 h137), trivial⟩
  by_cases h139 : z17 = 12
  · refine mr_tableIn (pc := 35) (v := 12) (tgt := 240) dX1_isSo_35 h139 rfl rfl (by decide) ?_
    have h140 : 12 ≤ z17 ∧ z17 ≤ 12 := (vc_X1_isSo_W_19 h139 h78 h80 h101 h103 h113 h119 h125 h19)
    refine sv_aload_n (pc := 240) dX1_isSo_240 rfl rfl ?_
    refine gf_X1_2 (pc := 241) dX1_isSo_241 wF_X1_25 (A_21 hw) hT hIRT fun b141 q142 A143 => ?_
    refine gf_X7_4 (pc := 244) dX1_isSo_244 wF_X1_105 A143 hT fun z144 q145 h146 => ?_
    refine mr_iload (pc := 247) (z := z11) dX1_isSo_247 rfl ?_
    refine mr_cSP (pc := 249) (c_J_cmp h146 h13) (gOk _ _ _ _ _) dX1_isSo_249 (tJ_cmp _ _ _ _ _) wS_J_cmp wM_X1_99 ⟨le_t rfl, le_t rfl⟩ ⟨le_t rfl, le_t rfl⟩ rfl (le_t rfl) fun z147 h148 => ?_
    refine mr_iconst (pc := 252) (z := 1) dX1_isSo_252 ?_
    refine mr_iadd (pc := 253) (x := z147) (y := 1) dX1_isSo_253 ?_
    refine mr_iload_n (pc := 254) (z := z8) dX1_isSo_254 rfl rfl ?_
    refine mr_icmp_ne (pc := 255) (tgt := 262) dX1_isSo_255 (by decide) (r32 (rAdd (e := 0) (f := 2) h148.1 (rR (x := 1)) rfl) rfl) h10 (fun h150 => ?_) (fun h150 => ?_)
    · refine mr_iconst (pc := 262) (z := 0) dX1_isSo_262 ?_
      exact mr_zretP dX1_isSo_263 rfl (rW (c := 0) (d := 1) (rR (x := 0)) rfl) (le_t rfl) (le_t rfl) ⟨(rW (c := 0) (d := 1) (rR (x := 0)) rfl), ((((((W126.2 h125).1 h139) b141 q142 A143) z144 q145 h146) z147 h148.2).1 h150), trivial⟩
    have h151 : 0 ≤ z8 ∧ z8 ≤ 2 := (vc_X1_isSo_W_20 h150 h148.2.1 h148.2.2.1 h148.2.2.2 h13 h146 h148.1 h10)
    refine mr_iconst (pc := 258) (z := 1) dX1_isSo_258 ?_
    refine sv_goto (pc := 259) (tgt := 263) dX1_isSo_259 (by decide) ?_
    exact mr_zretP dX1_isSo_263 rfl (rW (c := 0) (d := 1) (rR (x := 1)) rfl) (le_t rfl) (le_t rfl) ⟨(rW (c := 0) (d := 1) (rR (x := 1)) rfl), ((((((W126.2 h125).1 h139) b141 q142 A143) z144 q145 h146) z147 h148.2).2 h150), trivial⟩
  by_cases h152 : z17 = 13
  · refine mr_tableIn (pc := 35) (v := 13) (tgt := 264) dX1_isSo_35 h152 rfl rfl (by decide) ?_
    have h153 : 13 ≤ z17 ∧ z17 ≤ 13 := (vc_X1_isSo_W_21 h152 h80 h101 h103 h113 h119 h125 h139 h19)
    refine sv_aload_n (pc := 264) dX1_isSo_264 rfl rfl ?_
    refine gf_X1_2 (pc := 265) dX1_isSo_265 wF_X1_25 (A_21 hw) hT hIRT fun b154 q155 A156 => ?_
    refine gf_X7_6 (pc := 268) dX1_isSo_268 wF_X1_108 A156 hT fun z157 q158 h159 => ?_
    refine mr_iload (pc := 271) (z := z11) dX1_isSo_271 rfl ?_
    refine mr_cSP (pc := 273) (c_J_cmp h159 h13) (gOk _ _ _ _ _) dX1_isSo_273 (tJ_cmp _ _ _ _ _) wS_J_cmp wM_X1_99 ⟨le_t rfl, le_t rfl⟩ ⟨le_t rfl, le_t rfl⟩ rfl (le_t rfl) fun z160 h161 => ?_
    refine mr_iconst (pc := 276) (z := 1) dX1_isSo_276 ?_
    refine mr_iadd (pc := 277) (x := z160) (y := 1) dX1_isSo_277 ?_
    refine mr_iload_n (pc := 278) (z := z8) dX1_isSo_278 rfl rfl ?_
    refine mr_icmp_ne (pc := 279) (tgt := 286) dX1_isSo_279 (by decide) (r32 (rAdd (e := 0) (f := 2) h161.1 (rR (x := 1)) rfl) rfl) h10 (fun h163 => ?_) (fun h163 => ?_)
    · refine mr_iconst (pc := 286) (z := 0) dX1_isSo_286 ?_
      exact mr_zretP dX1_isSo_287 rfl (rW (c := 0) (d := 1) (rR (x := 0)) rfl) (le_t rfl) (le_t rfl) ⟨(rW (c := 0) (d := 1) (rR (x := 0)) rfl), (((((((W126.2 h125).2 h139).1 h152) b154 q155 A156) z157 q158 h159) z160 h161.2).1 h163), trivial⟩
    have h164 : 0 ≤ z8 ∧ z8 ≤ 2 := (vc_X1_isSo_W_20 h163 h161.2.1 h161.2.2.1 h161.2.2.2 h13 h159 h161.1 h10)
    refine mr_iconst (pc := 282) (z := 1) dX1_isSo_282 ?_
    refine sv_goto (pc := 283) (tgt := 287) dX1_isSo_283 (by decide) ?_
    exact mr_zretP dX1_isSo_287 rfl (rW (c := 0) (d := 1) (rR (x := 1)) rfl) (le_t rfl) (le_t rfl) ⟨(rW (c := 0) (d := 1) (rR (x := 1)) rfl), (((((((W126.2 h125).2 h139).1 h152) b154 q155 A156) z157 q158 h159) z160 h161.2).2 h163), trivial⟩
  by_cases h165 : z17 = 14
  · refine mr_tableIn (pc := 35) (v := 14) (tgt := 288) dX1_isSo_35 h165 rfl rfl (by decide) ?_
    have h166 : 14 ≤ z17 ∧ z17 ≤ 14 := (vc_X1_isSo_W_23 h165 h101 h103 h113 h119 h125 h139 h152 h19)
    refine sv_aload_n (pc := 288) dX1_isSo_288 rfl rfl ?_
    refine gf_X1_2 (pc := 289) dX1_isSo_289 wF_X1_25 (A_21 hw) hT hIRT fun b167 q168 A169 => ?_
    refine gf_X7_5 (pc := 292) dX1_isSo_292 wF_X1_111 A169 hT fun z170 q171 h172 => ?_
    refine mr_iload_n (pc := 295) (z := z8) dX1_isSo_295 rfl rfl ?_
    refine mr_icmp_ne (pc := 296) (tgt := 303) dX1_isSo_296 (by decide) h172 h10 (fun h173 => ?_) (fun h173 => ?_)
    · refine mr_iconst (pc := 303) (z := 0) dX1_isSo_303 ?_
      exact mr_zretP dX1_isSo_304 rfl (rW (c := 0) (d := 1) (rR (x := 0)) rfl) (le_t rfl) (le_t rfl) ⟨(rW (c := 0) (d := 1) (rR (x := 0)) rfl), (((((((W126.2 h125).2 h139).2 h152).1 h165) b167 q168 A169) z170 q171 h172).1 h173), trivial⟩
    refine mr_iconst (pc := 299) (z := 1) dX1_isSo_299 ?_
    refine sv_goto (pc := 300) (tgt := 304) dX1_isSo_300 (by decide) ?_
    exact mr_zretP dX1_isSo_304 rfl (rW (c := 0) (d := 1) (rR (x := 1)) rfl) (le_t rfl) (le_t rfl) ⟨(rW (c := 0) (d := 1) (rR (x := 1)) rfl), (((((((W126.2 h125).2 h139).2 h152).1 h165) b167 q168 A169) z170 q171 h172).2 h173), trivial⟩
  by_cases h174 : z17 = 15
  · refine mr_tableIn (pc := 35) (v := 15) (tgt := 305) dX1_isSo_35 h174 rfl rfl (by decide) ?_
    have h175 : 15 ≤ z17 ∧ z17 ≤ 15 := (vc_X1_isSo_W_24 h174 h103 h113 h119 h125 h139 h152 h165 h19)
    refine sv_aload_n (pc := 305) dX1_isSo_305 rfl rfl ?_
    refine gf_X1_2 (pc := 306) dX1_isSo_306 wF_X1_25 (A_21 hw) hT hIRT fun b176 q177 A178 => ?_
    refine gf_X7_7 (pc := 309) dX1_isSo_309 wF_X1_96 A178 hT fun z179 q180 h181 => ?_
    have J193 : ∀ (z191 : Int), (((-2147483648) ≤ z191 ∧ z191 ≤ 2147483647)) → ((WJ_X1_isSo_W_1 w μ Q z8 b176) z191) → sV (gG l D c H0 sa) mX1_isSo (sRm 2 0 0) (sZ (gG l D c H0 sa) 0 0 (qP w μ (fun z => (0 ≤ z ∧ z ≤ 1) ∧ Q z μ ∧ True))) 339 [(0, .ref 21), (3, iv z8)] [iv z191] (mk w μ) 0 0 := by
      intro z191 h192 W194
      refine mr_istore (pc := 339) (lv' := [(7, iv z191), (0, .ref 21), (3, iv z8)]) dX1_isSo_339 (by decide) rfl ?_
      refine sv_aload_n (pc := 341) dX1_isSo_341 rfl rfl ?_
      refine gf_X1_0 (pc := 342) dX1_isSo_342 wF_X1_9 (A_21 hw) hT ?_
      refine sv_aload_n (pc := 345) dX1_isSo_345 rfl rfl ?_
      refine gk_X1_2 (pc := 346) dX1_isSo_346 wF_X1_25 (A_21 hw) q177 ?_
      refine gf_X7_3 (pc := 349) dX1_isSo_349 wF_X1_77 A178 hT fun z195 q196 h197 => ?_
      refine mr_iload (pc := 352) (z := z191) dX1_isSo_352 rfl ?_
      refine sv_aload_n (pc := 354) dX1_isSo_354 rfl rfl ?_
      refine gf_X1_0 (pc := 355) dX1_isSo_355 wF_X1_9 (A_21 hw) hT ?_
      refine gf_X10_18 (pc := 358) dX1_isSo_358 wF_X1_117 (A_6 hw) hT fun z198 q199 h200 => ?_
      refine sv_aload_n (pc := 361) dX1_isSo_361 rfl rfl ?_
      refine gf_X1_0 (pc := 362) dX1_isSo_362 wF_X1_9 (A_21 hw) hT ?_
      refine gk_X10_18 (pc := 365) dX1_isSo_365 wF_X1_117 (A_6 hw) q199 ?_
      refine mr_cVP (pc := 368) (c_X10_verdictOn_W hw hT h197 h192 (rW (c := (-2147483648)) (d := 2147483647) h200 rfl) (rW (c := (-2147483648)) (d := 2147483647) h200 rfl) (((W194 h192) z195 q196 h197) z198 q199 h200)) (gOk _ _ _ _ _) dX1_isSo_368 (tX10_verdictOn _ _ _ _ _) ⟨wV_X10_verdictOn, wL_X10_verdictOn⟩ wM_X1_120 (gCX10 _ _ _ _ _) rfl (A_6 hw) rfl ⟨le_t rfl, le_t rfl⟩ ⟨le_t rfl, le_t rfl⟩ rfl (le_t rfl) fun z205 h204 => ?_
      refine mr_iload_n (pc := 371) (z := z8) dX1_isSo_371 rfl rfl ?_
      refine mr_icmp_ne (pc := 372) (tgt := 379) dX1_isSo_372 (by decide) (r32 h204.1 rfl) h10 (fun h207 => ?_) (fun h207 => ?_)
      · refine mr_iconst (pc := 379) (z := 0) dX1_isSo_379 ?_
        exact mr_zretP dX1_isSo_380 rfl (rW (c := 0) (d := 1) (rR (x := 0)) rfl) (le_t rfl) (le_t rfl) ⟨(rW (c := 0) (d := 1) (rR (x := 0)) rfl), ((h204.2.1 h204.1).1 h207), trivial⟩
      have h208 : 0 ≤ z8 ∧ z8 ≤ 2 := (vc_X1_isSo_W_25 h207 h204.1 h10)
      refine mr_iconst (pc := 375) (z := 1) dX1_isSo_375 ?_
      refine sv_goto (pc := 376) (tgt := 380) dX1_isSo_376 (by decide) ?_
      exact mr_zretP dX1_isSo_380 rfl (rW (c := 0) (d := 1) (rR (x := 1)) rfl) (le_t rfl) (le_t rfl) ⟨(rW (c := 0) (d := 1) (rR (x := 1)) rfl), ((h204.2.1 h204.1).2 h207), trivial⟩
    refine mr_if_le (pc := 312) (tgt := 335) dX1_isSo_312 (by decide) (r32 h181 rfl) (fun h209 => ?_) (fun h209 => ?_)
    · have h210 : 0 ≤ z179 ∧ z179 ≤ 0 := (vc_X12_write_57 h209 h181)
      refine sv_aload_n (pc := 335) dX1_isSo_335 rfl rfl ?_
      refine gf_X1_3 (pc := 336) dX1_isSo_336 wF_X1_35 (A_21 hw) hT fun z211 q212 h213 => ?_
      refine mr_lvS (lv' := [(0, .ref 21), (3, iv z8)]) (List.forall_mem_cons.mpr ⟨rfl, List.forall_mem_cons.mpr ⟨rfl, fun _ h => absurd h List.not_mem_nil⟩⟩) ?_
      exact J193 z211 h213 (((((((((W126.2 h125).2 h139).2 h152).2 h165).1 h174) b176 q177 A178) z179 q180 h181).1 h209) z211 q212 h213)
    have h214 : 1 ≤ z179 ∧ z179 ≤ 20 := (vc_X12_write_59 h209 h181)
    refine sv_aload_n (pc := 315) dX1_isSo_315 rfl rfl ?_
    refine gk_X1_2 (pc := 316) dX1_isSo_316 wF_X1_25 (A_21 hw) q177 ?_
    refine gf_X7_0 (pc := 319) dX1_isSo_319 wF_X1_114 A178 hT fun A215 => ?_
    refine sv_aload_n (pc := 322) dX1_isSo_322 rfl rfl ?_
    refine gk_X1_2 (pc := 323) dX1_isSo_323 wF_X1_25 (A_21 hw) q177 ?_
    refine gk_X7_7 (pc := 326) dX1_isSo_326 wF_X1_96 A178 q180 ?_
    refine mr_iconst (pc := 329) (z := 1) dX1_isSo_329 ?_
    refine mr_isub (pc := 330) (x := z179) (y := 1) dX1_isSo_330 ?_
    refine la_201 (pc := 331) dX1_isSo_331 A215 hT (rIx (n := 20) (rSub (e := 0) (f := 19) h214 (rR (x := 1)) rfl) rfl) fun z216 q217 h218 => ?_
    refine sv_goto (pc := 332) (tgt := 339) dX1_isSo_332 (by decide) ?_
    refine mr_lvS (lv' := [(0, .ref 21), (3, iv z8)]) (List.forall_mem_cons.mpr ⟨rfl, List.forall_mem_cons.mpr ⟨rfl, fun _ h => absurd h List.not_mem_nil⟩⟩) ?_
    exact J193 z216 h218 (((((((((W126.2 h125).2 h139).2 h152).2 h165).1 h174) b176 q177 A178) z179 q180 h181).2 h209) z216 q217 h218)
  refine mr_tableOut (pc := 35) (tgt := 381) dX1_isSo_35 h19 (vc_X1_isSo_W_28 h20 h78 h80 h101 h103 h113 h119 h125 h139 h152 h165 h174 h19) (by decide) ?_
  refine mr_iconst (pc := 381) (z := 0) dX1_isSo_381 ?_
  exact mr_zretP dX1_isSo_382 rfl (rW (c := 0) (d := 1) (rR (x := 0)) rfl) (le_t rfl) (le_t rfl) ⟨(rW (c := 0) (d := 1) (rR (x := 0)) rfl), (((((W126.2 h125).2 h139).2 h152).2 h165).2 h174), trivial⟩
def WP_X1_goThrough_W13 (w : mW) (μ : mM) (p1 : Int) (p2 : Int) (Q : mM → Prop) : Prop := ((p1 < 0) → Q μ) ∧ ((0 ≤ p1) → ∀ z4 : Int, μ 21 8 = z4 → (z4 = w.2.2.2 2 ∧ 0 ≤ z4 ∧ z4 ≤ 12) → ((z4 ≤ p1) → Q μ) ∧ ((p1 < z4) → Q μ))
theorem vc_X1_goThrough_W13_3 {n2 p1 z4 : Int} (h0 : p1 < z4) (h1 : 0 ≤ p1) (h2 : z4 = n2) (h3 : 0 ≤ p1 ∧ p1 ≤ 2147483647) (h4 : 0 ≤ z4 ∧ z4 ≤ 12) : 0 ≤ p1 ∧ p1 ≤ 11 := by omega
theorem vc_X1_goThrough_W13_4 {n2 p1 z4 : Int} (h0 : p1 < z4) (h1 : 0 ≤ p1) (h2 : z4 = n2) (h3 : 0 ≤ p1 ∧ p1 ≤ 11) (h4 : 0 ≤ z4 ∧ z4 ≤ 12) : 1 ≤ z4 ∧ z4 ≤ 12 := by omega
theorem vc_X1_goThrough_W13_5 {p2 : Int} (h0 : p2 ≤ 12) (h1 : 13 ≤ p2 ∧ p2 ≤ 13) : False := by omega
set_option maxRecDepth 4000 in
set_option maxHeartbeats 4000000 in
theorem c_X1_goThrough_W13 {l : Launch} {D : va_G} {c : Nat → ClassId} {H0 : Heap} {sa : Nat × Nat × (Nat → Int32)} {w : mW} {μ : mM} (hw : mWF w) (hT : mT w μ) {p1 : Int} (hp1 : (-2147483648) ≤ p1 ∧ p1 ≤ 2147483647) {p2 : Int} (hp2 : 13 ≤ p2 ∧ p2 ≤ 13) (hIPC : PC w μ) (hIRT : RT μ) {Q : mM → Prop} (hQ : WP_X1_goThrough_W13 w μ p1 p2 Q) : sC (gG l D c H0 sa) mX1_goThrough 3 0 0 [.ref 21, iv p1, iv p2] (mk w μ) (qV w [] μ (fun μ1 => Q μ1 ∧ True)) := by
  refine sC.of rfl (by decide) (le_t rfl) ?_
  refine mr_lvE (lv' := [(0, .ref 21), (1, iv p1), (2, iv p2)]) rfl ?_
  refine mr_iload_n (pc := 0) (z := p1) dX1_goThrough_0 rfl rfl ?_
  refine mr_if_lt (pc := 1) (tgt := 18) dX1_goThrough_1 (by decide) hp1 (fun h1 => ?_) (fun h1 => ?_)
  · have h2 : (-2147483648) ≤ p1 ∧ p1 ≤ (-1) := (vc_X12_ring_60 h1 hp1)
    exact mr_vret dX1_goThrough_18 rfl (le_t rfl) (le_t rfl) hT mF.refl ⟨(hQ.1 h1), trivial⟩
  have h3 : 0 ≤ p1 ∧ p1 ≤ 2147483647 := (vc_X12_ring_1 h1 hp1)
  refine mr_iload_n (pc := 4) (z := p1) dX1_goThrough_4 rfl rfl ?_
  refine sv_aload_n (pc := 5) dX1_goThrough_5 rfl rfl ?_
  refine gf_X1_8 (pc := 6) dX1_goThrough_6 wF_X1_21 (A_21 hw) hT fun z4 q5 h6 => ?_
  refine mr_icmp_ge (pc := 9) (tgt := 18) dX1_goThrough_9 (by decide) (r32 h3 rfl) (r32 h6.2 rfl) (fun h7 => ?_) (fun h7 => ?_)
  · exact mr_vret dX1_goThrough_18 rfl (le_t rfl) (le_t rfl) hT mF.refl ⟨(((hQ.2 h1) z4 q5 h6).1 h7), trivial⟩
  have h8 : 0 ≤ p1 ∧ p1 ≤ 11 := (vc_X1_goThrough_W13_3 h7 h1 h6.1 h3 h6.2)
  have h9 : 1 ≤ z4 ∧ z4 ≤ 12 := (vc_X1_goThrough_W13_4 h7 h1 h6.1 h8 h6.2)
  refine mr_iload_n (pc := 12) (z := p2) dX1_goThrough_12 rfl rfl ?_
  refine mr_bipush (pc := 13) (z := 12) dX1_goThrough_13 (by decide) ?_
  refine mr_icmp_le (pc := 15) (tgt := 19) dX1_goThrough_15 (by decide) (r32 hp2 rfl) (r32 (rR (x := 12)) rfl) (fun h => ((vc_X1_goThrough_W13_5 h hp2)).elim) (fun _ => ?_)
  exact mr_vret dX1_goThrough_18 rfl (le_t rfl) (le_t rfl) hT mF.refl ⟨(((hQ.2 h1) z4 q5 h6).2 h7), trivial⟩
def WJ_X1_doActs_W12_2 (w : mW) (rec1 : (Int × mM) → Prop) (z1989 : Int) (μ2019 : mM) (μ2114 : mM) : Prop := mT w μ2114 → mF [21007, 200007, 201999] w μ2019 μ2114 → rec1 ((z1989 + 1), μ2114)
def WL_X1_doActs_W12_1 (w : mW) (μ : mM) (a1 : Nat) (p2 : Int) (p3 : Int) (p4 : Int) (Q : mM → Prop) (rec1 : (Int × mM) → Prop) (s : (Int × mM)) : Prop := ∀ z1989 : Int, ∀ μ1990 : mM, s = (z1989, μ1990) → (0 ≤ z1989 ∧ z1989 ≤ 1000) → mT w μ1990 → mF [21006, 21007, 200004, 200006, 200007, 200008, 201999, 202999] w μ μ1990 → ((p3 ≤ z1989) → Q μ1990) ∧ ((z1989 < p3) → ∀ z2004 : Int, μ1990 21 7 = z2004 → (0 ≤ z2004 ∧ z2004 ≤ 2) → ((¬ z2004 = 0) → Q μ1990) ∧ ((z2004 = 0) → ∀ z2010 : Int, μ1990 a1 (((p2 + (z1989 * 2)) + 1).toNat) = z2010 → ((-2147483648) ≤ z2010 ∧ z2010 ≤ 2147483647) → ∀ z2014 : Int, μ1990 21 6 = z2014 → (0 ≤ z2014 ∧ z2014 ≤ 500) → ((z2014 < 500) → ∀ μ2019 : mM, mU μ1990 21 (6) (z2014 + 1) μ2019 → mT w μ2019 → ∀ z2022 : Int, μ2019 a1 ((p2 + (z1989 * 2)).toNat) = z2022 → ((-2147483648) ≤ z2022 ∧ z2022 ≤ 2147483647) → (z2022 = 12 → ∀ b2028 : Nat, μ2019 21 2 = (b2028 : Int) → mAt w b2028 200 → ∀ μ2031 : mM, mU μ2019 b2028 (4) z2010 μ2031 → mT w μ2031 → rec1 ((z1989 + 1), μ2031)) ∧ (¬ z2022 = 12 → (z2022 = 13 → ∀ b2036 : Nat, μ2019 21 2 = (b2036 : Int) → mAt w b2036 200 → ∀ μ2039 : mM, mU μ2019 b2036 (6) z2010 μ2039 → mT w μ2039 → rec1 ((z1989 + 1), μ2039)) ∧ (¬ z2022 = 13 → (z2022 = 14 → rec1 ((z1989 + 1), μ2019)) ∧ (¬ z2022 = 14 → (z2022 = 15 → rec1 ((z1989 + 1), μ2019)) ∧ (¬ z2022 = 15 → (z2022 = 16 → rec1 ((z1989 + 1), μ2019)) ∧ (¬ z2022 = 16 → (z2022 = 17 → rec1 ((z1989 + 1), μ2019)) ∧ (¬ z2022 = 17 → (z2022 = 18 → rec1 ((z1989 + 1), μ2019)) ∧ (¬ z2022 = 18 → (z2022 = 19 → rec1 ((z1989 + 1), μ2019)) ∧ (¬ z2022 = 19 → (z2022 = 20 → rec1 ((z1989 + 1), μ2019)) ∧ (¬ z2022 = 20 → (z2022 = 21 → rec1 ((z1989 + 1), μ2019)) ∧ (¬ z2022 = 21 → (z2022 = 22 → rec1 ((z1989 + 1), μ2019)) ∧ (¬ z2022 = 22 → (z2022 = 23 → ∀ μ2063 : mM, mU μ2019 21 (7) (1 : Int) μ2063 → mT w μ2063 → rec1 ((z1989 + 1), μ2063)) ∧ (¬ z2022 = 23 → (z2022 = 24 → ∀ μ2069 : mM, mU μ2019 21 (7) (2 : Int) μ2069 → mT w μ2069 → rec1 ((z1989 + 1), μ2069)) ∧ (¬ z2022 = 24 → (z2022 = 25 → ∀ b2074 : Nat, μ2019 21 2 = (b2074 : Int) → mAt w b2074 200 → WP_X7_addMark_W w μ2019 b2074 z2010 (fun μ2077 => mT w μ2077 → mF [200008, 202999] w μ2019 μ2077 → rec1 ((z1989 + 1), μ2077))) ∧ (¬ z2022 = 25 → (z2022 = 26 → ∀ b2083 : Nat, μ2019 21 2 = (b2083 : Int) → mAt w b2083 200 → WP_X7_dropMark_W w μ2019 b2083 z2010 (fun μ2086 => mT w μ2086 → mF [200008, 202999] w μ2019 μ2086 → rec1 ((z1989 + 1), μ2086))) ∧ (¬ z2022 = 26 → (z2022 = 27 → ∀ b2092 : Nat, μ2019 21 2 = (b2092 : Int) → mAt w b2092 200 → ∀ z2095 : Int, μ2019 b2092 7 = z2095 → (0 ≤ z2095 ∧ z2095 ≤ 20) → ((z2095 ≤ 0) → (WJ_X1_doActs_W12_2 w rec1 z1989 μ2019) μ2019) ∧ ((0 < z2095) → ∀ z2126 : Int, μ2019 (b2092 + 1) ((0 : Int).toNat) = z2126 → ((-2147483648) ≤ z2126 ∧ z2126 ≤ 2147483647) → WP_X7_putInFront_W w μ2019 b2092 z2126 z2010 (fun z2133 μ2129 => mT w μ2129 → mF [200007, 201999] w μ2019 μ2129 → (0 ≤ z2133 ∧ z2133 ≤ 1) → ((¬ z2133 = 0) → (WJ_X1_doActs_W12_2 w rec1 z1989 μ2019) μ2129) ∧ ((z2133 = 0) → ∀ μ2138 : mM, mU μ2129 21 (7) (2 : Int) μ2138 → mT w μ2138 → (WJ_X1_doActs_W12_2 w rec1 z1989 μ2019) μ2138)))) ∧ (¬ z2022 = 27 → (z2022 = 28 → WP_X1_goThrough_W13 w μ2019 z2010 (p4 + 1) (fun μ2143 => mT w μ2143 → mF [] w μ2019 μ2143 → rec1 ((z1989 + 1), μ2143))) ∧ (¬ z2022 = 28 → rec1 ((z1989 + 1), μ2019))))))))))))))))))) ∧ ((500 ≤ z2014) → ∀ μ2148 : mM, mU μ1990 21 (7) (2 : Int) μ2148 → mT w μ2148 → Q μ2148)))
def WP_X1_doActs_W12 (w : mW) (μ : mM) (a1 : Nat) (p2 : Int) (p3 : Int) (p4 : Int) (Q : mM → Prop) : Prop := ∀ n_1 : Int, (w.2.2.1 a1 : Int) = n_1 → (0 ≤ n_1 ∧ n_1 ≤ 2000) → loopF (WL_X1_doActs_W12_1 w μ a1 p2 p3 p4 Q) False 1002 ((0 : Int), μ)
theorem vc_X1_doActs_W12_1 {z1989 : Int} (h0 : (1001 - z1989) < ((0 : Nat) : Int)) (h1 : 0 ≤ z1989 ∧ z1989 ≤ 1000) : False := by omega
theorem vc_X1_doActs_W12_2 {n_1 p2 p3 z1989 : Int} (h0 : z1989 < p3) (h1 : p2 + 2 * p3 ≤ n_1) (h2 : 0 ≤ n_1 ∧ n_1 ≤ 2000) (h3 : 0 ≤ p2 ∧ p2 ≤ 2000) (h4 : 0 ≤ p3 ∧ p3 ≤ 1000) (h5 : 0 ≤ z1989 ∧ z1989 ≤ 1000) : 0 ≤ z1989 ∧ z1989 ≤ 999 := by omega
theorem vc_X1_doActs_W12_3 {n_1 p2 p3 z1989 : Int} (h0 : z1989 < p3) (h1 : p2 + 2 * p3 ≤ n_1) (h2 : 0 ≤ n_1 ∧ n_1 ≤ 2000) (h3 : 0 ≤ p2 ∧ p2 ≤ 2000) (h4 : 0 ≤ p3 ∧ p3 ≤ 1000) (h5 : 0 ≤ z1989 ∧ z1989 ≤ 999) : 1 ≤ p3 ∧ p3 ≤ 1000 := by omega
theorem vc_X1_doActs_W12_6 {n_1 p2 p3 z1989 : Int} (h0 : p2 + 2 * p3 ≤ n_1) (h1 : z1989 < p3) (h2 : 0 ≤ n_1 ∧ n_1 ≤ 2000) (h3 : 0 ≤ p2 ∧ p2 ≤ 2000) (h4 : 1 ≤ p3 ∧ p3 ≤ 1000) (h5 : 0 ≤ z1989 ∧ z1989 ≤ 999) : 0 ≤ ((p2 + (z1989 * 2)) + 1) ∧ ((p2 + (z1989 * 2)) + 1) < n_1 := by omega
theorem vc_X1_doActs_W12_7 {n_1 p2 p3 z1989 : Int} (h0 : z1989 < p3) (h1 : p2 + 2 * p3 ≤ n_1) (h2 : 0 ≤ n_1 ∧ n_1 ≤ 2000) (h3 : 0 ≤ p2 ∧ p2 ≤ 2000) (h4 : 1 ≤ p3 ∧ p3 ≤ 1000) (h5 : 0 ≤ z1989 ∧ z1989 ≤ 999) : 0 ≤ z1989 := by omega
theorem vc_X1_doActs_W12_8 {n_1 p2 p3 z1989 : Int} (h0 : p2 + 2 * p3 ≤ n_1) (h1 : z1989 < p3) (h2 : 0 ≤ n_1 ∧ n_1 ≤ 2000) (h3 : 0 ≤ p2 ∧ p2 ≤ 2000) (h4 : 1 ≤ p3 ∧ p3 ≤ 1000) (h5 : 0 ≤ z1989 ∧ z1989 ≤ 999) : z1989 < p3 := by omega
theorem vc_X1_doActs_W12_9 {n_1 p2 p3 z1989 : Int} (h0 : p2 + 2 * p3 ≤ n_1) (h1 : z1989 < p3) (h2 : 0 ≤ n_1 ∧ n_1 ≤ 2000) (h3 : 0 ≤ p2 ∧ p2 ≤ 2000) (h4 : 1 ≤ p3 ∧ p3 ≤ 1000) (h5 : 0 ≤ z1989 ∧ z1989 ≤ 999) : ((p2 + (z1989 * 2)) + 1) = p2 + 2 * z1989 + 1 := by omega
theorem vc_X1_doActs_W12_10 {z2014 : Int} (h0 : z2014 < 500) (h1 : 0 ≤ z2014 ∧ z2014 ≤ 500) : 0 ≤ z2014 ∧ z2014 ≤ 499 := by omega
theorem vc_X1_doActs_W12_11 {n_1 p2 p3 z1989 : Int} (h0 : p2 + 2 * p3 ≤ n_1) (h1 : z1989 < p3) (h2 : 0 ≤ n_1 ∧ n_1 ≤ 2000) (h3 : 0 ≤ p2 ∧ p2 ≤ 2000) (h4 : 1 ≤ p3 ∧ p3 ≤ 1000) (h5 : 0 ≤ z1989 ∧ z1989 ≤ 999) : 0 ≤ (p2 + (z1989 * 2)) ∧ (p2 + (z1989 * 2)) < n_1 := by omega
theorem vc_X1_doActs_W12_12 {z2022 : Int} (h0 : z2022 = 12) (h1 : (-2147483648) ≤ z2022 ∧ z2022 ≤ 2147483647) : 12 ≤ z2022 ∧ z2022 ≤ 12 := by omega
theorem vc_X1_doActs_W12_13 {N n_1 p2 p3 z1989 : Int} (h0 : (1001 - z1989) < N + 1) (h1 : z1989 < p3) (h2 : p2 + 2 * p3 ≤ n_1) (h3 : 0 ≤ n_1 ∧ n_1 ≤ 2000) (h4 : 0 ≤ p2 ∧ p2 ≤ 2000) (h5 : 1 ≤ p3 ∧ p3 ≤ 1000) (h6 : 0 ≤ z1989 ∧ z1989 ≤ 999) : (1001 - (z1989 + 1)) < N := by omega
theorem vc_X1_doActs_W12_14 {z2022 : Int} (h0 : z2022 = 13) (h1 : ¬ z2022 = 12) (h2 : (-2147483648) ≤ z2022 ∧ z2022 ≤ 2147483647) : 13 ≤ z2022 ∧ z2022 ≤ 13 := by omega
theorem vc_X1_doActs_W12_15 {z2022 : Int} (h0 : z2022 = 14) (h1 : ¬ z2022 = 12) (h2 : ¬ z2022 = 13) (h3 : (-2147483648) ≤ z2022 ∧ z2022 ≤ 2147483647) : 14 ≤ z2022 ∧ z2022 ≤ 14 := by omega
theorem vc_X1_doActs_W12_16 {z2022 : Int} (h0 : z2022 = 15) (h1 : ¬ z2022 = 12) (h2 : ¬ z2022 = 13) (h3 : ¬ z2022 = 14) (h4 : (-2147483648) ≤ z2022 ∧ z2022 ≤ 2147483647) : 15 ≤ z2022 ∧ z2022 ≤ 15 := by omega
theorem vc_X1_doActs_W12_17 {z2022 : Int} (h0 : z2022 = 16) (h1 : ¬ z2022 = 12) (h2 : ¬ z2022 = 13) (h3 : ¬ z2022 = 14) (h4 : ¬ z2022 = 15) (h5 : (-2147483648) ≤ z2022 ∧ z2022 ≤ 2147483647) : 16 ≤ z2022 ∧ z2022 ≤ 16 := by omega
theorem vc_X1_doActs_W12_18 {z2022 : Int} (h0 : z2022 = 17) (h1 : ¬ z2022 = 12) (h2 : ¬ z2022 = 13) (h3 : ¬ z2022 = 14) (h4 : ¬ z2022 = 15) (h5 : ¬ z2022 = 16) (h6 : (-2147483648) ≤ z2022 ∧ z2022 ≤ 2147483647) : 17 ≤ z2022 ∧ z2022 ≤ 17 := by omega
theorem vc_X1_doActs_W12_19 {z2022 : Int} (h0 : z2022 = 18) (h1 : ¬ z2022 = 12) (h2 : ¬ z2022 = 13) (h3 : ¬ z2022 = 14) (h4 : ¬ z2022 = 15) (h5 : ¬ z2022 = 16) (h6 : ¬ z2022 = 17) (h7 : (-2147483648) ≤ z2022 ∧ z2022 ≤ 2147483647) : 18 ≤ z2022 ∧ z2022 ≤ 18 := by omega
theorem vc_X1_doActs_W12_20 {z2022 : Int} (h0 : z2022 = 19) (h1 : ¬ z2022 = 12) (h2 : ¬ z2022 = 13) (h3 : ¬ z2022 = 14) (h4 : ¬ z2022 = 15) (h5 : ¬ z2022 = 16) (h6 : ¬ z2022 = 17) (h7 : ¬ z2022 = 18) (h8 : (-2147483648) ≤ z2022 ∧ z2022 ≤ 2147483647) : 19 ≤ z2022 ∧ z2022 ≤ 19 := by omega
theorem vc_X1_doActs_W12_21 {z2022 : Int} (h0 : z2022 = 20) (h1 : ¬ z2022 = 13) (h2 : ¬ z2022 = 14) (h3 : ¬ z2022 = 15) (h4 : ¬ z2022 = 16) (h5 : ¬ z2022 = 17) (h6 : ¬ z2022 = 18) (h7 : ¬ z2022 = 19) (h8 : (-2147483648) ≤ z2022 ∧ z2022 ≤ 2147483647) : 20 ≤ z2022 ∧ z2022 ≤ 20 := by omega
theorem vc_X1_doActs_W12_22 {z2022 : Int} (h0 : z2022 = 21) (h1 : ¬ z2022 = 14) (h2 : ¬ z2022 = 15) (h3 : ¬ z2022 = 16) (h4 : ¬ z2022 = 17) (h5 : ¬ z2022 = 18) (h6 : ¬ z2022 = 19) (h7 : ¬ z2022 = 20) (h8 : (-2147483648) ≤ z2022 ∧ z2022 ≤ 2147483647) : 21 ≤ z2022 ∧ z2022 ≤ 21 := by omega
theorem vc_X1_doActs_W12_23 {z2022 : Int} (h0 : z2022 = 22) (h1 : ¬ z2022 = 15) (h2 : ¬ z2022 = 16) (h3 : ¬ z2022 = 17) (h4 : ¬ z2022 = 18) (h5 : ¬ z2022 = 19) (h6 : ¬ z2022 = 20) (h7 : ¬ z2022 = 21) (h8 : (-2147483648) ≤ z2022 ∧ z2022 ≤ 2147483647) : 22 ≤ z2022 ∧ z2022 ≤ 22 := by omega
theorem vc_X1_doActs_W12_24 {z2022 : Int} (h0 : z2022 = 23) (h1 : ¬ z2022 = 16) (h2 : ¬ z2022 = 17) (h3 : ¬ z2022 = 18) (h4 : ¬ z2022 = 19) (h5 : ¬ z2022 = 20) (h6 : ¬ z2022 = 21) (h7 : ¬ z2022 = 22) (h8 : (-2147483648) ≤ z2022 ∧ z2022 ≤ 2147483647) : 23 ≤ z2022 ∧ z2022 ≤ 23 := by omega
theorem vc_X1_doActs_W12_25 {z2022 : Int} (h0 : z2022 = 24) (h1 : ¬ z2022 = 17) (h2 : ¬ z2022 = 18) (h3 : ¬ z2022 = 19) (h4 : ¬ z2022 = 20) (h5 : ¬ z2022 = 21) (h6 : ¬ z2022 = 22) (h7 : ¬ z2022 = 23) (h8 : (-2147483648) ≤ z2022 ∧ z2022 ≤ 2147483647) : 24 ≤ z2022 ∧ z2022 ≤ 24 := by omega
theorem vc_X1_doActs_W12_26 {z2022 : Int} (h0 : z2022 = 25) (h1 : ¬ z2022 = 18) (h2 : ¬ z2022 = 19) (h3 : ¬ z2022 = 20) (h4 : ¬ z2022 = 21) (h5 : ¬ z2022 = 22) (h6 : ¬ z2022 = 23) (h7 : ¬ z2022 = 24) (h8 : (-2147483648) ≤ z2022 ∧ z2022 ≤ 2147483647) : 25 ≤ z2022 ∧ z2022 ≤ 25 := by omega
theorem vc_X1_doActs_W12_27 {z2022 : Int} (h0 : z2022 = 26) (h1 : ¬ z2022 = 19) (h2 : ¬ z2022 = 20) (h3 : ¬ z2022 = 21) (h4 : ¬ z2022 = 22) (h5 : ¬ z2022 = 23) (h6 : ¬ z2022 = 24) (h7 : ¬ z2022 = 25) (h8 : (-2147483648) ≤ z2022 ∧ z2022 ≤ 2147483647) : 26 ≤ z2022 ∧ z2022 ≤ 26 := by omega
theorem vc_X1_doActs_W12_28 {z2022 : Int} (h0 : z2022 = 27) (h1 : ¬ z2022 = 20) (h2 : ¬ z2022 = 21) (h3 : ¬ z2022 = 22) (h4 : ¬ z2022 = 23) (h5 : ¬ z2022 = 24) (h6 : ¬ z2022 = 25) (h7 : ¬ z2022 = 26) (h8 : (-2147483648) ≤ z2022 ∧ z2022 ≤ 2147483647) : 27 ≤ z2022 ∧ z2022 ≤ 27 := by omega
theorem vc_X1_doActs_W12_33 {z2022 : Int} (h0 : z2022 = 28) (h1 : ¬ z2022 = 21) (h2 : ¬ z2022 = 22) (h3 : ¬ z2022 = 23) (h4 : ¬ z2022 = 24) (h5 : ¬ z2022 = 25) (h6 : ¬ z2022 = 26) (h7 : ¬ z2022 = 27) (h8 : (-2147483648) ≤ z2022 ∧ z2022 ≤ 2147483647) : 28 ≤ z2022 ∧ z2022 ≤ 28 := by omega
theorem vc_X1_doActs_W12_34 {z2022 : Int} (h0 : ¬ z2022 = 12) (h1 : ¬ z2022 = 13) (h2 : ¬ z2022 = 14) (h3 : ¬ z2022 = 15) (h4 : ¬ z2022 = 16) (h5 : ¬ z2022 = 17) (h6 : ¬ z2022 = 18) (h7 : ¬ z2022 = 19) (h8 : ¬ z2022 = 20) (h9 : ¬ z2022 = 21) (h10 : ¬ z2022 = 22) (h11 : ¬ z2022 = 23) (h12 : ¬ z2022 = 24) (h13 : ¬ z2022 = 25) (h14 : ¬ z2022 = 26) (h15 : ¬ z2022 = 27) (h16 : ¬ z2022 = 28) (h17 : (-2147483648) ≤ z2022 ∧ z2022 ≤ 2147483647) : z2022 < 12 ∨ 28 < z2022 := by omega
theorem vc_X1_doActs_W12_35 {z2014 : Int} (h0 : 500 ≤ z2014) (h1 : 0 ≤ z2014 ∧ z2014 ≤ 500) : 500 ≤ z2014 ∧ z2014 ≤ 500 := by omega
set_option maxRecDepth 4000 in
set_option maxHeartbeats 4000000 in
theorem c_X1_doActs_W12 {l : Launch} {D : va_G} {c : Nat → ClassId} {H0 : Heap} {sa : Nat × Nat × (Nat → Int32)} {w : mW} {μ : mM} (hw : mWF w) (hT : mT w μ) {a1 : Nat} (hA1 : mAt w a1 231) {p2 : Int} (hp2 : 0 ≤ p2 ∧ p2 ≤ 2000) {p3 : Int} (hp3 : 0 ≤ p3 ∧ p3 ≤ 1000) {p4 : Int} (hp4 : 12 ≤ p4 ∧ p4 ≤ 12) (hIPC : PC w μ) (hIRT : RT μ) (hlen : p2 + 2 * p3 ≤ (w.2.2.1 a1 : Int)) (harg : ∀ i : Int, 0 ≤ i → i < p3 → 0 ≤ μ a1 (p2 + 2 * i + 1).toNat ∧ μ a1 (p2 + 2 * i + 1).toNat ≤ 1000000) {Q : mM → Prop} (hQ : WP_X1_doActs_W12 w μ a1 p2 p3 p4 Q) : sC (gG l D c H0 sa) mX1_doActs 4 0 0 [.ref 21, .ref a1, iv p2, iv p3, iv p4] (mk w μ) (qV w [21006, 21007, 200004, 200006, 200007, 200008, 201999, 202999] μ (fun μ1 => Q μ1 ∧ True)) := by
  refine sC.of rfl (by decide) (le_t rfl) ?_
  refine mr_lvE (lv' := [(0, .ref 21), (1, .ref a1), (2, iv p2), (3, iv p3), (4, iv p4)]) rfl ?_
  obtain ⟨n_1, q2⟩ : ∃ n : Int, (w.2.2.1 a1 : Int) = n := ⟨_, rfl⟩
  have h3 : 0 ≤ n_1 ∧ n_1 ≤ 2000 := lnR (m := 2000) q2 hA1 rfl
  have h4 : p2 + 2 * p3 ≤ n_1 := lnLe q2 hlen
  refine mr_iconst (pc := 0) (z := 0) dX1_doActs_0 ?_
  refine mr_istore (pc := 1) (lv' := [(5, iv 0), (0, .ref 21), (1, .ref a1), (2, iv p2), (3, iv p3), (4, iv p4)]) dX1_doActs_1 (by decide) rfl ?_
  have L1991 : ∀ (nL1991 : Nat) (z1989 : Int) (μ1990 : mM), mT w μ1990 → mF [21006, 21007, 200004, 200006, 200007, 200008, 201999, 202999] w μ μ1990 → (0 ≤ z1989 ∧ z1989 ≤ 1000) → PC w μ1990 → RT μ1990 → (1001 - z1989) < (nL1991 : Int) → loopF (WL_X1_doActs_W12_1 w μ a1 p2 p3 p4 Q) False nL1991 (z1989, μ1990) → sV (gG l D c H0 sa) mX1_doActs (sRm 4 0 0) (sZ (gG l D c H0 sa) 0 0 (qV w [21006, 21007, 200004, 200006, 200007, 200008, 201999, 202999] μ (fun μ1 => Q μ1 ∧ True))) 3 [(0, .ref 21), (1, .ref a1), (2, iv p2), (3, iv p3), (4, iv p4), (5, iv z1989)] [] (mk w μ1990) 0 0 := by
    intro nL1991
    induction nL1991 with
    | zero => intro z1989 μ1990 T1993 F1994 h1992 I1996 I1997 h1998 W1999; exact ((vc_X1_doActs_W12_1 h1998 h1992)).elim
    | succ nL1991 ih2000 =>
      intro z1989 μ1990 T1993 F1994 h1992 I1996 I1997 h1998 W1999
      refine mr_iload (pc := 3) (z := z1989) dX1_doActs_3 rfl ?_
      refine mr_iload_n (pc := 5) (z := p3) dX1_doActs_5 rfl rfl ?_
      refine mr_icmp_ge (pc := 6) (tgt := 266) dX1_doActs_6 (by decide) (r32 h1992 rfl) (r32 hp3 rfl) (fun h2001 => ?_) (fun h2001 => ?_)
      · exact mr_vret dX1_doActs_266 rfl (le_t rfl) (le_t rfl) T1993 (mF.call mF.refl F1994 rfl) ⟨((W1999 z1989 μ1990 rfl h1992 T1993 F1994).1 h2001), trivial⟩
      have h2002 : 0 ≤ z1989 ∧ z1989 ≤ 999 := (vc_X1_doActs_W12_2 h2001 h4 h3 hp2 hp3 h1992)
      have h2003 : 1 ≤ p3 ∧ p3 ≤ 1000 := (vc_X1_doActs_W12_3 h2001 h4 h3 hp2 hp3 h2002)
      refine sv_aload_n (pc := 9) dX1_doActs_9 rfl rfl ?_
      refine gf_X1_7 (pc := 10) dX1_doActs_10 wF_X1_50 (A_21 hw) T1993 fun z2004 q2005 h2006 => ?_
      refine mr_if_ne (pc := 13) (tgt := 266) dX1_doActs_13 (by decide) (r32 h2006 rfl) (fun h2007 => ?_) (fun h2007 => ?_)
      · have h2008 : 1 ≤ z2004 ∧ z2004 ≤ 2 := (vc_X12_provides_3 h2007 h2006)
        exact mr_vret dX1_doActs_266 rfl (le_t rfl) (le_t rfl) T1993 (mF.call mF.refl F1994 rfl) ⟨((((W1999 z1989 μ1990 rfl h1992 T1993 F1994).2 h2001) z2004 q2005 h2006).1 h2007), trivial⟩
      have h2009 : 0 ≤ z2004 ∧ z2004 ≤ 0 := (vc_X12_provides_4 h2007 h2006)
      refine sv_aload_n (pc := 16) dX1_doActs_16 rfl rfl ?_
      refine mr_iload_n (pc := 17) (z := p2) dX1_doActs_17 rfl rfl ?_
      refine mr_iload (pc := 18) (z := z1989) dX1_doActs_18 rfl ?_
      refine mr_iconst (pc := 20) (z := 2) dX1_doActs_20 ?_
      refine mr_imul (pc := 21) (x := z1989) (y := 2) dX1_doActs_21 ?_
      refine mr_iadd (pc := 22) (x := p2) (y := (z1989 * 2)) dX1_doActs_22 ?_
      refine mr_iconst (pc := 23) (z := 1) dX1_doActs_23 ?_
      refine mr_iadd (pc := 24) (x := (p2 + (z1989 * 2))) (y := 1) dX1_doActs_24 ?_
      refine la_231 (pc := 25) dX1_doActs_25 hA1 T1993 (lnC q2 (vc_X1_doActs_W12_6 h4 h2001 h3 hp2 h2003 h2002)) fun z2010 q2011 h2012 => ?_
      have h2013 : 0 ≤ z2010 ∧ z2010 ≤ 1000000 := argB harg (vc_X1_doActs_W12_7 h2001 h4 h3 hp2 h2003 h2002) (vc_X1_doActs_W12_8 h4 h2001 h3 hp2 h2003 h2002) (vc_X1_doActs_W12_9 h4 h2001 h3 hp2 h2003 h2002) (((mF.call mF.refl F1994 rfl) : mF [21006, 21007, 200004, 200006, 200007, 200008, 201999, 202999] w μ μ1990).f hA1 rfl rfl) q2011
      refine mr_istore (pc := 26) (lv' := [(6, iv z2010), (0, .ref 21), (1, .ref a1), (2, iv p2), (3, iv p3), (4, iv p4), (5, iv z1989)]) dX1_doActs_26 (by decide) rfl ?_
      refine sv_aload_n (pc := 28) dX1_doActs_28 rfl rfl ?_
      refine gf_X1_6 (pc := 29) dX1_doActs_29 wF_X1_47 (A_21 hw) T1993 fun z2014 q2015 h2016 => ?_
      refine mr_sipush (pc := 32) (z := 500) dX1_doActs_32 (by decide) ?_
      refine mr_icmp_lt (pc := 35) (tgt := 44) dX1_doActs_35 (by decide) (r32 h2016 rfl) (r32 (rR (x := 500)) rfl) (fun h2017 => ?_) (fun h2017 => ?_)
      · have h2018 : 0 ≤ z2014 ∧ z2014 ≤ 499 := (vc_X1_doActs_W12_10 h2017 h2016)
        refine sv_aload_n (pc := 44) dX1_doActs_44 rfl rfl ?_
        refine sv_dup (pc := 45) dX1_doActs_45 rfl ?_
        refine gk_X1_6 (pc := 46) dX1_doActs_46 wF_X1_47 (A_21 hw) q2015 ?_
        refine mr_iconst (pc := 49) (z := 1) dX1_doActs_49 ?_
        refine mr_iadd (pc := 50) (x := z2014) (y := 1) dX1_doActs_50 ?_
        refine pf_X1_6 (pc := 51) dX1_doActs_51 wF_X1_47 (A_21 hw) T1993 (rW (c := 0) (d := 500) (rAdd (e := 1) (f := 500) h2018 (rR (x := 1)) rfl) rfl) fun μ2019 u2020 T2021 => ?_
        refine sv_aload_n (pc := 54) dX1_doActs_54 rfl rfl ?_
        refine mr_iload_n (pc := 55) (z := p2) dX1_doActs_55 rfl rfl ?_
        refine mr_iload (pc := 56) (z := z1989) dX1_doActs_56 rfl ?_
        refine mr_iconst (pc := 58) (z := 2) dX1_doActs_58 ?_
        refine mr_imul (pc := 59) (x := z1989) (y := 2) dX1_doActs_59 ?_
        refine mr_iadd (pc := 60) (x := p2) (y := (z1989 * 2)) dX1_doActs_60 ?_
        refine la_231 (pc := 61) dX1_doActs_61 hA1 T2021 (lnC q2 (vc_X1_doActs_W12_11 h4 h2001 h3 hp2 h2003 h2002)) fun z2022 q2023 h2024 => ?_
        have W2026 := (((((((((W1999 z1989 μ1990 rfl h1992 T1993 F1994).2 h2001) z2004 q2005 h2006).2 h2007) z2010 q2011 h2012) z2014 q2015 h2016).1 h2017) μ2019 u2020 T2021) z2022 q2023 h2024)
        by_cases h2025 : z2022 = 12
        · refine mr_tableIn (pc := 62) (v := 12) (tgt := 184) dX1_doActs_62 h2025 rfl rfl (by decide) ?_
          have h2027 : 12 ≤ z2022 ∧ z2022 ≤ 12 := (vc_X1_doActs_W12_12 h2025 h2024)
          refine sv_aload_n (pc := 184) dX1_doActs_184 rfl rfl ?_
          refine gf_X1_2 (pc := 185) dX1_doActs_185 wF_X1_25 (A_21 hw) T2021 (RT.keep I1997 hw ((mF.up mF.refl (A_21 hw) u2020 rfl) : mF [21006] w μ1990 μ2019) rfl) fun b2028 q2029 A2030 => ?_
          refine mr_iload (pc := 188) (z := z2010) dX1_doActs_188 rfl ?_
          refine pf_X7_4 (pc := 190) dX1_doActs_190 wF_X1_105 A2030 T2021 (rW (c := (-2147483648)) (d := 2147483647) h2013 rfl) fun μ2031 u2032 T2033 => ?_
          refine sv_goto (pc := 193) (tgt := 260) dX1_doActs_193 (by decide) ?_
          refine mr_iinc (pc := 260) (lv' := [(5, iv (z1989 + 1)), (6, iv z2010), (0, .ref 21), (1, .ref a1), (2, iv p2), (3, iv p3), (4, iv p4)]) dX1_doActs_260 rfl (by decide) rfl ?_
          refine sv_goto (pc := 263) (tgt := 3) dX1_doActs_263 (by decide) ?_
          refine mr_lvS (lv' := [(0, .ref 21), (1, .ref a1), (2, iv p2), (3, iv p3), (4, iv p4), (5, iv (z1989 + 1))]) (List.forall_mem_cons.mpr ⟨rfl, List.forall_mem_cons.mpr ⟨rfl, List.forall_mem_cons.mpr ⟨rfl, List.forall_mem_cons.mpr ⟨rfl, List.forall_mem_cons.mpr ⟨rfl, List.forall_mem_cons.mpr ⟨rfl, fun _ h => absurd h List.not_mem_nil⟩⟩⟩⟩⟩⟩) ?_
          exact ih2000 (z1989 + 1) μ2031 T2033 (mF.up (mF.up (mF.call mF.refl F1994 rfl) (A_21 hw) u2020 rfl) A2030 u2032 rfl) (rW (c := 0) (d := 1000) (rAdd (e := 1) (f := 1000) h2002 (rR (x := 1)) rfl) rfl) (PC.keep I1996 hw ((mF.up (mF.up mF.refl (A_21 hw) u2020 rfl) A2030 u2032 rfl) : mF [21006, 200004] w μ1990 μ2031) rfl) (RT.keep I1997 hw ((mF.up (mF.up mF.refl (A_21 hw) u2020 rfl) A2030 u2032 rfl) : mF [21006, 200004] w μ1990 μ2031) rfl) (vc_X1_doActs_W12_13 (nS h1998) h2001 h4 h3 hp2 h2003 h2002) (((W2026.1 h2025) b2028 q2029 A2030) μ2031 u2032 T2033)
        by_cases h2034 : z2022 = 13
        · refine mr_tableIn (pc := 62) (v := 13) (tgt := 196) dX1_doActs_62 h2034 rfl rfl (by decide) ?_
          have h2035 : 13 ≤ z2022 ∧ z2022 ≤ 13 := (vc_X1_doActs_W12_14 h2034 h2025 h2024)
          refine sv_aload_n (pc := 196) dX1_doActs_196 rfl rfl ?_
          refine gf_X1_2 (pc := 197) dX1_doActs_197 wF_X1_25 (A_21 hw) T2021 (RT.keep I1997 hw ((mF.up mF.refl (A_21 hw) u2020 rfl) : mF [21006] w μ1990 μ2019) rfl) fun b2036 q2037 A2038 => ?_
          refine mr_iload (pc := 200) (z := z2010) dX1_doActs_200 rfl ?_
          refine pf_X7_6 (pc := 202) dX1_doActs_202 wF_X1_108 A2038 T2021 (rW (c := (-2147483648)) (d := 2147483647) h2013 rfl) fun μ2039 u2040 T2041 => ?_
          refine sv_goto (pc := 205) (tgt := 260) dX1_doActs_205 (by decide) ?_
          refine mr_iinc (pc := 260) (lv' := [(5, iv (z1989 + 1)), (6, iv z2010), (0, .ref 21), (1, .ref a1), (2, iv p2), (3, iv p3), (4, iv p4)]) dX1_doActs_260 rfl (by decide) rfl ?_
          refine sv_goto (pc := 263) (tgt := 3) dX1_doActs_263 (by decide) ?_
          refine mr_lvS (lv' := [(0, .ref 21), (1, .ref a1), (2, iv p2), (3, iv p3), (4, iv p4), (5, iv (z1989 + 1))]) (List.forall_mem_cons.mpr ⟨rfl, List.forall_mem_cons.mpr ⟨rfl, List.forall_mem_cons.mpr ⟨rfl, List.forall_mem_cons.mpr ⟨rfl, List.forall_mem_cons.mpr ⟨rfl, List.forall_mem_cons.mpr ⟨rfl, fun _ h => absurd h List.not_mem_nil⟩⟩⟩⟩⟩⟩) ?_
          exact ih2000 (z1989 + 1) μ2039 T2041 (mF.up (mF.up (mF.call mF.refl F1994 rfl) (A_21 hw) u2020 rfl) A2038 u2040 rfl) (rW (c := 0) (d := 1000) (rAdd (e := 1) (f := 1000) h2002 (rR (x := 1)) rfl) rfl) (PC.keep I1996 hw ((mF.up (mF.up mF.refl (A_21 hw) u2020 rfl) A2038 u2040 rfl) : mF [21006, 200006] w μ1990 μ2039) rfl) (RT.keep I1997 hw ((mF.up (mF.up mF.refl (A_21 hw) u2020 rfl) A2038 u2040 rfl) : mF [21006, 200006] w μ1990 μ2039) rfl) (vc_X1_doActs_W12_13 (nS h1998) h2001 h4 h3 hp2 h2003 h2002) ((((W2026.2 h2025).1 h2034) b2036 q2037 A2038) μ2039 u2040 T2041)
        by_cases h2042 : z2022 = 14
        · refine mr_tableIn (pc := 62) (v := 14) (tgt := 260) dX1_doActs_62 h2042 rfl rfl (by decide) ?_
          have h2043 : 14 ≤ z2022 ∧ z2022 ≤ 14 := (vc_X1_doActs_W12_15 h2042 h2025 h2034 h2024)
          refine mr_iinc (pc := 260) (lv' := [(5, iv (z1989 + 1)), (6, iv z2010), (0, .ref 21), (1, .ref a1), (2, iv p2), (3, iv p3), (4, iv p4)]) dX1_doActs_260 rfl (by decide) rfl ?_
          refine sv_goto (pc := 263) (tgt := 3) dX1_doActs_263 (by decide) ?_
          refine mr_lvS (lv' := [(0, .ref 21), (1, .ref a1), (2, iv p2), (3, iv p3), (4, iv p4), (5, iv (z1989 + 1))]) (List.forall_mem_cons.mpr ⟨rfl, List.forall_mem_cons.mpr ⟨rfl, List.forall_mem_cons.mpr ⟨rfl, List.forall_mem_cons.mpr ⟨rfl, List.forall_mem_cons.mpr ⟨rfl, List.forall_mem_cons.mpr ⟨rfl, fun _ h => absurd h List.not_mem_nil⟩⟩⟩⟩⟩⟩) ?_
          exact ih2000 (z1989 + 1) μ2019 T2021 (mF.up (mF.call mF.refl F1994 rfl) (A_21 hw) u2020 rfl) (rW (c := 0) (d := 1000) (rAdd (e := 1) (f := 1000) h2002 (rR (x := 1)) rfl) rfl) (PC.keep I1996 hw ((mF.up mF.refl (A_21 hw) u2020 rfl) : mF [21006] w μ1990 μ2019) rfl) (RT.keep I1997 hw ((mF.up mF.refl (A_21 hw) u2020 rfl) : mF [21006] w μ1990 μ2019) rfl) (vc_X1_doActs_W12_13 (nS h1998) h2001 h4 h3 hp2 h2003 h2002) (((W2026.2 h2025).2 h2034).1 h2042)
        by_cases h2044 : z2022 = 15
        · refine mr_tableIn (pc := 62) (v := 15) (tgt := 260) dX1_doActs_62 h2044 rfl rfl (by decide) ?_
          have h2045 : 15 ≤ z2022 ∧ z2022 ≤ 15 := (vc_X1_doActs_W12_16 h2044 h2025 h2034 h2042 h2024)
          refine mr_iinc (pc := 260) (lv' := [(5, iv (z1989 + 1)), (6, iv z2010), (0, .ref 21), (1, .ref a1), (2, iv p2), (3, iv p3), (4, iv p4)]) dX1_doActs_260 rfl (by decide) rfl ?_
          refine sv_goto (pc := 263) (tgt := 3) dX1_doActs_263 (by decide) ?_
          refine mr_lvS (lv' := [(0, .ref 21), (1, .ref a1), (2, iv p2), (3, iv p3), (4, iv p4), (5, iv (z1989 + 1))]) (List.forall_mem_cons.mpr ⟨rfl, List.forall_mem_cons.mpr ⟨rfl, List.forall_mem_cons.mpr ⟨rfl, List.forall_mem_cons.mpr ⟨rfl, List.forall_mem_cons.mpr ⟨rfl, List.forall_mem_cons.mpr ⟨rfl, fun _ h => absurd h List.not_mem_nil⟩⟩⟩⟩⟩⟩) ?_
          exact ih2000 (z1989 + 1) μ2019 T2021 (mF.up (mF.call mF.refl F1994 rfl) (A_21 hw) u2020 rfl) (rW (c := 0) (d := 1000) (rAdd (e := 1) (f := 1000) h2002 (rR (x := 1)) rfl) rfl) (PC.keep I1996 hw ((mF.up mF.refl (A_21 hw) u2020 rfl) : mF [21006] w μ1990 μ2019) rfl) (RT.keep I1997 hw ((mF.up mF.refl (A_21 hw) u2020 rfl) : mF [21006] w μ1990 μ2019) rfl) (vc_X1_doActs_W12_13 (nS h1998) h2001 h4 h3 hp2 h2003 h2002) ((((W2026.2 h2025).2 h2034).2 h2042).1 h2044)
        by_cases h2046 : z2022 = 16
        · refine mr_tableIn (pc := 62) (v := 16) (tgt := 260) dX1_doActs_62 h2046 rfl rfl (by decide) ?_
          have h2047 : 16 ≤ z2022 ∧ z2022 ≤ 16 := (vc_X1_doActs_W12_17 h2046 h2025 h2034 h2042 h2044 h2024)
          refine mr_iinc (pc := 260) (lv' := [(5, iv (z1989 + 1)), (6, iv z2010), (0, .ref 21), (1, .ref a1), (2, iv p2), (3, iv p3), (4, iv p4)]) dX1_doActs_260 rfl (by decide) rfl ?_
          refine sv_goto (pc := 263) (tgt := 3) dX1_doActs_263 (by decide) ?_
          refine mr_lvS (lv' := [(0, .ref 21), (1, .ref a1), (2, iv p2), (3, iv p3), (4, iv p4), (5, iv (z1989 + 1))]) (List.forall_mem_cons.mpr ⟨rfl, List.forall_mem_cons.mpr ⟨rfl, List.forall_mem_cons.mpr ⟨rfl, List.forall_mem_cons.mpr ⟨rfl, List.forall_mem_cons.mpr ⟨rfl, List.forall_mem_cons.mpr ⟨rfl, fun _ h => absurd h List.not_mem_nil⟩⟩⟩⟩⟩⟩) ?_
          exact ih2000 (z1989 + 1) μ2019 T2021 (mF.up (mF.call mF.refl F1994 rfl) (A_21 hw) u2020 rfl) (rW (c := 0) (d := 1000) (rAdd (e := 1) (f := 1000) h2002 (rR (x := 1)) rfl) rfl) (PC.keep I1996 hw ((mF.up mF.refl (A_21 hw) u2020 rfl) : mF [21006] w μ1990 μ2019) rfl) (RT.keep I1997 hw ((mF.up mF.refl (A_21 hw) u2020 rfl) : mF [21006] w μ1990 μ2019) rfl) (vc_X1_doActs_W12_13 (nS h1998) h2001 h4 h3 hp2 h2003 h2002) (((((W2026.2 h2025).2 h2034).2 h2042).2 h2044).1 h2046)
        by_cases h2048 : z2022 = 17
        · refine mr_tableIn (pc := 62) (v := 17) (tgt := 260) dX1_doActs_62 h2048 rfl rfl (by decide) ?_
          have h2049 : 17 ≤ z2022 ∧ z2022 ≤ 17 := (vc_X1_doActs_W12_18 h2048 h2025 h2034 h2042 h2044 h2046 h2024)
          refine mr_iinc (pc := 260) (lv' := [(5, iv (z1989 + 1)), (6, iv z2010), (0, .ref 21), (1, .ref a1), (2, iv p2), (3, iv p3), (4, iv p4)]) dX1_doActs_260 rfl (by decide) rfl ?_
          refine sv_goto (pc := 263) (tgt := 3) dX1_doActs_263 (by decide) ?_
          refine mr_lvS (lv' := [(0, .ref 21), (1, .ref a1), (2, iv p2), (3, iv p3), (4, iv p4), (5, iv (z1989 + 1))]) (List.forall_mem_cons.mpr ⟨rfl, List.forall_mem_cons.mpr ⟨rfl, List.forall_mem_cons.mpr ⟨rfl, List.forall_mem_cons.mpr ⟨rfl, List.forall_mem_cons.mpr ⟨rfl, List.forall_mem_cons.mpr ⟨rfl, fun _ h => absurd h List.not_mem_nil⟩⟩⟩⟩⟩⟩) ?_
          exact ih2000 (z1989 + 1) μ2019 T2021 (mF.up (mF.call mF.refl F1994 rfl) (A_21 hw) u2020 rfl) (rW (c := 0) (d := 1000) (rAdd (e := 1) (f := 1000) h2002 (rR (x := 1)) rfl) rfl) (PC.keep I1996 hw ((mF.up mF.refl (A_21 hw) u2020 rfl) : mF [21006] w μ1990 μ2019) rfl) (RT.keep I1997 hw ((mF.up mF.refl (A_21 hw) u2020 rfl) : mF [21006] w μ1990 μ2019) rfl) (vc_X1_doActs_W12_13 (nS h1998) h2001 h4 h3 hp2 h2003 h2002) ((((((W2026.2 h2025).2 h2034).2 h2042).2 h2044).2 h2046).1 h2048)
        have W2051 := ((((((W2026.2 h2025).2 h2034).2 h2042).2 h2044).2 h2046).2 h2048)
        by_cases h2050 : z2022 = 18
        · refine mr_tableIn (pc := 62) (v := 18) (tgt := 260) dX1_doActs_62 h2050 rfl rfl (by decide) ?_
          have h2052 : 18 ≤ z2022 ∧ z2022 ≤ 18 := (vc_X1_doActs_W12_19 h2050 h2025 h2034 h2042 h2044 h2046 h2048 h2024)
          refine mr_iinc (pc := 260) (lv' := [(5, iv (z1989 + 1)), (6, iv z2010), (0, .ref 21), (1, .ref a1), (2, iv p2), (3, iv p3), (4, iv p4)]) dX1_doActs_260 rfl (by decide) rfl ?_
          refine sv_goto (pc := 263) (tgt := 3) dX1_doActs_263 (by decide) ?_
          refine mr_lvS (lv' := [(0, .ref 21), (1, .ref a1), (2, iv p2), (3, iv p3), (4, iv p4), (5, iv (z1989 + 1))]) (List.forall_mem_cons.mpr ⟨rfl, List.forall_mem_cons.mpr ⟨rfl, List.forall_mem_cons.mpr ⟨rfl, List.forall_mem_cons.mpr ⟨rfl, List.forall_mem_cons.mpr ⟨rfl, List.forall_mem_cons.mpr ⟨rfl, fun _ h => absurd h List.not_mem_nil⟩⟩⟩⟩⟩⟩) ?_
          exact ih2000 (z1989 + 1) μ2019 T2021 (mF.up (mF.call mF.refl F1994 rfl) (A_21 hw) u2020 rfl) (rW (c := 0) (d := 1000) (rAdd (e := 1) (f := 1000) h2002 (rR (x := 1)) rfl) rfl) (PC.keep I1996 hw ((mF.up mF.refl (A_21 hw) u2020 rfl) : mF [21006] w μ1990 μ2019) rfl) (RT.keep I1997 hw ((mF.up mF.refl (A_21 hw) u2020 rfl) : mF [21006] w μ1990 μ2019) rfl) (vc_X1_doActs_W12_13 (nS h1998) h2001 h4 h3 hp2 h2003 h2002) (W2051.1 h2050)
        by_cases h2053 : z2022 = 19
        · refine mr_tableIn (pc := 62) (v := 19) (tgt := 260) dX1_doActs_62 h2053 rfl rfl (by decide) ?_
          have h2054 : 19 ≤ z2022 ∧ z2022 ≤ 19 := (vc_X1_doActs_W12_20 h2053 h2025 h2034 h2042 h2044 h2046 h2048 h2050 h2024)
          refine mr_iinc (pc := 260) (lv' := [(5, iv (z1989 + 1)), (6, iv z2010), (0, .ref 21), (1, .ref a1), (2, iv p2), (3, iv p3), (4, iv p4)]) dX1_doActs_260 rfl (by decide) rfl ?_
          refine sv_goto (pc := 263) (tgt := 3) dX1_doActs_263 (by decide) ?_
          refine mr_lvS (lv' := [(0, .ref 21), (1, .ref a1), (2, iv p2), (3, iv p3), (4, iv p4), (5, iv (z1989 + 1))]) (List.forall_mem_cons.mpr ⟨rfl, List.forall_mem_cons.mpr ⟨rfl, List.forall_mem_cons.mpr ⟨rfl, List.forall_mem_cons.mpr ⟨rfl, List.forall_mem_cons.mpr ⟨rfl, List.forall_mem_cons.mpr ⟨rfl, fun _ h => absurd h List.not_mem_nil⟩⟩⟩⟩⟩⟩) ?_
          exact ih2000 (z1989 + 1) μ2019 T2021 (mF.up (mF.call mF.refl F1994 rfl) (A_21 hw) u2020 rfl) (rW (c := 0) (d := 1000) (rAdd (e := 1) (f := 1000) h2002 (rR (x := 1)) rfl) rfl) (PC.keep I1996 hw ((mF.up mF.refl (A_21 hw) u2020 rfl) : mF [21006] w μ1990 μ2019) rfl) (RT.keep I1997 hw ((mF.up mF.refl (A_21 hw) u2020 rfl) : mF [21006] w μ1990 μ2019) rfl) (vc_X1_doActs_W12_13 (nS h1998) h2001 h4 h3 hp2 h2003 h2002) ((W2051.2 h2050).1 h2053)
        by_cases h2055 : z2022 = 20
        · refine mr_tableIn (pc := 62) (v := 20) (tgt := 260) dX1_doActs_62 h2055 rfl rfl (by decide) ?_
          have h2056 : 20 ≤ z2022 ∧ z2022 ≤ 20 := (vc_X1_doActs_W12_21 h2055 h2034 h2042 h2044 h2046 h2048 h2050 h2053 h2024)
          refine mr_iinc (pc := 260) (lv' := [(5, iv (z1989 + 1)), (6, iv z2010), (0, .ref 21), (1, .ref a1), (2, iv p2), (3, iv p3), (4, iv p4)]) dX1_doActs_260 rfl (by decide) rfl ?_
          refine sv_goto (pc := 263) (tgt := 3) dX1_doActs_263 (by decide) ?_
          refine mr_lvS (lv' := [(0, .ref 21), (1, .ref a1), (2, iv p2), (3, iv p3), (4, iv p4), (5, iv (z1989 + 1))]) (List.forall_mem_cons.mpr ⟨rfl, List.forall_mem_cons.mpr ⟨rfl, List.forall_mem_cons.mpr ⟨rfl, List.forall_mem_cons.mpr ⟨rfl, List.forall_mem_cons.mpr ⟨rfl, List.forall_mem_cons.mpr ⟨rfl, fun _ h => absurd h List.not_mem_nil⟩⟩⟩⟩⟩⟩) ?_
          exact ih2000 (z1989 + 1) μ2019 T2021 (mF.up (mF.call mF.refl F1994 rfl) (A_21 hw) u2020 rfl) (rW (c := 0) (d := 1000) (rAdd (e := 1) (f := 1000) h2002 (rR (x := 1)) rfl) rfl) (PC.keep I1996 hw ((mF.up mF.refl (A_21 hw) u2020 rfl) : mF [21006] w μ1990 μ2019) rfl) (RT.keep I1997 hw ((mF.up mF.refl (A_21 hw) u2020 rfl) : mF [21006] w μ1990 μ2019) rfl) (vc_X1_doActs_W12_13 (nS h1998) h2001 h4 h3 hp2 h2003 h2002) (((W2051.2 h2050).2 h2053).1 h2055)
        by_cases h2057 : z2022 = 21
        · refine mr_tableIn (pc := 62) (v := 21) (tgt := 260) dX1_doActs_62 h2057 rfl rfl (by decide) ?_
          have h2058 : 21 ≤ z2022 ∧ z2022 ≤ 21 := (vc_X1_doActs_W12_22 h2057 h2042 h2044 h2046 h2048 h2050 h2053 h2055 h2024)
          refine mr_iinc (pc := 260) (lv' := [(5, iv (z1989 + 1)), (6, iv z2010), (0, .ref 21), (1, .ref a1), (2, iv p2), (3, iv p3), (4, iv p4)]) dX1_doActs_260 rfl (by decide) rfl ?_
          refine sv_goto (pc := 263) (tgt := 3) dX1_doActs_263 (by decide) ?_
          refine mr_lvS (lv' := [(0, .ref 21), (1, .ref a1), (2, iv p2), (3, iv p3), (4, iv p4), (5, iv (z1989 + 1))]) (List.forall_mem_cons.mpr ⟨rfl, List.forall_mem_cons.mpr ⟨rfl, List.forall_mem_cons.mpr ⟨rfl, List.forall_mem_cons.mpr ⟨rfl, List.forall_mem_cons.mpr ⟨rfl, List.forall_mem_cons.mpr ⟨rfl, fun _ h => absurd h List.not_mem_nil⟩⟩⟩⟩⟩⟩) ?_
          exact ih2000 (z1989 + 1) μ2019 T2021 (mF.up (mF.call mF.refl F1994 rfl) (A_21 hw) u2020 rfl) (rW (c := 0) (d := 1000) (rAdd (e := 1) (f := 1000) h2002 (rR (x := 1)) rfl) rfl) (PC.keep I1996 hw ((mF.up mF.refl (A_21 hw) u2020 rfl) : mF [21006] w μ1990 μ2019) rfl) (RT.keep I1997 hw ((mF.up mF.refl (A_21 hw) u2020 rfl) : mF [21006] w μ1990 μ2019) rfl) (vc_X1_doActs_W12_13 (nS h1998) h2001 h4 h3 hp2 h2003 h2002) ((((W2051.2 h2050).2 h2053).2 h2055).1 h2057)
        by_cases h2059 : z2022 = 22
        · refine mr_tableIn (pc := 62) (v := 22) (tgt := 260) dX1_doActs_62 h2059 rfl rfl (by decide) ?_
          have h2060 : 22 ≤ z2022 ∧ z2022 ≤ 22 := (vc_X1_doActs_W12_23 h2059 h2044 h2046 h2048 h2050 h2053 h2055 h2057 h2024)
          refine mr_iinc (pc := 260) (lv' := [(5, iv (z1989 + 1)), (6, iv z2010), (0, .ref 21), (1, .ref a1), (2, iv p2), (3, iv p3), (4, iv p4)]) dX1_doActs_260 rfl (by decide) rfl ?_
          refine sv_goto (pc := 263) (tgt := 3) dX1_doActs_263 (by decide) ?_
          refine mr_lvS (lv' := [(0, .ref 21), (1, .ref a1), (2, iv p2), (3, iv p3), (4, iv p4), (5, iv (z1989 + 1))]) (List.forall_mem_cons.mpr ⟨rfl, List.forall_mem_cons.mpr ⟨rfl, List.forall_mem_cons.mpr ⟨rfl, List.forall_mem_cons.mpr ⟨rfl, List.forall_mem_cons.mpr ⟨rfl, List.forall_mem_cons.mpr ⟨rfl, fun _ h => absurd h List.not_mem_nil⟩⟩⟩⟩⟩⟩) ?_
          exact ih2000 (z1989 + 1) μ2019 T2021 (mF.up (mF.call mF.refl F1994 rfl) (A_21 hw) u2020 rfl) (rW (c := 0) (d := 1000) (rAdd (e := 1) (f := 1000) h2002 (rR (x := 1)) rfl) rfl) (PC.keep I1996 hw ((mF.up mF.refl (A_21 hw) u2020 rfl) : mF [21006] w μ1990 μ2019) rfl) (RT.keep I1997 hw ((mF.up mF.refl (A_21 hw) u2020 rfl) : mF [21006] w μ1990 μ2019) rfl) (vc_X1_doActs_W12_13 (nS h1998) h2001 h4 h3 hp2 h2003 h2002) (((((W2051.2 h2050).2 h2053).2 h2055).2 h2057).1 h2059)
        by_cases h2061 : z2022 = 23
        · refine mr_tableIn (pc := 62) (v := 23) (tgt := 144) dX1_doActs_62 h2061 rfl rfl (by decide) ?_
          have h2062 : 23 ≤ z2022 ∧ z2022 ≤ 23 := (vc_X1_doActs_W12_24 h2061 h2046 h2048 h2050 h2053 h2055 h2057 h2059 h2024)
          refine sv_aload_n (pc := 144) dX1_doActs_144 rfl rfl ?_
          refine mr_iconst (pc := 145) (z := 1) dX1_doActs_145 ?_
          refine pf_X1_7 (pc := 146) dX1_doActs_146 wF_X1_50 (A_21 hw) T2021 (rW (c := 0) (d := 2) (rR (x := 1)) rfl) fun μ2063 u2064 T2065 => ?_
          refine sv_goto (pc := 149) (tgt := 260) dX1_doActs_149 (by decide) ?_
          refine mr_iinc (pc := 260) (lv' := [(5, iv (z1989 + 1)), (6, iv z2010), (0, .ref 21), (1, .ref a1), (2, iv p2), (3, iv p3), (4, iv p4)]) dX1_doActs_260 rfl (by decide) rfl ?_
          refine sv_goto (pc := 263) (tgt := 3) dX1_doActs_263 (by decide) ?_
          refine mr_lvS (lv' := [(0, .ref 21), (1, .ref a1), (2, iv p2), (3, iv p3), (4, iv p4), (5, iv (z1989 + 1))]) (List.forall_mem_cons.mpr ⟨rfl, List.forall_mem_cons.mpr ⟨rfl, List.forall_mem_cons.mpr ⟨rfl, List.forall_mem_cons.mpr ⟨rfl, List.forall_mem_cons.mpr ⟨rfl, List.forall_mem_cons.mpr ⟨rfl, fun _ h => absurd h List.not_mem_nil⟩⟩⟩⟩⟩⟩) ?_
          exact ih2000 (z1989 + 1) μ2063 T2065 (mF.up (mF.up (mF.call mF.refl F1994 rfl) (A_21 hw) u2020 rfl) (A_21 hw) u2064 rfl) (rW (c := 0) (d := 1000) (rAdd (e := 1) (f := 1000) h2002 (rR (x := 1)) rfl) rfl) (PC.keep I1996 hw ((mF.up (mF.up mF.refl (A_21 hw) u2020 rfl) (A_21 hw) u2064 rfl) : mF [21006, 21007] w μ1990 μ2063) rfl) (RT.keep I1997 hw ((mF.up (mF.up mF.refl (A_21 hw) u2020 rfl) (A_21 hw) u2064 rfl) : mF [21006, 21007] w μ1990 μ2063) rfl) (vc_X1_doActs_W12_13 (nS h1998) h2001 h4 h3 hp2 h2003 h2002) (((((((W2051.2 h2050).2 h2053).2 h2055).2 h2057).2 h2059).1 h2061) μ2063 u2064 T2065)
        have W2067 := ((((((W2051.2 h2050).2 h2053).2 h2055).2 h2057).2 h2059).2 h2061)
        by_cases h2066 : z2022 = 24
        · refine mr_tableIn (pc := 62) (v := 24) (tgt := 152) dX1_doActs_62 h2066 rfl rfl (by decide) ?_
          have h2068 : 24 ≤ z2022 ∧ z2022 ≤ 24 := (vc_X1_doActs_W12_25 h2066 h2048 h2050 h2053 h2055 h2057 h2059 h2061 h2024)
          refine sv_aload_n (pc := 152) dX1_doActs_152 rfl rfl ?_
          refine mr_iconst (pc := 153) (z := 2) dX1_doActs_153 ?_
          refine pf_X1_7 (pc := 154) dX1_doActs_154 wF_X1_50 (A_21 hw) T2021 (rW (c := 0) (d := 2) (rR (x := 2)) rfl) fun μ2069 u2070 T2071 => ?_
          refine sv_goto (pc := 157) (tgt := 260) dX1_doActs_157 (by decide) ?_
          refine mr_iinc (pc := 260) (lv' := [(5, iv (z1989 + 1)), (6, iv z2010), (0, .ref 21), (1, .ref a1), (2, iv p2), (3, iv p3), (4, iv p4)]) dX1_doActs_260 rfl (by decide) rfl ?_
          refine sv_goto (pc := 263) (tgt := 3) dX1_doActs_263 (by decide) ?_
          refine mr_lvS (lv' := [(0, .ref 21), (1, .ref a1), (2, iv p2), (3, iv p3), (4, iv p4), (5, iv (z1989 + 1))]) (List.forall_mem_cons.mpr ⟨rfl, List.forall_mem_cons.mpr ⟨rfl, List.forall_mem_cons.mpr ⟨rfl, List.forall_mem_cons.mpr ⟨rfl, List.forall_mem_cons.mpr ⟨rfl, List.forall_mem_cons.mpr ⟨rfl, fun _ h => absurd h List.not_mem_nil⟩⟩⟩⟩⟩⟩) ?_
          exact ih2000 (z1989 + 1) μ2069 T2071 (mF.up (mF.up (mF.call mF.refl F1994 rfl) (A_21 hw) u2020 rfl) (A_21 hw) u2070 rfl) (rW (c := 0) (d := 1000) (rAdd (e := 1) (f := 1000) h2002 (rR (x := 1)) rfl) rfl) (PC.keep I1996 hw ((mF.up (mF.up mF.refl (A_21 hw) u2020 rfl) (A_21 hw) u2070 rfl) : mF [21006, 21007] w μ1990 μ2069) rfl) (RT.keep I1997 hw ((mF.up (mF.up mF.refl (A_21 hw) u2020 rfl) (A_21 hw) u2070 rfl) : mF [21006, 21007] w μ1990 μ2069) rfl) (vc_X1_doActs_W12_13 (nS h1998) h2001 h4 h3 hp2 h2003 h2002) ((W2067.1 h2066) μ2069 u2070 T2071)
        by_cases h2072 : z2022 = 25
        · refine mr_tableIn (pc := 62) (v := 25) (tgt := 160) dX1_doActs_62 h2072 rfl rfl (by decide) ?_
          have h2073 : 25 ≤ z2022 ∧ z2022 ≤ 25 := (vc_X1_doActs_W12_26 h2072 h2050 h2053 h2055 h2057 h2059 h2061 h2066 h2024)
          refine sv_aload_n (pc := 160) dX1_doActs_160 rfl rfl ?_
          refine gf_X1_2 (pc := 161) dX1_doActs_161 wF_X1_25 (A_21 hw) T2021 (RT.keep I1997 hw ((mF.up mF.refl (A_21 hw) u2020 rfl) : mF [21006] w μ1990 μ2019) rfl) fun b2074 q2075 A2076 => ?_
          refine mr_iload (pc := 164) (z := z2010) dX1_doActs_164 rfl ?_
          refine mr_cVV (pc := 166) (c_X7_addMark_W hw T2021 A2076 (rW (c := (-2147483648)) (d := 2147483647) h2013 rfl) (((W2067.2 h2066).1 h2072) b2074 q2075 A2076)) (gOk _ _ _ _ _) dX1_doActs_166 (tX7_addMark _ _ _ _ _) ⟨wV_X7_addMark, wL_X7_addMark⟩ wM_X1_124 (gCX7 _ _ _ _ _) rfl A2076 rfl ⟨le_t rfl, le_t rfl⟩ ⟨le_t rfl, le_t rfl⟩ rfl (le_t rfl) fun μ2077 T2078 F2079 h2080 => ?_
          refine sv_goto (pc := 169) (tgt := 260) dX1_doActs_169 (by decide) ?_
          refine mr_iinc (pc := 260) (lv' := [(5, iv (z1989 + 1)), (6, iv z2010), (0, .ref 21), (1, .ref a1), (2, iv p2), (3, iv p3), (4, iv p4)]) dX1_doActs_260 rfl (by decide) rfl ?_
          refine sv_goto (pc := 263) (tgt := 3) dX1_doActs_263 (by decide) ?_
          refine mr_lvS (lv' := [(0, .ref 21), (1, .ref a1), (2, iv p2), (3, iv p3), (4, iv p4), (5, iv (z1989 + 1))]) (List.forall_mem_cons.mpr ⟨rfl, List.forall_mem_cons.mpr ⟨rfl, List.forall_mem_cons.mpr ⟨rfl, List.forall_mem_cons.mpr ⟨rfl, List.forall_mem_cons.mpr ⟨rfl, List.forall_mem_cons.mpr ⟨rfl, fun _ h => absurd h List.not_mem_nil⟩⟩⟩⟩⟩⟩) ?_
          exact ih2000 (z1989 + 1) μ2077 T2078 (mF.call (mF.up (mF.call mF.refl F1994 rfl) (A_21 hw) u2020 rfl) F2079 rfl) (rW (c := 0) (d := 1000) (rAdd (e := 1) (f := 1000) h2002 (rR (x := 1)) rfl) rfl) (PC.keep I1996 hw ((mF.call (mF.up mF.refl (A_21 hw) u2020 rfl) F2079 rfl) : mF [21006, 200008, 202999] w μ1990 μ2077) rfl) (RT.keep I1997 hw ((mF.call (mF.up mF.refl (A_21 hw) u2020 rfl) F2079 rfl) : mF [21006, 200008, 202999] w μ1990 μ2077) rfl) (vc_X1_doActs_W12_13 (nS h1998) h2001 h4 h3 hp2 h2003 h2002) (h2080.1 T2078 F2079)
        by_cases h2081 : z2022 = 26
        · refine mr_tableIn (pc := 62) (v := 26) (tgt := 172) dX1_doActs_62 h2081 rfl rfl (by decide) ?_
          have h2082 : 26 ≤ z2022 ∧ z2022 ≤ 26 := (vc_X1_doActs_W12_27 h2081 h2053 h2055 h2057 h2059 h2061 h2066 h2072 h2024)
          refine sv_aload_n (pc := 172) dX1_doActs_172 rfl rfl ?_
          refine gf_X1_2 (pc := 173) dX1_doActs_173 wF_X1_25 (A_21 hw) T2021 (RT.keep I1997 hw ((mF.up mF.refl (A_21 hw) u2020 rfl) : mF [21006] w μ1990 μ2019) rfl) fun b2083 q2084 A2085 => ?_
          refine mr_iload (pc := 176) (z := z2010) dX1_doActs_176 rfl ?_
          refine mr_cVV (pc := 178) (c_X7_dropMark_W hw T2021 A2085 (rW (c := (-2147483648)) (d := 2147483647) h2013 rfl) ((((W2067.2 h2066).2 h2072).1 h2081) b2083 q2084 A2085)) (gOk _ _ _ _ _) dX1_doActs_178 (tX7_dropMark _ _ _ _ _) ⟨wV_X7_dropMark, wL_X7_dropMark⟩ wM_X1_128 (gCX7 _ _ _ _ _) rfl A2085 rfl ⟨le_t rfl, le_t rfl⟩ ⟨le_t rfl, le_t rfl⟩ rfl (le_t rfl) fun μ2086 T2087 F2088 h2089 => ?_
          refine sv_goto (pc := 181) (tgt := 260) dX1_doActs_181 (by decide) ?_
          refine mr_iinc (pc := 260) (lv' := [(5, iv (z1989 + 1)), (6, iv z2010), (0, .ref 21), (1, .ref a1), (2, iv p2), (3, iv p3), (4, iv p4)]) dX1_doActs_260 rfl (by decide) rfl ?_
          refine sv_goto (pc := 263) (tgt := 3) dX1_doActs_263 (by decide) ?_
          refine mr_lvS (lv' := [(0, .ref 21), (1, .ref a1), (2, iv p2), (3, iv p3), (4, iv p4), (5, iv (z1989 + 1))]) (List.forall_mem_cons.mpr ⟨rfl, List.forall_mem_cons.mpr ⟨rfl, List.forall_mem_cons.mpr ⟨rfl, List.forall_mem_cons.mpr ⟨rfl, List.forall_mem_cons.mpr ⟨rfl, List.forall_mem_cons.mpr ⟨rfl, fun _ h => absurd h List.not_mem_nil⟩⟩⟩⟩⟩⟩) ?_
          exact ih2000 (z1989 + 1) μ2086 T2087 (mF.call (mF.up (mF.call mF.refl F1994 rfl) (A_21 hw) u2020 rfl) F2088 rfl) (rW (c := 0) (d := 1000) (rAdd (e := 1) (f := 1000) h2002 (rR (x := 1)) rfl) rfl) (PC.keep I1996 hw ((mF.call (mF.up mF.refl (A_21 hw) u2020 rfl) F2088 rfl) : mF [21006, 200008, 202999] w μ1990 μ2086) rfl) (RT.keep I1997 hw ((mF.call (mF.up mF.refl (A_21 hw) u2020 rfl) F2088 rfl) : mF [21006, 200008, 202999] w μ1990 μ2086) rfl) (vc_X1_doActs_W12_13 (nS h1998) h2001 h4 h3 hp2 h2003 h2002) (h2089.1 T2087 F2088)
        by_cases h2090 : z2022 = 27
        · refine mr_tableIn (pc := 62) (v := 27) (tgt := 208) dX1_doActs_62 h2090 rfl rfl (by decide) ?_
          have h2091 : 27 ≤ z2022 ∧ z2022 ≤ 27 := (vc_X1_doActs_W12_28 h2090 h2055 h2057 h2059 h2061 h2066 h2072 h2081 h2024)
          refine sv_aload_n (pc := 208) dX1_doActs_208 rfl rfl ?_
          refine gf_X1_2 (pc := 209) dX1_doActs_209 wF_X1_25 (A_21 hw) T2021 (RT.keep I1997 hw ((mF.up mF.refl (A_21 hw) u2020 rfl) : mF [21006] w μ1990 μ2019) rfl) fun b2092 q2093 A2094 => ?_
          refine gf_X7_7 (pc := 212) dX1_doActs_212 wF_X1_96 A2094 T2021 fun z2095 q2096 h2097 => ?_
          have J2120 : ∀ (μ2114 : mM), (mT w μ2114) → (mF [21007, 200007, 201999] w μ2019 μ2114) → (PC w μ2114) → (RT μ2114) → ((WJ_X1_doActs_W12_2 w (loopF (WL_X1_doActs_W12_1 w μ a1 p2 p3 p4 Q) False nL1991) z1989 μ2019) μ2114) → sV (gG l D c H0 sa) mX1_doActs (sRm 4 0 0) (sZ (gG l D c H0 sa) 0 0 (qV w [21006, 21007, 200004, 200006, 200007, 200008, 201999, 202999] μ (fun μ1 => Q μ1 ∧ True))) 260 [(0, .ref 21), (1, .ref a1), (2, iv p2), (3, iv p3), (4, iv p4), (5, iv z1989)] [] (mk w μ2114) 0 0 := by
            intro μ2114 T2115 F2116 I2118 I2119 W2121
            refine mr_iinc (pc := 260) (lv' := [(5, iv (z1989 + 1)), (0, .ref 21), (1, .ref a1), (2, iv p2), (3, iv p3), (4, iv p4)]) dX1_doActs_260 rfl (by decide) rfl ?_
            refine sv_goto (pc := 263) (tgt := 3) dX1_doActs_263 (by decide) ?_
            refine mr_lvS (lv' := [(0, .ref 21), (1, .ref a1), (2, iv p2), (3, iv p3), (4, iv p4), (5, iv (z1989 + 1))]) (List.forall_mem_cons.mpr ⟨rfl, List.forall_mem_cons.mpr ⟨rfl, List.forall_mem_cons.mpr ⟨rfl, List.forall_mem_cons.mpr ⟨rfl, List.forall_mem_cons.mpr ⟨rfl, List.forall_mem_cons.mpr ⟨rfl, fun _ h => absurd h List.not_mem_nil⟩⟩⟩⟩⟩⟩) ?_
            exact ih2000 (z1989 + 1) μ2114 T2115 (mF.call (mF.up (mF.call mF.refl F1994 rfl) (A_21 hw) u2020 rfl) F2116 rfl) (rW (c := 0) (d := 1000) (rAdd (e := 1) (f := 1000) h2002 (rR (x := 1)) rfl) rfl) I2118 I2119 (vc_X1_doActs_W12_13 (nS h1998) h2001 h4 h3 hp2 h2003 h2002) (W2121 T2115 F2116)
          refine mr_if_le (pc := 215) (tgt := 260) dX1_doActs_215 (by decide) (r32 h2097 rfl) (fun h2122 => ?_) (fun h2122 => ?_)
          · have h2123 : 0 ≤ z2095 ∧ z2095 ≤ 0 := (vc_X12_write_57 h2122 h2097)
            refine mr_lvS (lv' := [(0, .ref 21), (1, .ref a1), (2, iv p2), (3, iv p3), (4, iv p4), (5, iv z1989)]) (List.forall_mem_cons.mpr ⟨rfl, List.forall_mem_cons.mpr ⟨rfl, List.forall_mem_cons.mpr ⟨rfl, List.forall_mem_cons.mpr ⟨rfl, List.forall_mem_cons.mpr ⟨rfl, List.forall_mem_cons.mpr ⟨rfl, fun _ h => absurd h List.not_mem_nil⟩⟩⟩⟩⟩⟩) ?_
            exact J2120 μ2019 T2021 mF.refl (PC.keep I1996 hw ((mF.up mF.refl (A_21 hw) u2020 rfl) : mF [21006] w μ1990 μ2019) rfl) (RT.keep I1997 hw ((mF.up mF.refl (A_21 hw) u2020 rfl) : mF [21006] w μ1990 μ2019) rfl) (((((((W2067.2 h2066).2 h2072).2 h2081).1 h2090) b2092 q2093 A2094) z2095 q2096 h2097).1 h2122)
          have h2124 : 1 ≤ z2095 ∧ z2095 ≤ 20 := (vc_X12_write_59 h2122 h2097)
          refine sv_aload_n (pc := 218) dX1_doActs_218 rfl rfl ?_
          refine gk_X1_2 (pc := 219) dX1_doActs_219 wF_X1_25 (A_21 hw) q2093 ?_
          refine sv_aload_n (pc := 222) dX1_doActs_222 rfl rfl ?_
          refine gk_X1_2 (pc := 223) dX1_doActs_223 wF_X1_25 (A_21 hw) q2093 ?_
          refine gf_X7_0 (pc := 226) dX1_doActs_226 wF_X1_114 A2094 T2021 fun A2125 => ?_
          refine mr_iconst (pc := 229) (z := 0) dX1_doActs_229 ?_
          refine la_201 (pc := 230) dX1_doActs_230 A2125 T2021 (rIx (n := 20) (rR (x := 0)) rfl) fun z2126 q2127 h2128 => ?_
          refine mr_iload (pc := 231) (z := z2010) dX1_doActs_231 rfl ?_
          have W2134 := ((((((((W2067.2 h2066).2 h2072).2 h2081).1 h2090) b2092 q2093 A2094) z2095 q2096 h2097).2 h2122) z2126 q2127 h2128)
          refine mr_cVI (pc := 233) (c_X7_putInFront_W hw T2021 A2094 h2128 (rW (c := (-2147483648)) (d := 1000000) h2013 rfl) W2134) (gOk _ _ _ _ _) dX1_doActs_233 (tX7_putInFront _ _ _ _ _) ⟨wV_X7_putInFront, wL_X7_putInFront⟩ wM_X1_131 (gCX7 _ _ _ _ _) rfl A2094 rfl ⟨le_t rfl, le_t rfl⟩ ⟨le_t rfl, le_t rfl⟩ rfl (le_t rfl) fun z2133 μ2129 T2130 F2131 h2132 => ?_
          refine mr_if_ne (pc := 236) (tgt := 260) dX1_doActs_236 (by decide) (r32 h2132.1 rfl) (fun h2135 => ?_) (fun h2135 => ?_)
          · have h2136 : 1 ≤ z2133 ∧ z2133 ≤ 1 := (vc_X12_ring_24 h2135 h2132.1)
            refine mr_lvS (lv' := [(0, .ref 21), (1, .ref a1), (2, iv p2), (3, iv p3), (4, iv p4), (5, iv z1989)]) (List.forall_mem_cons.mpr ⟨rfl, List.forall_mem_cons.mpr ⟨rfl, List.forall_mem_cons.mpr ⟨rfl, List.forall_mem_cons.mpr ⟨rfl, List.forall_mem_cons.mpr ⟨rfl, List.forall_mem_cons.mpr ⟨rfl, fun _ h => absurd h List.not_mem_nil⟩⟩⟩⟩⟩⟩) ?_
            exact J2120 μ2129 T2130 (mF.call mF.refl F2131 rfl) (PC.keep I1996 hw ((mF.call (mF.up mF.refl (A_21 hw) u2020 rfl) F2131 rfl) : mF [21006, 200007, 201999] w μ1990 μ2129) rfl) (RT.keep I1997 hw ((mF.call (mF.up mF.refl (A_21 hw) u2020 rfl) F2131 rfl) : mF [21006, 200007, 201999] w μ1990 μ2129) rfl) (((h2132.2.1 T2130 F2131) h2132.1).1 h2135)
          have h2137 : 0 ≤ z2133 ∧ z2133 ≤ 0 := (vc_X12_ring_22 h2135 h2132.1)
          refine sv_aload_n (pc := 239) dX1_doActs_239 rfl rfl ?_
          refine mr_iconst (pc := 240) (z := 2) dX1_doActs_240 ?_
          refine pf_X1_7 (pc := 241) dX1_doActs_241 wF_X1_50 (A_21 hw) T2130 (rW (c := 0) (d := 2) (rR (x := 2)) rfl) fun μ2138 u2139 T2140 => ?_
          refine sv_goto (pc := 244) (tgt := 260) dX1_doActs_244 (by decide) ?_
          refine mr_lvS (lv' := [(0, .ref 21), (1, .ref a1), (2, iv p2), (3, iv p3), (4, iv p4), (5, iv z1989)]) (List.forall_mem_cons.mpr ⟨rfl, List.forall_mem_cons.mpr ⟨rfl, List.forall_mem_cons.mpr ⟨rfl, List.forall_mem_cons.mpr ⟨rfl, List.forall_mem_cons.mpr ⟨rfl, List.forall_mem_cons.mpr ⟨rfl, fun _ h => absurd h List.not_mem_nil⟩⟩⟩⟩⟩⟩) ?_
          exact J2120 μ2138 T2140 (mF.up (mF.call mF.refl F2131 rfl) (A_21 hw) u2139 rfl) (PC.keep I1996 hw ((mF.up (mF.call (mF.up mF.refl (A_21 hw) u2020 rfl) F2131 rfl) (A_21 hw) u2139 rfl) : mF [21006, 21007, 200007, 201999] w μ1990 μ2138) rfl) (RT.keep I1997 hw ((mF.up (mF.call (mF.up mF.refl (A_21 hw) u2020 rfl) F2131 rfl) (A_21 hw) u2139 rfl) : mF [21006, 21007, 200007, 201999] w μ1990 μ2138) rfl) ((((h2132.2.1 T2130 F2131) h2132.1).2 h2135) μ2138 u2139 T2140)
        by_cases h2141 : z2022 = 28
        · refine mr_tableIn (pc := 62) (v := 28) (tgt := 247) dX1_doActs_62 h2141 rfl rfl (by decide) ?_
          have h2142 : 28 ≤ z2022 ∧ z2022 ≤ 28 := (vc_X1_doActs_W12_33 h2141 h2057 h2059 h2061 h2066 h2072 h2081 h2090 h2024)
          refine sv_aload_n (pc := 247) dX1_doActs_247 rfl rfl ?_
          refine mr_iload (pc := 248) (z := z2010) dX1_doActs_248 rfl ?_
          refine mr_iload (pc := 250) (z := p4) dX1_doActs_250 rfl ?_
          refine mr_iconst (pc := 252) (z := 1) dX1_doActs_252 ?_
          refine mr_iadd (pc := 253) (x := p4) (y := 1) dX1_doActs_253 ?_
          refine mr_cVV (pc := 254) (c_X1_goThrough_W13 hw T2021 (rW (c := (-2147483648)) (d := 2147483647) h2013 rfl) (rAdd (e := 13) (f := 13) hp4 (rR (x := 1)) rfl) (PC.keep I1996 hw ((mF.up mF.refl (A_21 hw) u2020 rfl) : mF [21006] w μ1990 μ2019) rfl) (RT.keep I1997 hw ((mF.up mF.refl (A_21 hw) u2020 rfl) : mF [21006] w μ1990 μ2019) rfl) (((((W2067.2 h2066).2 h2072).2 h2081).2 h2090).1 h2141)) (gOk _ _ _ _ _) dX1_doActs_254 (tX1_goThrough _ _ _ _ _) ⟨wV_X1_goThrough, wL_X1_goThrough⟩ wM_X1_53 (gCX1 _ _ _ _ _) rfl (A_21 hw) rfl ⟨le_t rfl, le_t rfl⟩ ⟨le_t rfl, le_t rfl⟩ rfl (le_t rfl) fun μ2143 T2144 F2145 h2146 => ?_
          refine sv_goto (pc := 257) (tgt := 260) dX1_doActs_257 (by decide) ?_
          refine mr_iinc (pc := 260) (lv' := [(5, iv (z1989 + 1)), (6, iv z2010), (0, .ref 21), (1, .ref a1), (2, iv p2), (3, iv p3), (4, iv p4)]) dX1_doActs_260 rfl (by decide) rfl ?_
          refine sv_goto (pc := 263) (tgt := 3) dX1_doActs_263 (by decide) ?_
          refine mr_lvS (lv' := [(0, .ref 21), (1, .ref a1), (2, iv p2), (3, iv p3), (4, iv p4), (5, iv (z1989 + 1))]) (List.forall_mem_cons.mpr ⟨rfl, List.forall_mem_cons.mpr ⟨rfl, List.forall_mem_cons.mpr ⟨rfl, List.forall_mem_cons.mpr ⟨rfl, List.forall_mem_cons.mpr ⟨rfl, List.forall_mem_cons.mpr ⟨rfl, fun _ h => absurd h List.not_mem_nil⟩⟩⟩⟩⟩⟩) ?_
          exact ih2000 (z1989 + 1) μ2143 T2144 (mF.call (mF.up (mF.call mF.refl F1994 rfl) (A_21 hw) u2020 rfl) F2145 rfl) (rW (c := 0) (d := 1000) (rAdd (e := 1) (f := 1000) h2002 (rR (x := 1)) rfl) rfl) (PC.keep I1996 hw ((mF.call (mF.up mF.refl (A_21 hw) u2020 rfl) F2145 rfl) : mF [21006] w μ1990 μ2143) rfl) (RT.keep I1997 hw ((mF.call (mF.up mF.refl (A_21 hw) u2020 rfl) F2145 rfl) : mF [21006] w μ1990 μ2143) rfl) (vc_X1_doActs_W12_13 (nS h1998) h2001 h4 h3 hp2 h2003 h2002) (h2146.1 T2144 F2145)
        refine mr_tableOut (pc := 62) (tgt := 260) dX1_doActs_62 h2024 (vc_X1_doActs_W12_34 h2025 h2034 h2042 h2044 h2046 h2048 h2050 h2053 h2055 h2057 h2059 h2061 h2066 h2072 h2081 h2090 h2141 h2024) (by decide) ?_
        refine mr_iinc (pc := 260) (lv' := [(5, iv (z1989 + 1)), (6, iv z2010), (0, .ref 21), (1, .ref a1), (2, iv p2), (3, iv p3), (4, iv p4)]) dX1_doActs_260 rfl (by decide) rfl ?_
        refine sv_goto (pc := 263) (tgt := 3) dX1_doActs_263 (by decide) ?_
        refine mr_lvS (lv' := [(0, .ref 21), (1, .ref a1), (2, iv p2), (3, iv p3), (4, iv p4), (5, iv (z1989 + 1))]) (List.forall_mem_cons.mpr ⟨rfl, List.forall_mem_cons.mpr ⟨rfl, List.forall_mem_cons.mpr ⟨rfl, List.forall_mem_cons.mpr ⟨rfl, List.forall_mem_cons.mpr ⟨rfl, List.forall_mem_cons.mpr ⟨rfl, fun _ h => absurd h List.not_mem_nil⟩⟩⟩⟩⟩⟩) ?_
        exact ih2000 (z1989 + 1) μ2019 T2021 (mF.up (mF.call mF.refl F1994 rfl) (A_21 hw) u2020 rfl) (rW (c := 0) (d := 1000) (rAdd (e := 1) (f := 1000) h2002 (rR (x := 1)) rfl) rfl) (PC.keep I1996 hw ((mF.up mF.refl (A_21 hw) u2020 rfl) : mF [21006] w μ1990 μ2019) rfl) (RT.keep I1997 hw ((mF.up mF.refl (A_21 hw) u2020 rfl) : mF [21006] w μ1990 μ2019) rfl) (vc_X1_doActs_W12_13 (nS h1998) h2001 h4 h3 hp2 h2003 h2002) (((((W2067.2 h2066).2 h2072).2 h2081).2 h2090).2 h2141)
      have h2147 : 500 ≤ z2014 ∧ z2014 ≤ 500 := (vc_X1_doActs_W12_35 h2017 h2016)
      refine sv_aload_n (pc := 38) dX1_doActs_38 rfl rfl ?_
      refine mr_iconst (pc := 39) (z := 2) dX1_doActs_39 ?_
      refine pf_X1_7 (pc := 40) dX1_doActs_40 wF_X1_50 (A_21 hw) T1993 (rW (c := 0) (d := 2) (rR (x := 2)) rfl) fun μ2148 u2149 T2150 => ?_
      exact mr_vret dX1_doActs_43 rfl (le_t rfl) (le_t rfl) T2150 (mF.up (mF.call mF.refl F1994 rfl) (A_21 hw) u2149 rfl) ⟨((((((((W1999 z1989 μ1990 rfl h1992 T1993 F1994).2 h2001) z2004 q2005 h2006).2 h2007) z2010 q2011 h2012) z2014 q2015 h2016).2 h2017) μ2148 u2149 T2150), trivial⟩
  refine mr_lvS (lv' := [(0, .ref 21), (1, .ref a1), (2, iv p2), (3, iv p3), (4, iv p4), (5, iv 0)]) (List.forall_mem_cons.mpr ⟨rfl, List.forall_mem_cons.mpr ⟨rfl, List.forall_mem_cons.mpr ⟨rfl, List.forall_mem_cons.mpr ⟨rfl, List.forall_mem_cons.mpr ⟨rfl, List.forall_mem_cons.mpr ⟨rfl, fun _ h => absurd h List.not_mem_nil⟩⟩⟩⟩⟩⟩) ?_
  exact L1991 1002 0 μ hT mF.refl (rW (c := 0) (d := 1000) (rR (x := 0)) rfl) hIPC hIRT vc_X6_split_v_102 (hQ n_1 q2 h3)
