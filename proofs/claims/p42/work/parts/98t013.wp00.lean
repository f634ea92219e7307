def WP_X7_begin_W (w : mW) (μ : mM) (a0 : Nat) (p1 : Int) (p2 : Int) (Q : mM → Prop) : Prop := ∀ μ1 : mM, mU μ a0 (2) (1 : Int) μ1 → mT w μ1 → ∀ μ4 : mM, mU μ1 a0 (3) p1 μ4 → mT w μ4 → ∀ μ7 : mM, mU μ4 a0 (4) (100 : Int) μ7 → mT w μ7 → ∀ μ10 : mM, mU μ7 a0 (5) p2 μ10 → mT w μ10 → ∀ μ13 : mM, mU μ10 a0 (6) (0 : Int) μ13 → mT w μ13 → ∀ μ16 : mM, mU μ13 a0 (7) (0 : Int) μ16 → mT w μ16 → ∀ μ19 : mM, mU μ16 a0 (8) (0 : Int) μ19 → mT w μ19 → Q μ19
set_option maxRecDepth 4000 in
set_option maxHeartbeats 4000000 in
theorem c_X7_begin_W {l : Launch} {D : va_G} {c : Nat → ClassId} {H0 : Heap} {sa : Nat × Nat × (Nat → Int32)} {w : mW} {μ : mM} (hw : mWF w) (hT : mT w μ) {a0 : Nat} (hA0 : mAt w a0 200) {p1 : Int} (hp1 : 0 ≤ p1 ∧ p1 ≤ 9) {p2 : Int} (hp2 : (-2147483648) ≤ p2 ∧ p2 ≤ 2147483647) {Q : mM → Prop} (hQ : WP_X7_begin_W w μ a0 p1 p2 Q) : sC (gG l D c H0 sa) mX7_begin 1 0 0 [.ref a0, iv p1, iv p2] (mk w μ) (qV w [200002, 200003, 200004, 200005, 200006, 200007, 200008] μ (fun μ1 => Q μ1 ∧ True)) := by
  refine sC.of rfl (by decide) (le_t rfl) ?_
  refine mr_lvE (lv' := [(0, .ref a0), (1, iv p1), (2, iv p2)]) rfl ?_
  refine sv_aload_n (pc := 0) dX7_begin_0 rfl rfl ?_
  refine mr_iconst (pc := 1) (z := 1) dX7_begin_1 ?_
  refine pf_X7_2 (pc := 2) dX7_begin_2 wF_X7_22 hA0 hT (rW (c := 0) (d := 1) (rR (x := 1)) rfl) fun μ1 u2 T3 => ?_
  refine sv_aload_n (pc := 5) dX7_begin_5 rfl rfl ?_
  refine mr_iload_n (pc := 6) (z := p1) dX7_begin_6 rfl rfl ?_
  refine pf_X7_3 (pc := 7) dX7_begin_7 wF_X7_26 hA0 T3 hp1 fun μ4 u5 T6 => ?_
  refine sv_aload_n (pc := 10) dX7_begin_10 rfl rfl ?_
  refine mr_bipush (pc := 11) (z := 100) dX7_begin_11 (by decide) ?_
  refine pf_X7_4 (pc := 13) dX7_begin_13 wF_X7_29 hA0 T6 (rW (c := (-2147483648)) (d := 2147483647) (rR (x := 100)) rfl) fun μ7 u8 T9 => ?_
  refine sv_aload_n (pc := 16) dX7_begin_16 rfl rfl ?_
  refine mr_iload_n (pc := 17) (z := p2) dX7_begin_17 rfl rfl ?_
  refine pf_X7_5 (pc := 18) dX7_begin_18 wF_X7_32 hA0 T9 hp2 fun μ10 u11 T12 => ?_
  refine sv_aload_n (pc := 21) dX7_begin_21 rfl rfl ?_
  refine mr_iconst (pc := 22) (z := 0) dX7_begin_22 ?_
  refine pf_X7_6 (pc := 23) dX7_begin_23 wF_X7_35 hA0 T12 (rW (c := (-2147483648)) (d := 2147483647) (rR (x := 0)) rfl) fun μ13 u14 T15 => ?_
  refine sv_aload_n (pc := 26) dX7_begin_26 rfl rfl ?_
  refine mr_iconst (pc := 27) (z := 0) dX7_begin_27 ?_
  refine pf_X7_7 (pc := 28) dX7_begin_28 wF_X7_38 hA0 T15 (rW (c := 0) (d := 20) (rR (x := 0)) rfl) fun μ16 u17 T18 => ?_
  refine sv_aload_n (pc := 31) dX7_begin_31 rfl rfl ?_
  refine mr_iconst (pc := 32) (z := 0) dX7_begin_32 ?_
  refine pf_X7_8 (pc := 33) dX7_begin_33 wF_X7_41 hA0 T18 (rW (c := 0) (d := 8) (rR (x := 0)) rfl) fun μ19 u20 T21 => ?_
  exact mr_vret dX7_begin_36 rfl (le_t rfl) (le_t rfl) T21 (mF.up (mF.up (mF.up (mF.up (mF.up (mF.up (mF.up mF.refl hA0 u2 rfl) hA0 u5 rfl) hA0 u8 rfl) hA0 u11 rfl) hA0 u14 rfl) hA0 u17 rfl) hA0 u20 rfl) ⟨(((((((hQ μ1 u2 T3) μ4 u5 T6) μ7 u8 T9) μ10 u11 T12) μ13 u14 T15) μ16 u17 T18) μ19 u20 T21), trivial⟩
def WL_X7_passes_W_1 (μ : mM) (a0 : Nat) (p1 : Int) (Q : Int → mM → Prop) (rec1 : (Int) → Prop) (s : (Int)) : Prop := ∀ z91 : Int, s = (z91) → (0 ≤ z91 ∧ z91 ≤ 20) → ∀ z100 : Int, μ a0 7 = z100 → (0 ≤ z100 ∧ z100 ≤ 20) → ((z100 ≤ z91) → Q (0 : Int) μ) ∧ ((z91 < z100) → ∀ z107 : Int, μ (a0 + 1) (z91.toNat) = z107 → ((-2147483648) ≤ z107 ∧ z107 ≤ 2147483647) → ((¬ z107 = p1) → rec1 ((z91 + 1))) ∧ ((z107 = p1) → Q (1 : Int) μ))
def WP_X7_passes_W (w : mW) (μ : mM) (a0 : Nat) (p1 : Int) (Q : Int → mM → Prop) : Prop := loopF (WL_X7_passes_W_1 μ a0 p1 Q) False 22 ((0 : Int))
set_option maxRecDepth 4000 in
set_option maxHeartbeats 4000000 in
theorem c_X7_passes_W {l : Launch} {D : va_G} {c : Nat → ClassId} {H0 : Heap} {sa : Nat × Nat × (Nat → Int32)} {w : mW} {μ : mM} (hw : mWF w) (hT : mT w μ) {a0 : Nat} (hA0 : mAt w a0 200) {p1 : Int} (hp1 : (-2147483648) ≤ p1 ∧ p1 ≤ 2147483647) {Q : Int → mM → Prop} (hQ : WP_X7_passes_W w μ a0 p1 Q) : sC (gG l D c H0 sa) mX7_passes 1 0 0 [.ref a0, iv p1] (mk w μ) (qP w μ (fun z => (0 ≤ z ∧ z ≤ 1) ∧ Q z μ ∧ True)) := by
  refine sC.of rfl (by decide) (le_t rfl) ?_
  refine mr_lvE (lv' := [(0, .ref a0), (1, iv p1)]) rfl ?_
  refine mr_iconst (pc := 0) (z := 0) dX7_passes_0 ?_
  refine mr_istore_n (pc := 1) (lv' := [(2, iv 0), (0, .ref a0), (1, iv p1)]) dX7_passes_1 rfl (by decide) rfl ?_
  have L92 : ∀ (nL92 : Nat) (z91 : Int), True → (0 ≤ z91 ∧ z91 ≤ 20) → (21 - z91) < (nL92 : Int) → loopF (WL_X7_passes_W_1 μ a0 p1 Q) False nL92 (z91) → sV (gG l D c H0 sa) mX7_passes (sRm 1 0 0) (sZ (gG l D c H0 sa) 0 0 (qP w μ (fun z => (0 ≤ z ∧ z ≤ 1) ∧ Q z μ ∧ True))) 2 [(0, .ref a0), (1, iv p1), (2, iv z91)] [] (mk w μ) 0 0 := by
    intro nL92
    induction nL92 with
    | zero => intro z91 _ h93 h97 W98; exact ((vc_X12_tieOf_1 h97 h93)).elim
    | succ nL92 ih99 =>
      intro z91 _ h93 h97 W98
      refine mr_iload_n (pc := 2) (z := z91) dX7_passes_2 rfl rfl ?_
      refine sv_aload_n (pc := 3) dX7_passes_3 rfl rfl ?_
      refine gf_X7_7 (pc := 4) dX7_passes_4 wF_X7_38 hA0 hT fun z100 q101 h102 => ?_
      refine mr_icmp_ge (pc := 7) (tgt := 28) dX7_passes_7 (by decide) (r32 h93 rfl) (r32 h102 rfl) (fun h103 => ?_) (fun h103 => ?_)
      · refine mr_iconst (pc := 28) (z := 0) dX7_passes_28 ?_
        exact mr_zretP dX7_passes_29 rfl (rW (c := 0) (d := 1) (rR (x := 0)) rfl) (le_t rfl) (le_t rfl) ⟨(rW (c := 0) (d := 1) (rR (x := 0)) rfl), (((W98 z91 rfl h93) z100 q101 h102).1 h103), trivial⟩
      have h104 : 0 ≤ z91 ∧ z91 ≤ 19 := (vc_X3_putAttributes_10 h103 h102 h93)
      have h105 : 1 ≤ z100 ∧ z100 ≤ 20 := (vc_X3_putAttributes_11 h103 h102 h104)
      refine sv_aload_n (pc := 10) dX7_passes_10 rfl rfl ?_
      refine gf_X7_0 (pc := 11) dX7_passes_11 wF_X7_9 hA0 hT fun A106 => ?_
      refine mr_iload_n (pc := 14) (z := z91) dX7_passes_14 rfl rfl ?_
      refine la_201 (pc := 15) dX7_passes_15 A106 hT (rIx (n := 20) h104 rfl) fun z107 q108 h109 => ?_
      refine mr_iload_n (pc := 16) (z := p1) dX7_passes_16 rfl rfl ?_
      refine mr_icmp_ne (pc := 17) (tgt := 22) dX7_passes_17 (by decide) h109 hp1 (fun h110 => ?_) (fun h110 => ?_)
      · refine mr_iinc (pc := 22) (lv' := [(2, iv (z91 + 1)), (0, .ref a0), (1, iv p1)]) dX7_passes_22 rfl (by decide) rfl ?_
        refine sv_goto (pc := 25) (tgt := 2) dX7_passes_25 (by decide) ?_
        refine mr_lvS (lv' := [(0, .ref a0), (1, iv p1), (2, iv (z91 + 1))]) (List.forall_mem_cons.mpr ⟨rfl, List.forall_mem_cons.mpr ⟨rfl, List.forall_mem_cons.mpr ⟨rfl, fun _ h => absurd h List.not_mem_nil⟩⟩⟩) ?_
        exact ih99 (z91 + 1) trivial (rW (c := 0) (d := 20) (rAdd (e := 1) (f := 20) h104 (rR (x := 1)) rfl) rfl) (vc_X3_putAttributes_12 (nS h97) h103 h105 h104) (((((W98 z91 rfl h93) z100 q101 h102).2 h103) z107 q108 h109).1 h110)
      refine mr_iconst (pc := 20) (z := 1) dX7_passes_20 ?_
      exact mr_zretP dX7_passes_21 rfl (rW (c := 0) (d := 1) (rR (x := 1)) rfl) (le_t rfl) (le_t rfl) ⟨(rW (c := 0) (d := 1) (rR (x := 1)) rfl), (((((W98 z91 rfl h93) z100 q101 h102).2 h103) z107 q108 h109).2 h110), trivial⟩
  refine mr_lvS (lv' := [(0, .ref a0), (1, iv p1), (2, iv 0)]) (List.forall_mem_cons.mpr ⟨rfl, List.forall_mem_cons.mpr ⟨rfl, List.forall_mem_cons.mpr ⟨rfl, fun _ h => absurd h List.not_mem_nil⟩⟩⟩) ?_
  exact L92 22 0 trivial (rW (c := 0) (d := 20) (rR (x := 0)) rfl) vc_X12_tieOf_12 hQ
def WL_X7_hasMark_W_1 (μ : mM) (a0 : Nat) (p1 : Int) (Q : Int → mM → Prop) (rec1 : (Int) → Prop) (s : (Int)) : Prop := ∀ z51 : Int, s = (z51) → (0 ≤ z51 ∧ z51 ≤ 8) → ∀ z60 : Int, μ a0 8 = z60 → (0 ≤ z60 ∧ z60 ≤ 8) → ((z60 ≤ z51) → Q (0 : Int) μ) ∧ ((z51 < z60) → ∀ z67 : Int, μ (a0 + 2) (z51.toNat) = z67 → ((-2147483648) ≤ z67 ∧ z67 ≤ 2147483647) → ((¬ z67 = p1) → rec1 ((z51 + 1))) ∧ ((z67 = p1) → Q (1 : Int) μ))
def WP_X7_hasMark_W (w : mW) (μ : mM) (a0 : Nat) (p1 : Int) (Q : Int → mM → Prop) : Prop := loopF (WL_X7_hasMark_W_1 μ a0 p1 Q) False 10 ((0 : Int))
set_option maxRecDepth 4000 in
set_option maxHeartbeats 4000000 in
theorem c_X7_hasMark_W {l : Launch} {D : va_G} {c : Nat → ClassId} {H0 : Heap} {sa : Nat × Nat × (Nat → Int32)} {w : mW} {μ : mM} (hw : mWF w) (hT : mT w μ) {a0 : Nat} (hA0 : mAt w a0 200) {p1 : Int} (hp1 : (-2147483648) ≤ p1 ∧ p1 ≤ 2147483647) {Q : Int → mM → Prop} (hQ : WP_X7_hasMark_W w μ a0 p1 Q) : sC (gG l D c H0 sa) mX7_hasMark 1 0 0 [.ref a0, iv p1] (mk w μ) (qP w μ (fun z => (0 ≤ z ∧ z ≤ 1) ∧ Q z μ ∧ True)) := by
  refine sC.of rfl (by decide) (le_t rfl) ?_
  refine mr_lvE (lv' := [(0, .ref a0), (1, iv p1)]) rfl ?_
  refine mr_iconst (pc := 0) (z := 0) dX7_hasMark_0 ?_
  refine mr_istore_n (pc := 1) (lv' := [(2, iv 0), (0, .ref a0), (1, iv p1)]) dX7_hasMark_1 rfl (by decide) rfl ?_
  have L52 : ∀ (nL52 : Nat) (z51 : Int), True → (0 ≤ z51 ∧ z51 ≤ 8) → (9 - z51) < (nL52 : Int) → loopF (WL_X7_hasMark_W_1 μ a0 p1 Q) False nL52 (z51) → sV (gG l D c H0 sa) mX7_hasMark (sRm 1 0 0) (sZ (gG l D c H0 sa) 0 0 (qP w μ (fun z => (0 ≤ z ∧ z ≤ 1) ∧ Q z μ ∧ True))) 2 [(0, .ref a0), (1, iv p1), (2, iv z51)] [] (mk w μ) 0 0 := by
    intro nL52
    induction nL52 with
    | zero => intro z51 _ h53 h57 W58; exact ((vc_X12_marked_1 h57 h53)).elim
    | succ nL52 ih59 =>
      intro z51 _ h53 h57 W58
      refine mr_iload_n (pc := 2) (z := z51) dX7_hasMark_2 rfl rfl ?_
      refine sv_aload_n (pc := 3) dX7_hasMark_3 rfl rfl ?_
      refine gf_X7_8 (pc := 4) dX7_hasMark_4 wF_X7_41 hA0 hT fun z60 q61 h62 => ?_
      refine mr_icmp_ge (pc := 7) (tgt := 28) dX7_hasMark_7 (by decide) (r32 h53 rfl) (r32 h62 rfl) (fun h63 => ?_) (fun h63 => ?_)
      · refine mr_iconst (pc := 28) (z := 0) dX7_hasMark_28 ?_
        exact mr_zretP dX7_hasMark_29 rfl (rW (c := 0) (d := 1) (rR (x := 0)) rfl) (le_t rfl) (le_t rfl) ⟨(rW (c := 0) (d := 1) (rR (x := 0)) rfl), (((W58 z51 rfl h53) z60 q61 h62).1 h63), trivial⟩
      have h64 : 0 ≤ z51 ∧ z51 ≤ 7 := (vc_X12_marked_3 h63 h53 h62)
      have h65 : 1 ≤ z60 ∧ z60 ≤ 8 := (vc_X12_marked_4 h63 h64 h62)
      refine sv_aload_n (pc := 10) dX7_hasMark_10 rfl rfl ?_
      refine gf_X7_1 (pc := 11) dX7_hasMark_11 wF_X7_15 hA0 hT fun A66 => ?_
      refine mr_iload_n (pc := 14) (z := z51) dX7_hasMark_14 rfl rfl ?_
      refine la_202 (pc := 15) dX7_hasMark_15 A66 hT (rIx (n := 8) h64 rfl) fun z67 q68 h69 => ?_
      refine mr_iload_n (pc := 16) (z := p1) dX7_hasMark_16 rfl rfl ?_
      refine mr_icmp_ne (pc := 17) (tgt := 22) dX7_hasMark_17 (by decide) h69 hp1 (fun h70 => ?_) (fun h70 => ?_)
      · refine mr_iinc (pc := 22) (lv' := [(2, iv (z51 + 1)), (0, .ref a0), (1, iv p1)]) dX7_hasMark_22 rfl (by decide) rfl ?_
        refine sv_goto (pc := 25) (tgt := 2) dX7_hasMark_25 (by decide) ?_
        refine mr_lvS (lv' := [(0, .ref a0), (1, iv p1), (2, iv (z51 + 1))]) (List.forall_mem_cons.mpr ⟨rfl, List.forall_mem_cons.mpr ⟨rfl, List.forall_mem_cons.mpr ⟨rfl, fun _ h => absurd h List.not_mem_nil⟩⟩⟩) ?_
        exact ih59 (z51 + 1) trivial (rW (c := 0) (d := 8) (rAdd (e := 1) (f := 8) h64 (rR (x := 1)) rfl) rfl) (vc_X12_marked_6 (nS h57) h63 h64 h65) (((((W58 z51 rfl h53) z60 q61 h62).2 h63) z67 q68 h69).1 h70)
      refine mr_iconst (pc := 20) (z := 1) dX7_hasMark_20 ?_
      exact mr_zretP dX7_hasMark_21 rfl (rW (c := 0) (d := 1) (rR (x := 1)) rfl) (le_t rfl) (le_t rfl) ⟨(rW (c := 0) (d := 1) (rR (x := 1)) rfl), (((((W58 z51 rfl h53) z60 q61 h62).2 h63) z67 q68 h69).2 h70), trivial⟩
  refine mr_lvS (lv' := [(0, .ref a0), (1, iv p1), (2, iv 0)]) (List.forall_mem_cons.mpr ⟨rfl, List.forall_mem_cons.mpr ⟨rfl, List.forall_mem_cons.mpr ⟨rfl, fun _ h => absurd h List.not_mem_nil⟩⟩⟩) ?_
  exact L52 10 0 trivial (rW (c := 0) (d := 8) (rR (x := 0)) rfl) vc_X12_marked_10 hQ
def WP_X7_sharesFirst_W (w : mW) (μ : mM) (a0 : Nat) (a1 : Nat) (Q : Int → mM → Prop) : Prop := ∀ z1 : Int, μ a0 7 = z1 → (0 ≤ z1 ∧ z1 ≤ 20) → ((z1 ≤ 0) → Q (0 : Int) μ) ∧ ((0 < z1) → ∀ z22 : Int, μ a1 7 = z22 → (0 ≤ z22 ∧ z22 ≤ 20) → ((z22 ≤ 0) → Q (0 : Int) μ) ∧ ((0 < z22) → ∀ z39 : Int, μ (a0 + 1) ((0 : Int).toNat) = z39 → ((-2147483648) ≤ z39 ∧ z39 ≤ 2147483647) → ∀ z43 : Int, μ (a1 + 1) ((0 : Int).toNat) = z43 → ((-2147483648) ≤ z43 ∧ z43 ≤ 2147483647) → ((¬ z39 = z43) → Q (0 : Int) μ) ∧ ((z39 = z43) → Q (1 : Int) μ)))
set_option maxRecDepth 4000 in
set_option maxHeartbeats 4000000 in
theorem c_X7_sharesFirst_W {l : Launch} {D : va_G} {c : Nat → ClassId} {H0 : Heap} {sa : Nat × Nat × (Nat → Int32)} {w : mW} {μ : mM} (hw : mWF w) (hT : mT w μ) {a0 : Nat} (hA0 : mAt w a0 200) {a1 : Nat} (hA1 : mAt w a1 200) {Q : Int → mM → Prop} (hQ : WP_X7_sharesFirst_W w μ a0 a1 Q) : sC (gG l D c H0 sa) mX7_sharesFirst 1 0 0 [.ref a0, .ref a1] (mk w μ) (qP w μ (fun z => (0 ≤ z ∧ z ≤ 1) ∧ Q z μ ∧ True)) := by
  refine sC.of rfl (by decide) (le_t rfl) ?_
  refine mr_lvE (lv' := [(0, .ref a0), (1, .ref a1)]) rfl ?_
  refine sv_aload_n (pc := 0) dX7_sharesFirst_0 rfl rfl ?_
  refine gf_X7_7 (pc := 1) dX7_sharesFirst_1 wF_X7_38 hA0 hT fun z1 q2 h3 => ?_
  refine mr_if_le (pc := 4) (tgt := 33) dX7_sharesFirst_4 (by decide) (r32 h3 rfl) (fun h19 => ?_) (fun h19 => ?_)
  · have h20 : 0 ≤ z1 ∧ z1 ≤ 0 := (vc_X12_write_57 h19 h3)
    refine mr_iconst (pc := 33) (z := 0) dX7_sharesFirst_33 ?_
    exact mr_zretP dX7_sharesFirst_34 rfl (rW (c := 0) (d := 1) (rR (x := 0)) rfl) (le_t rfl) (le_t rfl) ⟨(rW (c := 0) (d := 1) (rR (x := 0)) rfl), ((hQ z1 q2 h3).1 h19), trivial⟩
  have h21 : 1 ≤ z1 ∧ z1 ≤ 20 := (vc_X12_write_59 h19 h3)
  refine sv_aload_n (pc := 7) dX7_sharesFirst_7 rfl rfl ?_
  refine gf_X7_7 (pc := 8) dX7_sharesFirst_8 wF_X7_38 hA1 hT fun z22 q23 h24 => ?_
  refine mr_if_le (pc := 11) (tgt := 33) dX7_sharesFirst_11 (by decide) (r32 h24 rfl) (fun h35 => ?_) (fun h35 => ?_)
  · have h36 : 0 ≤ z22 ∧ z22 ≤ 0 := (vc_X12_write_57 h35 h24)
    refine mr_iconst (pc := 33) (z := 0) dX7_sharesFirst_33 ?_
    exact mr_zretP dX7_sharesFirst_34 rfl (rW (c := 0) (d := 1) (rR (x := 0)) rfl) (le_t rfl) (le_t rfl) ⟨(rW (c := 0) (d := 1) (rR (x := 0)) rfl), ((((hQ z1 q2 h3).2 h19) z22 q23 h24).1 h35), trivial⟩
  have h37 : 1 ≤ z22 ∧ z22 ≤ 20 := (vc_X12_write_59 h35 h24)
  refine sv_aload_n (pc := 14) dX7_sharesFirst_14 rfl rfl ?_
  refine gf_X7_0 (pc := 15) dX7_sharesFirst_15 wF_X7_9 hA0 hT fun A38 => ?_
  refine mr_iconst (pc := 18) (z := 0) dX7_sharesFirst_18 ?_
  refine la_201 (pc := 19) dX7_sharesFirst_19 A38 hT (rIx (n := 20) (rR (x := 0)) rfl) fun z39 q40 h41 => ?_
  refine sv_aload_n (pc := 20) dX7_sharesFirst_20 rfl rfl ?_
  refine gf_X7_0 (pc := 21) dX7_sharesFirst_21 wF_X7_9 hA1 hT fun A42 => ?_
  refine mr_iconst (pc := 24) (z := 0) dX7_sharesFirst_24 ?_
  refine la_201 (pc := 25) dX7_sharesFirst_25 A42 hT (rIx (n := 20) (rR (x := 0)) rfl) fun z43 q44 h45 => ?_
  refine mr_icmp_ne (pc := 26) (tgt := 33) dX7_sharesFirst_26 (by decide) h41 h45 (fun h46 => ?_) (fun h46 => ?_)
  · refine mr_iconst (pc := 33) (z := 0) dX7_sharesFirst_33 ?_
    exact mr_zretP dX7_sharesFirst_34 rfl (rW (c := 0) (d := 1) (rR (x := 0)) rfl) (le_t rfl) (le_t rfl) ⟨(rW (c := 0) (d := 1) (rR (x := 0)) rfl), (((((((hQ z1 q2 h3).2 h19) z22 q23 h24).2 h35) z39 q40 h41) z43 q44 h45).1 h46), trivial⟩
  refine mr_iconst (pc := 29) (z := 1) dX7_sharesFirst_29 ?_
  refine sv_goto (pc := 30) (tgt := 34) dX7_sharesFirst_30 (by decide) ?_
  exact mr_zretP dX7_sharesFirst_34 rfl (rW (c := 0) (d := 1) (rR (x := 1)) rfl) (le_t rfl) (le_t rfl) ⟨(rW (c := 0) (d := 1) (rR (x := 1)) rfl), (((((((hQ z1 q2 h3).2 h19) z22 q23 h24).2 h35) z39 q40 h41) z43 q44 h45).2 h46), trivial⟩
def WL_X7_isAlike_W_2 (μ : mM) (a0 : Nat) (a1 : Nat) (Q : Int → mM → Prop) (z49 : Int) (rec2 : (Int) → Prop) (s : (Int)) : Prop := ∀ z418 : Int, s = (z418) → (0 ≤ z418 ∧ z418 ≤ 8) → ((z49 ≤ z418) → Q (1 : Int) μ) ∧ ((z418 < z49) → ∀ z431 : Int, μ (a0 + 2) (z418.toNat) = z431 → ((-2147483648) ≤ z431 ∧ z431 ≤ 2147483647) → ∀ z435 : Int, μ (a1 + 2) (z418.toNat) = z435 → ((-2147483648) ≤ z435 ∧ z435 ≤ 2147483647) → ((z431 = z435) → rec2 ((z418 + 1))) ∧ ((¬ z431 = z435) → Q (0 : Int) μ))
def WL_X7_isAlike_W_1 (μ : mM) (a0 : Nat) (a1 : Nat) (Q : Int → mM → Prop) (z41 : Int) (z49 : Int) (rec1 : (Int) → Prop) (s : (Int)) : Prop := ∀ z353 : Int, s = (z353) → (0 ≤ z353 ∧ z353 ≤ 20) → ((z41 ≤ z353) → loopF (WL_X7_isAlike_W_2 μ a0 a1 Q z49) False 10 ((0 : Int))) ∧ ((z353 < z41) → ∀ z442 : Int, μ (a0 + 1) (z353.toNat) = z442 → ((-2147483648) ≤ z442 ∧ z442 ≤ 2147483647) → ∀ z446 : Int, μ (a1 + 1) (z353.toNat) = z446 → ((-2147483648) ≤ z446 ∧ z446 ≤ 2147483647) → ((z442 = z446) → rec1 ((z353 + 1))) ∧ ((¬ z442 = z446) → Q (0 : Int) μ))
def WP_X7_isAlike_W (w : mW) (μ : mM) (a0 : Nat) (a1 : Nat) (Q : Int → mM → Prop) : Prop := ∀ z1 : Int, μ a0 2 = z1 → (0 ≤ z1 ∧ z1 ≤ 1) → ((z1 = 0) → ∀ z6 : Int, μ a1 2 = z6 → (0 ≤ z6 ∧ z6 ≤ 1) → ((¬ z1 = z6) → Q (0 : Int) μ) ∧ ((z1 = z6) → Q (1 : Int) μ)) ∧ ((¬ z1 = 0) → ∀ z15 : Int, μ a1 2 = z15 → (0 ≤ z15 ∧ z15 ≤ 1) → ((¬ z15 = 0) → ∀ z20 : Int, μ a0 4 = z20 → ((-2147483648) ≤ z20 ∧ z20 ≤ 2147483647) → ∀ z23 : Int, μ a1 4 = z23 → ((-2147483648) ≤ z23 ∧ z23 ≤ 2147483647) → ((¬ z20 = z23) → Q (0 : Int) μ) ∧ ((z20 = z23) → ∀ z27 : Int, μ a0 5 = z27 → ((-2147483648) ≤ z27 ∧ z27 ≤ 2147483647) → ∀ z30 : Int, μ a1 5 = z30 → ((-2147483648) ≤ z30 ∧ z30 ≤ 2147483647) → ((¬ z27 = z30) → Q (0 : Int) μ) ∧ ((z27 = z30) → ∀ z34 : Int, μ a0 6 = z34 → ((-2147483648) ≤ z34 ∧ z34 ≤ 2147483647) → ∀ z37 : Int, μ a1 6 = z37 → ((-2147483648) ≤ z37 ∧ z37 ≤ 2147483647) → ((z34 = z37) → ∀ z41 : Int, μ a0 7 = z41 → (0 ≤ z41 ∧ z41 ≤ 20) → ∀ z44 : Int, μ a1 7 = z44 → (0 ≤ z44 ∧ z44 ≤ 20) → ((¬ z41 = z44) → Q (0 : Int) μ) ∧ ((z41 = z44) → ∀ z49 : Int, μ a0 8 = z49 → (0 ≤ z49 ∧ z49 ≤ 8) → ∀ z52 : Int, μ a1 8 = z52 → (0 ≤ z52 ∧ z52 ≤ 8) → ((z49 = z52) → loopF (WL_X7_isAlike_W_1 μ a0 a1 Q z41 z49) False 22 ((0 : Int))) ∧ ((¬ z49 = z52) → Q (0 : Int) μ))) ∧ ((¬ z34 = z37) → Q (0 : Int) μ)))) ∧ ((z15 = 0) → Q (0 : Int) μ))
theorem vc_X7_isAlike_W_2 {z1 z6 : Int} (h0 : ¬ z1 = z6) (h1 : z1 = 0) (h2 : 0 ≤ z1 ∧ z1 ≤ 0) (h3 : 0 ≤ z6 ∧ z6 ≤ 1) : 1 ≤ z6 ∧ z6 ≤ 1 := by omega
theorem vc_X7_isAlike_W_3 {z1 z6 : Int} (h0 : z1 = z6) (h1 : z1 = 0) (h2 : 0 ≤ z1 ∧ z1 ≤ 0) (h3 : 0 ≤ z6 ∧ z6 ≤ 1) : 0 ≤ z6 ∧ z6 ≤ 0 := by omega
theorem vc_X7_isAlike_W_8 {z418 z49 z52 : Int} (h0 : z418 < z49) (h1 : z49 = z52) (h2 : 0 ≤ z418 ∧ z418 ≤ 8) (h3 : 0 ≤ z49 ∧ z49 ≤ 8) (h4 : 0 ≤ z52 ∧ z52 ≤ 8) : 0 ≤ z418 ∧ z418 ≤ 7 := by omega
theorem vc_X7_isAlike_W_9 {z418 z49 z52 : Int} (h0 : z418 < z49) (h1 : z49 = z52) (h2 : 0 ≤ z418 ∧ z418 ≤ 7) (h3 : 0 ≤ z49 ∧ z49 ≤ 8) (h4 : 0 ≤ z52 ∧ z52 ≤ 8) : 1 ≤ z49 ∧ z49 ≤ 8 := by omega
theorem vc_X7_isAlike_W_10 {N z418 z49 z52 : Int} (h0 : (9 - z418) < N + 1) (h1 : z418 < z49) (h2 : z49 = z52) (h3 : 0 ≤ z418 ∧ z418 ≤ 7) (h4 : 1 ≤ z49 ∧ z49 ≤ 8) (h5 : 0 ≤ z52 ∧ z52 ≤ 8) : (9 - (z418 + 1)) < N := by omega
theorem vc_X7_isAlike_W_12 {z353 z41 z44 : Int} (h0 : z353 < z41) (h1 : z41 = z44) (h2 : 0 ≤ z353 ∧ z353 ≤ 20) (h3 : 0 ≤ z41 ∧ z41 ≤ 20) (h4 : 0 ≤ z44 ∧ z44 ≤ 20) : 0 ≤ z353 ∧ z353 ≤ 19 := by omega
theorem vc_X7_isAlike_W_13 {z353 z41 z44 : Int} (h0 : z353 < z41) (h1 : z41 = z44) (h2 : 0 ≤ z353 ∧ z353 ≤ 19) (h3 : 0 ≤ z41 ∧ z41 ≤ 20) (h4 : 0 ≤ z44 ∧ z44 ≤ 20) : 1 ≤ z41 ∧ z41 ≤ 20 := by omega
theorem vc_X7_isAlike_W_14 {N z353 z41 z44 : Int} (h0 : (21 - z353) < N + 1) (h1 : z353 < z41) (h2 : z41 = z44) (h3 : 0 ≤ z353 ∧ z353 ≤ 19) (h4 : 1 ≤ z41 ∧ z41 ≤ 20) (h5 : 0 ≤ z44 ∧ z44 ≤ 20) : (21 - (z353 + 1)) < N := by omega
theorem vc_X7_isAlike_W_17 {z1 z15 : Int} (h0 : z1 = z15) (h1 : 1 ≤ z1 ∧ z1 ≤ 1) (h2 : 0 ≤ z15 ∧ z15 ≤ 0) : False := by omega
set_option maxRecDepth 4000 in
set_option maxHeartbeats 4000000 in
theorem c_X7_isAlike_W {l : Launch} {D : va_G} {c : Nat → ClassId} {H0 : Heap} {sa : Nat × Nat × (Nat → Int32)} {w : mW} {μ : mM} (hw : mWF w) (hT : mT w μ) {a0 : Nat} (hA0 : mAt w a0 200) {a1 : Nat} (hA1 : mAt w a1 200) {Q : Int → mM → Prop} (hQ : WP_X7_isAlike_W w μ a0 a1 Q) : sC (gG l D c H0 sa) mX7_isAlike 1 0 0 [.ref a0, .ref a1] (mk w μ) (qP w μ (fun z => (0 ≤ z ∧ z ≤ 1) ∧ Q z μ ∧ True)) := by
  refine sC.of rfl (by decide) (le_t rfl) ?_
  refine mr_lvE (lv' := [(0, .ref a0), (1, .ref a1)]) rfl ?_
  refine sv_aload_n (pc := 0) dX7_isAlike_0 rfl rfl ?_
  refine gf_X7_2 (pc := 1) dX7_isAlike_1 wF_X7_22 hA0 hT fun z1 q2 h3 => ?_
  refine mr_if_eq (pc := 4) (tgt := 14) dX7_isAlike_4 (by decide) (r32 h3 rfl) (fun h4 => ?_) (fun h4 => ?_)
  · have h5 : 0 ≤ z1 ∧ z1 ≤ 0 := (vc_X12_ring_22 h4 h3)
    refine sv_aload_n (pc := 14) dX7_isAlike_14 rfl rfl ?_
    refine gk_X7_2 (pc := 15) dX7_isAlike_15 wF_X7_22 hA0 q2 ?_
    refine sv_aload_n (pc := 18) dX7_isAlike_18 rfl rfl ?_
    refine gf_X7_2 (pc := 19) dX7_isAlike_19 wF_X7_22 hA1 hT fun z6 q7 h8 => ?_
    refine mr_icmp_ne (pc := 22) (tgt := 29) dX7_isAlike_22 (by decide) (r32 h5 rfl) (r32 h8 rfl) (fun h11 => ?_) (fun h11 => ?_)
    · have h12 : 1 ≤ z6 ∧ z6 ≤ 1 := (vc_X7_isAlike_W_2 h11 h4 h5 h8)
      refine mr_iconst (pc := 29) (z := 0) dX7_isAlike_29 ?_
      exact mr_zretP dX7_isAlike_30 rfl (rW (c := 0) (d := 1) (rR (x := 0)) rfl) (le_t rfl) (le_t rfl) ⟨(rW (c := 0) (d := 1) (rR (x := 0)) rfl), ((((hQ z1 q2 h3).1 h4) z6 q7 h8).1 h11), trivial⟩
    have h13 : 0 ≤ z6 ∧ z6 ≤ 0 := (vc_X7_isAlike_W_3 h11 h4 h5 h8)
    refine mr_iconst (pc := 25) (z := 1) dX7_isAlike_25 ?_
    refine sv_goto (pc := 26) (tgt := 30) dX7_isAlike_26 (by decide) ?_
    exact mr_zretP dX7_isAlike_30 rfl (rW (c := 0) (d := 1) (rR (x := 1)) rfl) (le_t rfl) (le_t rfl) ⟨(rW (c := 0) (d := 1) (rR (x := 1)) rfl), ((((hQ z1 q2 h3).1 h4) z6 q7 h8).2 h11), trivial⟩
  have h14 : 1 ≤ z1 ∧ z1 ≤ 1 := (vc_X12_ring_24 h4 h3)
  refine sv_aload_n (pc := 7) dX7_isAlike_7 rfl rfl ?_
  refine gf_X7_2 (pc := 8) dX7_isAlike_8 wF_X7_22 hA1 hT fun z15 q16 h17 => ?_
  refine mr_if_ne (pc := 11) (tgt := 31) dX7_isAlike_11 (by decide) (r32 h17 rfl) (fun h18 => ?_) (fun h18 => ?_)
  · have h19 : 1 ≤ z15 ∧ z15 ≤ 1 := (vc_X12_ring_24 h18 h17)
    refine sv_aload_n (pc := 31) dX7_isAlike_31 rfl rfl ?_
    refine gf_X7_4 (pc := 32) dX7_isAlike_32 wF_X7_29 hA0 hT fun z20 q21 h22 => ?_
    refine sv_aload_n (pc := 35) dX7_isAlike_35 rfl rfl ?_
    refine gf_X7_4 (pc := 36) dX7_isAlike_36 wF_X7_29 hA1 hT fun z23 q24 h25 => ?_
    refine mr_icmp_ne (pc := 39) (tgt := 64) dX7_isAlike_39 (by decide) h22 h25 (fun h26 => ?_) (fun h26 => ?_)
    · refine mr_iconst (pc := 64) (z := 0) dX7_isAlike_64 ?_
      exact mr_zretP dX7_isAlike_65 rfl (rW (c := 0) (d := 1) (rR (x := 0)) rfl) (le_t rfl) (le_t rfl) ⟨(rW (c := 0) (d := 1) (rR (x := 0)) rfl), (((((((hQ z1 q2 h3).2 h4) z15 q16 h17).1 h18) z20 q21 h22) z23 q24 h25).1 h26), trivial⟩
    refine sv_aload_n (pc := 42) dX7_isAlike_42 rfl rfl ?_
    refine gf_X7_5 (pc := 43) dX7_isAlike_43 wF_X7_32 hA0 hT fun z27 q28 h29 => ?_
    refine sv_aload_n (pc := 46) dX7_isAlike_46 rfl rfl ?_
    refine gf_X7_5 (pc := 47) dX7_isAlike_47 wF_X7_32 hA1 hT fun z30 q31 h32 => ?_
    refine mr_icmp_ne (pc := 50) (tgt := 64) dX7_isAlike_50 (by decide) h29 h32 (fun h33 => ?_) (fun h33 => ?_)
    · refine mr_iconst (pc := 64) (z := 0) dX7_isAlike_64 ?_
      exact mr_zretP dX7_isAlike_65 rfl (rW (c := 0) (d := 1) (rR (x := 0)) rfl) (le_t rfl) (le_t rfl) ⟨(rW (c := 0) (d := 1) (rR (x := 0)) rfl), ((((((((((hQ z1 q2 h3).2 h4) z15 q16 h17).1 h18) z20 q21 h22) z23 q24 h25).2 h26) z27 q28 h29) z30 q31 h32).1 h33), trivial⟩
    refine sv_aload_n (pc := 53) dX7_isAlike_53 rfl rfl ?_
    refine gf_X7_6 (pc := 54) dX7_isAlike_54 wF_X7_35 hA0 hT fun z34 q35 h36 => ?_
    refine sv_aload_n (pc := 57) dX7_isAlike_57 rfl rfl ?_
    refine gf_X7_6 (pc := 58) dX7_isAlike_58 wF_X7_35 hA1 hT fun z37 q38 h39 => ?_
    refine mr_icmp_eq (pc := 61) (tgt := 66) dX7_isAlike_61 (by decide) h36 h39 (fun h40 => ?_) (fun h40 => ?_)
    · refine sv_aload_n (pc := 66) dX7_isAlike_66 rfl rfl ?_
      refine gf_X7_7 (pc := 67) dX7_isAlike_67 wF_X7_38 hA0 hT fun z41 q42 h43 => ?_
      refine sv_aload_n (pc := 70) dX7_isAlike_70 rfl rfl ?_
      refine gf_X7_7 (pc := 71) dX7_isAlike_71 wF_X7_38 hA1 hT fun z44 q45 h46 => ?_
      have W47 := (((((((((((((((hQ z1 q2 h3).2 h4) z15 q16 h17).1 h18) z20 q21 h22) z23 q24 h25).2 h26) z27 q28 h29) z30 q31 h32).2 h33) z34 q35 h36) z37 q38 h39).1 h40) z41 q42 h43) z44 q45 h46)
      refine mr_icmp_ne (pc := 74) (tgt := 88) dX7_isAlike_74 (by decide) (r32 h43 rfl) (r32 h46 rfl) (fun h48 => ?_) (fun h48 => ?_)
      · refine mr_iconst (pc := 88) (z := 0) dX7_isAlike_88 ?_
        exact mr_zretP dX7_isAlike_89 rfl (rW (c := 0) (d := 1) (rR (x := 0)) rfl) (le_t rfl) (le_t rfl) ⟨(rW (c := 0) (d := 1) (rR (x := 0)) rfl), (W47.1 h48), trivial⟩
      refine sv_aload_n (pc := 77) dX7_isAlike_77 rfl rfl ?_
      refine gf_X7_8 (pc := 78) dX7_isAlike_78 wF_X7_41 hA0 hT fun z49 q50 h51 => ?_
      refine sv_aload_n (pc := 81) dX7_isAlike_81 rfl rfl ?_
      refine gf_X7_8 (pc := 82) dX7_isAlike_82 wF_X7_41 hA1 hT fun z52 q53 h54 => ?_
      refine mr_icmp_eq (pc := 85) (tgt := 90) dX7_isAlike_85 (by decide) (r32 h51 rfl) (r32 h54 rfl) (fun h55 => ?_) (fun h55 => ?_)
      · refine mr_iconst (pc := 90) (z := 0) dX7_isAlike_90 ?_
        refine mr_istore_n (pc := 91) (lv' := [(2, iv 0), (0, .ref a0), (1, .ref a1)]) dX7_isAlike_91 rfl (by decide) rfl ?_
        have L354 : ∀ (nL354 : Nat) (z353 : Int), True → (0 ≤ z353 ∧ z353 ≤ 20) → (21 - z353) < (nL354 : Int) → loopF (WL_X7_isAlike_W_1 μ a0 a1 Q z41 z49) False nL354 (z353) → sV (gG l D c H0 sa) mX7_isAlike (sRm 1 0 0) (sZ (gG l D c H0 sa) 0 0 (qP w μ (fun z => (0 ≤ z ∧ z ≤ 1) ∧ Q z μ ∧ True))) 92 [(0, .ref a0), (1, .ref a1), (2, iv z353)] [] (mk w μ) 0 0 := by
          intro nL354
          induction nL354 with
          | zero => intro z353 _ h355 h359 W360; exact ((vc_X12_tieOf_1 h359 h355)).elim
          | succ nL354 ih361 =>
            intro z353 _ h355 h359 W360
            refine mr_iload_n (pc := 92) (z := z353) dX7_isAlike_92 rfl rfl ?_
            refine sv_aload_n (pc := 93) dX7_isAlike_93 rfl rfl ?_
            refine gk_X7_7 (pc := 94) dX7_isAlike_94 wF_X7_38 hA0 q42 ?_
            refine mr_icmp_ge (pc := 97) (tgt := 123) dX7_isAlike_97 (by decide) (r32 h355 rfl) (r32 h43 rfl) (fun h362 => ?_) (fun h362 => ?_)
            · refine mr_iconst (pc := 123) (z := 0) dX7_isAlike_123 ?_
              refine mr_istore_n (pc := 124) (lv' := [(2, iv 0), (0, .ref a0), (1, .ref a1)]) dX7_isAlike_124 rfl (by decide) rfl ?_
              have L419 : ∀ (nL419 : Nat) (z418 : Int), True → (0 ≤ z418 ∧ z418 ≤ 8) → (9 - z418) < (nL419 : Int) → loopF (WL_X7_isAlike_W_2 μ a0 a1 Q z49) False nL419 (z418) → sV (gG l D c H0 sa) mX7_isAlike (sRm 1 0 0) (sZ (gG l D c H0 sa) 0 0 (qP w μ (fun z => (0 ≤ z ∧ z ≤ 1) ∧ Q z μ ∧ True))) 125 [(0, .ref a0), (1, .ref a1), (2, iv z418)] [] (mk w μ) 0 0 := by
                intro nL419
                induction nL419 with
                | zero => intro z418 _ h420 h424 W425; exact ((vc_X12_marked_1 h424 h420)).elim
                | succ nL419 ih426 =>
                  intro z418 _ h420 h424 W425
                  refine mr_iload_n (pc := 125) (z := z418) dX7_isAlike_125 rfl rfl ?_
                  refine sv_aload_n (pc := 126) dX7_isAlike_126 rfl rfl ?_
                  refine gk_X7_8 (pc := 127) dX7_isAlike_127 wF_X7_41 hA0 q50 ?_
                  refine mr_icmp_ge (pc := 130) (tgt := 156) dX7_isAlike_130 (by decide) (r32 h420 rfl) (r32 h51 rfl) (fun h427 => ?_) (fun h427 => ?_)
                  · refine mr_iconst (pc := 156) (z := 1) dX7_isAlike_156 ?_
                    exact mr_zretP dX7_isAlike_157 rfl (rW (c := 0) (d := 1) (rR (x := 1)) rfl) (le_t rfl) (le_t rfl) ⟨(rW (c := 0) (d := 1) (rR (x := 1)) rfl), ((W425 z418 rfl h420).1 h427), trivial⟩
                  have h428 : 0 ≤ z418 ∧ z418 ≤ 7 := (vc_X7_isAlike_W_8 h427 h55 h420 h51 h54)
                  have h429 : 1 ≤ z49 ∧ z49 ≤ 8 := (vc_X7_isAlike_W_9 h427 h55 h428 h51 h54)
                  refine sv_aload_n (pc := 133) dX7_isAlike_133 rfl rfl ?_
                  refine gf_X7_1 (pc := 134) dX7_isAlike_134 wF_X7_15 hA0 hT fun A430 => ?_
                  refine mr_iload_n (pc := 137) (z := z418) dX7_isAlike_137 rfl rfl ?_
                  refine la_202 (pc := 138) dX7_isAlike_138 A430 hT (rIx (n := 8) h428 rfl) fun z431 q432 h433 => ?_
                  refine sv_aload_n (pc := 139) dX7_isAlike_139 rfl rfl ?_
                  refine gf_X7_1 (pc := 140) dX7_isAlike_140 wF_X7_15 hA1 hT fun A434 => ?_
                  refine mr_iload_n (pc := 143) (z := z418) dX7_isAlike_143 rfl rfl ?_
                  refine la_202 (pc := 144) dX7_isAlike_144 A434 hT (rIx (n := 8) h428 rfl) fun z435 q436 h437 => ?_
                  refine mr_icmp_eq (pc := 145) (tgt := 150) dX7_isAlike_145 (by decide) h433 h437 (fun h438 => ?_) (fun h438 => ?_)
                  · refine mr_iinc (pc := 150) (lv' := [(2, iv (z418 + 1)), (0, .ref a0), (1, .ref a1)]) dX7_isAlike_150 rfl (by decide) rfl ?_
                    refine sv_goto (pc := 153) (tgt := 125) dX7_isAlike_153 (by decide) ?_
                    refine mr_lvS (lv' := [(0, .ref a0), (1, .ref a1), (2, iv (z418 + 1))]) (List.forall_mem_cons.mpr ⟨rfl, List.forall_mem_cons.mpr ⟨rfl, List.forall_mem_cons.mpr ⟨rfl, fun _ h => absurd h List.not_mem_nil⟩⟩⟩) ?_
                    exact ih426 (z418 + 1) trivial (rW (c := 0) (d := 8) (rAdd (e := 1) (f := 8) h428 (rR (x := 1)) rfl) rfl) (vc_X7_isAlike_W_10 (nS h424) h427 h55 h428 h429 h54) (((((W425 z418 rfl h420).2 h427) z431 q432 h433) z435 q436 h437).1 h438)
                  refine mr_iconst (pc := 148) (z := 0) dX7_isAlike_148 ?_
                  exact mr_zretP dX7_isAlike_149 rfl (rW (c := 0) (d := 1) (rR (x := 0)) rfl) (le_t rfl) (le_t rfl) ⟨(rW (c := 0) (d := 1) (rR (x := 0)) rfl), (((((W425 z418 rfl h420).2 h427) z431 q432 h433) z435 q436 h437).2 h438), trivial⟩
              refine mr_lvS (lv' := [(0, .ref a0), (1, .ref a1), (2, iv 0)]) (List.forall_mem_cons.mpr ⟨rfl, List.forall_mem_cons.mpr ⟨rfl, List.forall_mem_cons.mpr ⟨rfl, fun _ h => absurd h List.not_mem_nil⟩⟩⟩) ?_
              exact L419 10 0 trivial (rW (c := 0) (d := 8) (rR (x := 0)) rfl) vc_X12_marked_10 ((W360 z353 rfl h355).1 h362)
            have h439 : 0 ≤ z353 ∧ z353 ≤ 19 := (vc_X7_isAlike_W_12 h362 h48 h355 h43 h46)
            have h440 : 1 ≤ z41 ∧ z41 ≤ 20 := (vc_X7_isAlike_W_13 h362 h48 h439 h43 h46)
            refine sv_aload_n (pc := 100) dX7_isAlike_100 rfl rfl ?_
            refine gf_X7_0 (pc := 101) dX7_isAlike_101 wF_X7_9 hA0 hT fun A441 => ?_
            refine mr_iload_n (pc := 104) (z := z353) dX7_isAlike_104 rfl rfl ?_
            refine la_201 (pc := 105) dX7_isAlike_105 A441 hT (rIx (n := 20) h439 rfl) fun z442 q443 h444 => ?_
            refine sv_aload_n (pc := 106) dX7_isAlike_106 rfl rfl ?_
            refine gf_X7_0 (pc := 107) dX7_isAlike_107 wF_X7_9 hA1 hT fun A445 => ?_
            refine mr_iload_n (pc := 110) (z := z353) dX7_isAlike_110 rfl rfl ?_
            refine la_201 (pc := 111) dX7_isAlike_111 A445 hT (rIx (n := 20) h439 rfl) fun z446 q447 h448 => ?_
            refine mr_icmp_eq (pc := 112) (tgt := 117) dX7_isAlike_112 (by decide) h444 h448 (fun h449 => ?_) (fun h449 => ?_)
            · refine mr_iinc (pc := 117) (lv' := [(2, iv (z353 + 1)), (0, .ref a0), (1, .ref a1)]) dX7_isAlike_117 rfl (by decide) rfl ?_
              refine sv_goto (pc := 120) (tgt := 92) dX7_isAlike_120 (by decide) ?_
              refine mr_lvS (lv' := [(0, .ref a0), (1, .ref a1), (2, iv (z353 + 1))]) (List.forall_mem_cons.mpr ⟨rfl, List.forall_mem_cons.mpr ⟨rfl, List.forall_mem_cons.mpr ⟨rfl, fun _ h => absurd h List.not_mem_nil⟩⟩⟩) ?_
              exact ih361 (z353 + 1) trivial (rW (c := 0) (d := 20) (rAdd (e := 1) (f := 20) h439 (rR (x := 1)) rfl) rfl) (vc_X7_isAlike_W_14 (nS h359) h362 h48 h439 h440 h46) (((((W360 z353 rfl h355).2 h362) z442 q443 h444) z446 q447 h448).1 h449)
            refine mr_iconst (pc := 115) (z := 0) dX7_isAlike_115 ?_
            exact mr_zretP dX7_isAlike_116 rfl (rW (c := 0) (d := 1) (rR (x := 0)) rfl) (le_t rfl) (le_t rfl) ⟨(rW (c := 0) (d := 1) (rR (x := 0)) rfl), (((((W360 z353 rfl h355).2 h362) z442 q443 h444) z446 q447 h448).2 h449), trivial⟩
        refine mr_lvS (lv' := [(0, .ref a0), (1, .ref a1), (2, iv 0)]) (List.forall_mem_cons.mpr ⟨rfl, List.forall_mem_cons.mpr ⟨rfl, List.forall_mem_cons.mpr ⟨rfl, fun _ h => absurd h List.not_mem_nil⟩⟩⟩) ?_
        exact L354 22 0 trivial (rW (c := 0) (d := 20) (rR (x := 0)) rfl) vc_X12_tieOf_12 ((((W47.2 h48) z49 q50 h51) z52 q53 h54).1 h55)
      refine mr_iconst (pc := 88) (z := 0) dX7_isAlike_88 ?_
      exact mr_zretP dX7_isAlike_89 rfl (rW (c := 0) (d := 1) (rR (x := 0)) rfl) (le_t rfl) (le_t rfl) ⟨(rW (c := 0) (d := 1) (rR (x := 0)) rfl), ((((W47.2 h48) z49 q50 h51) z52 q53 h54).2 h55), trivial⟩
    refine mr_iconst (pc := 64) (z := 0) dX7_isAlike_64 ?_
    exact mr_zretP dX7_isAlike_65 rfl (rW (c := 0) (d := 1) (rR (x := 0)) rfl) (le_t rfl) (le_t rfl) ⟨(rW (c := 0) (d := 1) (rR (x := 0)) rfl), (((((((((((((hQ z1 q2 h3).2 h4) z15 q16 h17).1 h18) z20 q21 h22) z23 q24 h25).2 h26) z27 q28 h29) z30 q31 h32).2 h33) z34 q35 h36) z37 q38 h39).2 h40), trivial⟩
  have h450 : 0 ≤ z15 ∧ z15 ≤ 0 := (vc_X12_ring_22 h18 h17)
  refine sv_aload_n (pc := 14) dX7_isAlike_14 rfl rfl ?_
  refine gk_X7_2 (pc := 15) dX7_isAlike_15 wF_X7_22 hA0 q2 ?_
  refine sv_aload_n (pc := 18) dX7_isAlike_18 rfl rfl ?_
  refine gk_X7_2 (pc := 19) dX7_isAlike_19 wF_X7_22 hA1 q16 ?_
  refine mr_icmp_ne (pc := 22) (tgt := 29) dX7_isAlike_22 (by decide) (r32 h14 rfl) (r32 h450 rfl) (fun _ => ?_) (fun h => ((vc_X7_isAlike_W_17 h h14 h450)).elim)
  refine mr_iconst (pc := 29) (z := 0) dX7_isAlike_29 ?_
  exact mr_zretP dX7_isAlike_30 rfl (rW (c := 0) (d := 1) (rR (x := 0)) rfl) (le_t rfl) (le_t rfl) ⟨(rW (c := 0) (d := 1) (rR (x := 0)) rfl), ((((hQ z1 q2 h3).2 h4) z15 q16 h17).2 h18), trivial⟩
def WP_X7_become_W (w : mW) (μ : mM) (a0 : Nat) (a1 : Nat) (Q : mM → Prop) : Prop := ∀ z1 : Int, μ a1 2 = z1 → (0 ≤ z1 ∧ z1 ≤ 1) → ∀ μ4 : mM, mU μ a0 (2) z1 μ4 → mT w μ4 → ∀ z7 : Int, μ4 a1 3 = z7 → (0 ≤ z7 ∧ z7 ≤ 9) → ∀ μ10 : mM, mU μ4 a0 (3) z7 μ10 → mT w μ10 → ∀ z13 : Int, μ10 a1 4 = z13 → ((-2147483648) ≤ z13 ∧ z13 ≤ 2147483647) → ∀ μ16 : mM, mU μ10 a0 (4) z13 μ16 → mT w μ16 → ∀ z19 : Int, μ16 a1 5 = z19 → ((-2147483648) ≤ z19 ∧ z19 ≤ 2147483647) → ∀ μ22 : mM, mU μ16 a0 (5) z19 μ22 → mT w μ22 → ∀ z25 : Int, μ22 a1 6 = z25 → ((-2147483648) ≤ z25 ∧ z25 ≤ 2147483647) → ∀ μ28 : mM, mU μ22 a0 (6) z25 μ28 → mT w μ28 → ∀ z31 : Int, μ28 a1 7 = z31 → (0 ≤ z31 ∧ z31 ≤ 20) → ∀ μ34 : mM, mU μ28 a0 (7) z31 μ34 → mT w μ34 → ∀ z37 : Int, μ34 a1 8 = z37 → (0 ≤ z37 ∧ z37 ≤ 8) → ∀ μ40 : mM, mU μ34 a0 (8) z37 μ40 → mT w μ40 → ∀ z45 : Int, μ40 a1 7 = z45 → (0 ≤ z45 ∧ z45 ≤ 20) → ∀ μ48 : mM, mQ μ40 (a1 + 1) (a0 + 1) (0 : Int) (0 : Int) z45 μ48 → mT w μ48 → ∀ z54 : Int, μ48 a1 8 = z54 → (0 ≤ z54 ∧ z54 ≤ 8) → ∀ μ57 : mM, mQ μ48 (a1 + 2) (a0 + 2) (0 : Int) (0 : Int) z54 μ57 → mT w μ57 → Q μ57
theorem vc_X7_become_W_2 {z45 : Int} (h0 : 0 ≤ z45 ∧ z45 ≤ 20) : 0 ≤ z45 := by omega
theorem vc_X7_become_W_3 {z45 : Int} (h0 : 0 ≤ z45 ∧ z45 ≤ 20) : 0 + z45 ≤ ((20 : Nat) : Int) := by omega
theorem vc_X7_become_W_4 {z54 : Int} (h0 : 0 ≤ z54 ∧ z54 ≤ 8) : 0 ≤ z54 := by omega
theorem vc_X7_become_W_5 {z54 : Int} (h0 : 0 ≤ z54 ∧ z54 ≤ 8) : 0 + z54 ≤ ((8 : Nat) : Int) := by omega
set_option maxRecDepth 4000 in
set_option maxHeartbeats 4000000 in
theorem c_X7_become_W {l : Launch} {D : va_G} {c : Nat → ClassId} {H0 : Heap} {sa : Nat × Nat × (Nat → Int32)} {w : mW} {μ : mM} (hw : mWF w) (hT : mT w μ) {a0 : Nat} (hA0 : mAt w a0 200) {a1 : Nat} (hA1 : mAt w a1 200) {Q : mM → Prop} (hQ : WP_X7_become_W w μ a0 a1 Q) : sC (gG l D c H0 sa) mX7_become 3 0 0 [.ref a0, .ref a1] (mk w μ) (qV w [200002, 200003, 200004, 200005, 200006, 200007, 200008, 201999, 202999] μ (fun μ1 => Q μ1 ∧ True)) := by
  refine sC.of rfl (by decide) (le_t rfl) ?_
  refine mr_lvE (lv' := [(0, .ref a0), (1, .ref a1)]) rfl ?_
  refine sv_aload_n (pc := 0) dX7_become_0 rfl rfl ?_
  refine sv_aload_n (pc := 1) dX7_become_1 rfl rfl ?_
  refine gf_X7_2 (pc := 2) dX7_become_2 wF_X7_22 hA1 hT fun z1 q2 h3 => ?_
  refine pf_X7_2 (pc := 5) dX7_become_5 wF_X7_22 hA0 hT h3 fun μ4 u5 T6 => ?_
  refine sv_aload_n (pc := 8) dX7_become_8 rfl rfl ?_
  refine sv_aload_n (pc := 9) dX7_become_9 rfl rfl ?_
  refine gf_X7_3 (pc := 10) dX7_become_10 wF_X7_26 hA1 T6 fun z7 q8 h9 => ?_
  refine pf_X7_3 (pc := 13) dX7_become_13 wF_X7_26 hA0 T6 h9 fun μ10 u11 T12 => ?_
  refine sv_aload_n (pc := 16) dX7_become_16 rfl rfl ?_
  refine sv_aload_n (pc := 17) dX7_become_17 rfl rfl ?_
  refine gf_X7_4 (pc := 18) dX7_become_18 wF_X7_29 hA1 T12 fun z13 q14 h15 => ?_
  refine pf_X7_4 (pc := 21) dX7_become_21 wF_X7_29 hA0 T12 h15 fun μ16 u17 T18 => ?_
  refine sv_aload_n (pc := 24) dX7_become_24 rfl rfl ?_
  refine sv_aload_n (pc := 25) dX7_become_25 rfl rfl ?_
  refine gf_X7_5 (pc := 26) dX7_become_26 wF_X7_32 hA1 T18 fun z19 q20 h21 => ?_
  refine pf_X7_5 (pc := 29) dX7_become_29 wF_X7_32 hA0 T18 h21 fun μ22 u23 T24 => ?_
  refine sv_aload_n (pc := 32) dX7_become_32 rfl rfl ?_
  refine sv_aload_n (pc := 33) dX7_become_33 rfl rfl ?_
  refine gf_X7_6 (pc := 34) dX7_become_34 wF_X7_35 hA1 T24 fun z25 q26 h27 => ?_
  refine pf_X7_6 (pc := 37) dX7_become_37 wF_X7_35 hA0 T24 h27 fun μ28 u29 T30 => ?_
  refine sv_aload_n (pc := 40) dX7_become_40 rfl rfl ?_
  refine sv_aload_n (pc := 41) dX7_become_41 rfl rfl ?_
  refine gf_X7_7 (pc := 42) dX7_become_42 wF_X7_38 hA1 T30 fun z31 q32 h33 => ?_
  refine pf_X7_7 (pc := 45) dX7_become_45 wF_X7_38 hA0 T30 h33 fun μ34 u35 T36 => ?_
  refine sv_aload_n (pc := 48) dX7_become_48 rfl rfl ?_
  refine sv_aload_n (pc := 49) dX7_become_49 rfl rfl ?_
  refine gf_X7_8 (pc := 50) dX7_become_50 wF_X7_41 hA1 T36 fun z37 q38 h39 => ?_
  refine pf_X7_8 (pc := 53) dX7_become_53 wF_X7_41 hA0 T36 h39 fun μ40 u41 T42 => ?_
  refine sv_aload_n (pc := 56) dX7_become_56 rfl rfl ?_
  refine gf_X7_0 (pc := 57) dX7_become_57 wF_X7_9 hA1 T42 fun A43 => ?_
  refine mr_iconst (pc := 60) (z := 0) dX7_become_60 ?_
  refine sv_aload_n (pc := 61) dX7_become_61 rfl rfl ?_
  refine gf_X7_0 (pc := 62) dX7_become_62 wF_X7_9 hA0 T42 fun A44 => ?_
  refine mr_iconst (pc := 65) (z := 0) dX7_become_65 ?_
  refine sv_aload_n (pc := 66) dX7_become_66 rfl rfl ?_
  refine gf_X7_7 (pc := 67) dX7_become_67 wF_X7_38 hA1 T42 fun z45 q46 h47 => ?_
  refine mr_ac (pc := 70) (sp := 0) (dp := 0) (n := z45) dX7_become_70 wM_X7_44 wN_J_ac wS_J_ac wI_J_sys rfl A43 rfl A44 rfl vc_X2_send_2 vc_X2_send_2 (vc_X7_become_W_2 h47) (by have h := A43.2.2.2 rfl; rw [h]; exact (vc_X7_become_W_3 h47)) (by have h := A44.2.2.2 rfl; rw [h]; exact (vc_X7_become_W_3 h47)) (Nat.le_trans A43.2.2.1 (le_t rfl)) (Nat.le_trans A44.2.2.1 (le_t rfl)) (le_t rfl) (le_t rfl) (le_t rfl) T42 (fun i j _ _ => rW (T42 _ _ A43 i) rfl) fun μ48 q49 T50 => ?_
  have F51 : mF [201999] w μ40 μ48 := mF.cell q49.1 A44 rfl
  refine sv_aload_n (pc := 73) dX7_become_73 rfl rfl ?_
  refine gf_X7_1 (pc := 74) dX7_become_74 wF_X7_15 hA1 T50 fun A52 => ?_
  refine mr_iconst (pc := 77) (z := 0) dX7_become_77 ?_
  refine sv_aload_n (pc := 78) dX7_become_78 rfl rfl ?_
  refine gf_X7_1 (pc := 79) dX7_become_79 wF_X7_15 hA0 T50 fun A53 => ?_
  refine mr_iconst (pc := 82) (z := 0) dX7_become_82 ?_
  refine sv_aload_n (pc := 83) dX7_become_83 rfl rfl ?_
  refine gf_X7_8 (pc := 84) dX7_become_84 wF_X7_41 hA1 T50 fun z54 q55 h56 => ?_
  refine mr_ac (pc := 87) (sp := 0) (dp := 0) (n := z54) dX7_become_87 wM_X7_44 wN_J_ac wS_J_ac wI_J_sys rfl A52 rfl A53 rfl vc_X2_send_2 vc_X2_send_2 (vc_X7_become_W_4 h56) (by have h := A52.2.2.2 rfl; rw [h]; exact (vc_X7_become_W_5 h56)) (by have h := A53.2.2.2 rfl; rw [h]; exact (vc_X7_become_W_5 h56)) (Nat.le_trans A52.2.2.1 (le_t rfl)) (Nat.le_trans A53.2.2.1 (le_t rfl)) (le_t rfl) (le_t rfl) (le_t rfl) T50 (fun i j _ _ => rW (T50 _ _ A52 i) rfl) fun μ57 q58 T59 => ?_
  have F60 : mF [202999] w μ48 μ57 := mF.cell q58.1 A53 rfl
  exact mr_vret dX7_become_90 rfl (le_t rfl) (le_t rfl) T59 (mF.call (mF.call (mF.up (mF.up (mF.up (mF.up (mF.up (mF.up (mF.up mF.refl hA0 u5 rfl) hA0 u11 rfl) hA0 u17 rfl) hA0 u23 rfl) hA0 u29 rfl) hA0 u35 rfl) hA0 u41 rfl) F51 rfl) F60 rfl) ⟨((((((((((((((((((hQ z1 q2 h3) μ4 u5 T6) z7 q8 h9) μ10 u11 T12) z13 q14 h15) μ16 u17 T18) z19 q20 h21) μ22 u23 T24) z25 q26 h27) μ28 u29 T30) z31 q32 h33) μ34 u35 T36) z37 q38 h39) μ40 u41 T42) z45 q46 h47) μ48 q49 T50) z54 q55 h56) μ57 q58 T59), trivial⟩
def WP_X7_vanish_W (w : mW) (μ : mM) (a0 : Nat) (Q : mM → Prop) : Prop := ∀ μ1 : mM, mU μ a0 (2) (0 : Int) μ1 → mT w μ1 → ∀ μ4 : mM, mU μ1 a0 (9) ((-1) : Int) μ4 → mT w μ4 → Q μ4
set_option maxRecDepth 4000 in
set_option maxHeartbeats 4000000 in
theorem c_X7_vanish_W {l : Launch} {D : va_G} {c : Nat → ClassId} {H0 : Heap} {sa : Nat × Nat × (Nat → Int32)} {w : mW} {μ : mM} (hw : mWF w) (hT : mT w μ) {a0 : Nat} (hA0 : mAt w a0 200) {Q : mM → Prop} (hQ : WP_X7_vanish_W w μ a0 Q) : sC (gG l D c H0 sa) mX7_vanish 1 0 0 [.ref a0] (mk w μ) (qV w [200002, 200009] μ (fun μ1 => Q μ1 ∧ True)) := by
  refine sC.of rfl (by decide) (le_t rfl) ?_
  refine mr_lvE (lv' := [(0, .ref a0)]) rfl ?_
  refine sv_aload_n (pc := 0) dX7_vanish_0 rfl rfl ?_
  refine mr_iconst (pc := 1) (z := 0) dX7_vanish_1 ?_
  refine pf_X7_2 (pc := 2) dX7_vanish_2 wF_X7_22 hA0 hT (rW (c := 0) (d := 1) (rR (x := 0)) rfl) fun μ1 u2 T3 => ?_
  refine sv_aload_n (pc := 5) dX7_vanish_5 rfl rfl ?_
  refine mr_iconst (pc := 6) (z := (-1)) dX7_vanish_6 ?_
  refine pf_X7_9 (pc := 7) dX7_vanish_7 wF_X7_18 hA0 T3 (rW (c := (-1)) (d := 2000000000) (rR (x := (-1))) rfl) fun μ4 u5 T6 => ?_
  exact mr_vret dX7_vanish_10 rfl (le_t rfl) (le_t rfl) T6 (mF.up (mF.up mF.refl hA0 u2 rfl) hA0 u5 rfl) ⟨((hQ μ1 u2 T3) μ4 u5 T6), trivial⟩
def WL_X7_putInFront_W_2 (w : mW) (a0 : Nat) (p1 : Int) (p2 : Int) (Q : Int → mM → Prop) (z1 : Int) (μ368 : mM) (rec2 : (Int × mM) → Prop) (s : (Int × mM)) : Prop := ∀ z489 : Int, ∀ μ490 : mM, s = (z489, μ490) → (0 ≤ z489 ∧ z489 ≤ 20) → mT w μ490 → mF [201999] w μ368 μ490 → ((p2 ≤ z489) → ∀ μ506 : mM, mU μ490 a0 (7) (z1 + p2) μ506 → mT w μ506 → Q (1 : Int) μ506) ∧ ((z489 < p2) → ∀ μ512 : mM, mU μ490 (a0 + 1) (z489.toNat) p1 μ512 → mT w μ512 → rec2 ((z489 + 1), μ512))
def WL_X7_putInFront_W_1 (w : mW) (μ : mM) (a0 : Nat) (p1 : Int) (p2 : Int) (Q : Int → mM → Prop) (z1 : Int) (rec1 : (Int × mM) → Prop) (s : (Int × mM)) : Prop := ∀ z367 : Int, ∀ μ368 : mM, s = (z367, μ368) → ((-1) ≤ z367 ∧ z367 ≤ 19) → mT w μ368 → mF [201999] w μ μ368 → ((z367 < 0) → loopF (WL_X7_putInFront_W_2 w a0 p1 p2 Q z1 μ368) False 22 ((0 : Int), μ368)) ∧ ((0 ≤ z367) → ∀ z518 : Int, μ368 (a0 + 1) (z367.toNat) = z518 → ((-2147483648) ≤ z518 ∧ z518 ≤ 2147483647) → ∀ μ521 : mM, mU μ368 (a0 + 1) ((z367 + p2).toNat) z518 μ521 → mT w μ521 → rec1 ((z367 + (-1)), μ521))
def WP_X7_putInFront_W (w : mW) (μ : mM) (a0 : Nat) (p1 : Int) (p2 : Int) (Q : Int → mM → Prop) : Prop := ∀ z1 : Int, μ a0 7 = z1 → (0 ≤ z1 ∧ z1 ≤ 20) → ((p2 < 0) → Q (0 : Int) μ) ∧ ((0 ≤ p2) → (((z1 + p2) ≤ 20) → loopF (WL_X7_putInFront_W_1 w μ a0 p1 p2 Q z1) False 22 ((z1 - 1), μ)) ∧ ((20 < (z1 + p2)) → Q (0 : Int) μ))
theorem vc_X7_putInFront_W_1 {p2 : Int} (h0 : p2 < 0) (h1 : (-2147483648) ≤ p2 ∧ p2 ≤ 1000000) : (-2147483648) ≤ p2 ∧ p2 ≤ (-1) := by omega
theorem vc_X7_putInFront_W_2 {p2 : Int} (h0 : 0 ≤ p2) (h1 : (-2147483648) ≤ p2 ∧ p2 ≤ 1000000) : 0 ≤ p2 ∧ p2 ≤ 1000000 := by omega
theorem vc_X7_putInFront_W_3 {p2 z1 : Int} (h0 : (z1 + p2) ≤ 20) (h1 : 0 ≤ p2) (h2 : 0 ≤ p2 ∧ p2 ≤ 1000000) (h3 : 0 ≤ z1 ∧ z1 ≤ 20) : 0 ≤ p2 ∧ p2 ≤ 20 := by omega
theorem vc_X7_putInFront_W_4 {p2 z1 z367 : Int} (h0 : (z367 - (-2)) < ((0 : Nat) : Int)) (h1 : z367 < z1) (h2 : (z1 + p2) ≤ 20) (h3 : 0 ≤ p2 ∧ p2 ≤ 20) (h4 : 0 ≤ z1 ∧ z1 ≤ 20) (h5 : (-1) ≤ z367 ∧ z367 ≤ 19) : False := by omega
theorem vc_X7_putInFront_W_5 {z1 z367 : Int} (h0 : z367 < 0) (h1 : z367 < z1) (h2 : 0 ≤ z1 ∧ z1 ≤ 20) (h3 : (-1) ≤ z367 ∧ z367 ≤ 19) : (-1) ≤ z367 ∧ z367 ≤ (-1) := by omega
theorem vc_X7_putInFront_W_7 {p2 z1 z367 z489 : Int} (h0 : 0 ≤ p2) (h1 : (z1 + p2) ≤ 20) (h2 : z367 < z1) (h3 : p2 ≤ z489) (h4 : z367 < 0) (h5 : 0 ≤ p2 ∧ p2 ≤ 20) (h6 : 0 ≤ z1 ∧ z1 ≤ 20) (h7 : (-1) ≤ z367 ∧ z367 ≤ (-1)) (h8 : 0 ≤ z489 ∧ z489 ≤ 20) : 0 ≤ (z1 + p2) ∧ (z1 + p2) ≤ 20 := by omega
theorem vc_X7_putInFront_W_8 {p2 z1 z489 : Int} (h0 : z489 < p2) (h1 : 0 ≤ p2) (h2 : (z1 + p2) ≤ 20) (h3 : 0 ≤ p2 ∧ p2 ≤ 20) (h4 : 0 ≤ z1 ∧ z1 ≤ 20) (h5 : 0 ≤ z489 ∧ z489 ≤ 20) : 0 ≤ z489 ∧ z489 ≤ 19 := by omega
theorem vc_X7_putInFront_W_9 {p2 z1 z489 : Int} (h0 : z489 < p2) (h1 : 0 ≤ p2) (h2 : (z1 + p2) ≤ 20) (h3 : 0 ≤ p2 ∧ p2 ≤ 20) (h4 : 0 ≤ z1 ∧ z1 ≤ 20) (h5 : 0 ≤ z489 ∧ z489 ≤ 19) : 1 ≤ p2 ∧ p2 ≤ 20 := by omega
theorem vc_X7_putInFront_W_10 {N p2 z1 z489 : Int} (h0 : (21 - z489) < N + 1) (h1 : z489 < p2) (h2 : 0 ≤ p2) (h3 : (z1 + p2) ≤ 20) (h4 : 1 ≤ p2 ∧ p2 ≤ 20) (h5 : 0 ≤ z1 ∧ z1 ≤ 20) (h6 : 0 ≤ z489 ∧ z489 ≤ 19) : (21 - (z489 + 1)) < N := by omega
theorem vc_X7_putInFront_W_12 {z1 z367 : Int} (h0 : 0 ≤ z367) (h1 : z367 < z1) (h2 : 0 ≤ z1 ∧ z1 ≤ 20) (h3 : (-1) ≤ z367 ∧ z367 ≤ 19) : 0 ≤ z367 ∧ z367 ≤ 19 := by omega
theorem vc_X7_putInFront_W_13 {p2 z1 z367 : Int} (h0 : 0 ≤ p2) (h1 : (z1 + p2) ≤ 20) (h2 : z367 < z1) (h3 : 0 ≤ z367) (h4 : 0 ≤ p2 ∧ p2 ≤ 20) (h5 : 0 ≤ z1 ∧ z1 ≤ 20) (h6 : 0 ≤ z367 ∧ z367 ≤ 19) : 0 ≤ (z367 + p2) ∧ (z367 + p2) < 20 := by omega
theorem vc_X7_putInFront_W_14 {p2 z1 z367 : Int} (h0 : (z1 + p2) ≤ 20) (h1 : z367 < z1) (h2 : 0 ≤ z367) (h3 : 0 ≤ p2) (h4 : 0 ≤ p2 ∧ p2 ≤ 20) (h5 : 0 ≤ z1 ∧ z1 ≤ 20) (h6 : 0 ≤ z367 ∧ z367 ≤ 19) : (z367 + (-1)) < z1 := by omega
theorem vc_X7_putInFront_W_15 {N p2 z1 z367 : Int} (h0 : (z367 - (-2)) < N + 1) (h1 : z367 < z1) (h2 : 0 ≤ z367) (h3 : (z1 + p2) ≤ 20) (h4 : 0 ≤ p2 ∧ p2 ≤ 20) (h5 : 0 ≤ z1 ∧ z1 ≤ 20) (h6 : 0 ≤ z367 ∧ z367 ≤ 19) : ((z367 + (-1)) - (-2)) < N := by omega
theorem vc_X7_putInFront_W_16 {p2 z1 : Int} (h0 : (z1 + p2) ≤ 20) (h1 : 0 ≤ p2) (h2 : 0 ≤ p2 ∧ p2 ≤ 20) (h3 : 0 ≤ z1 ∧ z1 ≤ 20) : (z1 - 1) < z1 := by omega
theorem vc_X7_putInFront_W_17 {p2 z1 : Int} (h0 : (z1 + p2) ≤ 20) (h1 : 0 ≤ p2) (h2 : 0 ≤ p2 ∧ p2 ≤ 20) (h3 : 0 ≤ z1 ∧ z1 ≤ 20) : ((z1 - 1) - (-2)) < ((22 : Nat) : Int) := by omega
theorem vc_X7_putInFront_W_18 {p2 z1 : Int} (h0 : 20 < (z1 + p2)) (h1 : 0 ≤ p2) (h2 : 0 ≤ p2 ∧ p2 ≤ 1000000) (h3 : 0 ≤ z1 ∧ z1 ≤ 20) : 1 ≤ p2 ∧ p2 ≤ 1000000 := by omega
set_option maxRecDepth 4000 in
set_option maxHeartbeats 4000000 in
theorem c_X7_putInFront_W {l : Launch} {D : va_G} {c : Nat → ClassId} {H0 : Heap} {sa : Nat × Nat × (Nat → Int32)} {w : mW} {μ : mM} (hw : mWF w) (hT : mT w μ) {a0 : Nat} (hA0 : mAt w a0 200) {p1 : Int} (hp1 : (-2147483648) ≤ p1 ∧ p1 ≤ 2147483647) {p2 : Int} (hp2 : (-2147483648) ≤ p2 ∧ p2 ≤ 1000000) {Q : Int → mM → Prop} (hQ : WP_X7_putInFront_W w μ a0 p1 p2 Q) : sC (gG l D c H0 sa) mX7_putInFront 1 0 0 [.ref a0, iv p1, iv p2] (mk w μ) (qI w [200007, 201999] μ (fun z μ1 => (0 ≤ z ∧ z ≤ 1) ∧ Q z μ1 ∧ True)) := by
  refine sC.of rfl (by decide) (le_t rfl) ?_
  obtain ⟨z1, q2⟩ : ∃ z, μ a0 7 = z := ⟨_, rfl⟩
  have h3 : (0 ≤ z1 ∧ z1 ≤ 20) := by rw [← q2]; exact hT a0 200 hA0 7
  refine mr_lvE (lv' := [(0, .ref a0), (1, iv p1), (2, iv p2)]) rfl ?_
  refine mr_iload_n (pc := 0) (z := p2) dX7_putInFront_0 rfl rfl ?_
  refine mr_if_lt (pc := 1) (tgt := 15) dX7_putInFront_1 (by decide) (r32 hp2 rfl) (fun h292 => ?_) (fun h292 => ?_)
  · have h293 : (-2147483648) ≤ p2 ∧ p2 ≤ (-1) := (vc_X7_putInFront_W_1 h292 hp2)
    refine mr_iconst (pc := 15) (z := 0) dX7_putInFront_15 ?_
    exact mr_zret dX7_putInFront_16 rfl (rW (c := 0) (d := 1) (rR (x := 0)) rfl) (le_t rfl) (le_t rfl) hT mF.refl ⟨(rW (c := 0) (d := 1) (rR (x := 0)) rfl), ((hQ z1 q2 h3).1 h292), trivial⟩
  have h294 : 0 ≤ p2 ∧ p2 ≤ 1000000 := (vc_X7_putInFront_W_2 h292 hp2)
  refine sv_aload_n (pc := 4) dX7_putInFront_4 rfl rfl ?_
  refine gk_X7_7 (pc := 5) dX7_putInFront_5 wF_X7_38 hA0 q2 ?_
  refine mr_iload_n (pc := 8) (z := p2) dX7_putInFront_8 rfl rfl ?_
  refine mr_iadd (pc := 9) (x := z1) (y := p2) dX7_putInFront_9 ?_
  refine mr_bipush (pc := 10) (z := 20) dX7_putInFront_10 (by decide) ?_
  refine mr_icmp_le (pc := 12) (tgt := 17) dX7_putInFront_12 (by decide) (r32 (rAdd (e := 0) (f := 1000020) h3 h294 rfl) rfl) (r32 (rR (x := 20)) rfl) (fun h295 => ?_) (fun h295 => ?_)
  · have h296 : 0 ≤ p2 ∧ p2 ≤ 20 := (vc_X7_putInFront_W_3 h295 h292 h294 h3)
    refine sv_aload_n (pc := 17) dX7_putInFront_17 rfl rfl ?_
    refine gk_X7_7 (pc := 18) dX7_putInFront_18 wF_X7_38 hA0 q2 ?_
    refine mr_iconst (pc := 21) (z := 1) dX7_putInFront_21 ?_
    refine mr_isub (pc := 22) (x := z1) (y := 1) dX7_putInFront_22 ?_
    refine mr_istore_n (pc := 23) (lv' := [(3, iv (z1 - 1)), (0, .ref a0), (1, iv p1), (2, iv p2)]) dX7_putInFront_23 rfl (by decide) rfl ?_
    have L369 : ∀ (nL369 : Nat) (z367 : Int) (μ368 : mM), mT w μ368 → mF [201999] w μ μ368 → ((-1) ≤ z367 ∧ z367 ≤ 19) → (z367 < z1) → (z367 - (-2)) < (nL369 : Int) → loopF (WL_X7_putInFront_W_1 w μ a0 p1 p2 Q z1) False nL369 (z367, μ368) → sV (gG l D c H0 sa) mX7_putInFront (sRm 1 0 0) (sZ (gG l D c H0 sa) 0 0 (qI w [200007, 201999] μ (fun z μ1 => (0 ≤ z ∧ z ≤ 1) ∧ Q z μ1 ∧ True))) 24 [(0, .ref a0), (1, iv p1), (2, iv p2), (3, iv z367)] [] (mk w μ368) 0 0 := by
      intro nL369
      induction nL369 with
      | zero => intro z367 μ368 T371 F372 h370 h374 h375 W376; exact ((vc_X7_putInFront_W_4 h375 h374 h295 h296 h3 h370)).elim
      | succ nL369 ih377 =>
        intro z367 μ368 T371 F372 h370 h374 h375 W376
        refine mr_iload_n (pc := 24) (z := z367) dX7_putInFront_24 rfl rfl ?_
        refine mr_if_lt (pc := 25) (tgt := 48) dX7_putInFront_25 (by decide) (r32 h370 rfl) (fun h388 => ?_) (fun h388 => ?_)
        · have h389 : (-1) ≤ z367 ∧ z367 ≤ (-1) := (vc_X7_putInFront_W_5 h388 h374 h3 h370)
          refine mr_iconst (pc := 48) (z := 0) dX7_putInFront_48 ?_
          refine mr_istore_n (pc := 49) (lv' := [(3, iv 0), (0, .ref a0), (1, iv p1), (2, iv p2)]) dX7_putInFront_49 rfl (by decide) rfl ?_
          have L491 : ∀ (nL491 : Nat) (z489 : Int) (μ490 : mM), mT w μ490 → mF [201999] w μ368 μ490 → (0 ≤ z489 ∧ z489 ≤ 20) → (21 - z489) < (nL491 : Int) → loopF (WL_X7_putInFront_W_2 w a0 p1 p2 Q z1 μ368) False nL491 (z489, μ490) → sV (gG l D c H0 sa) mX7_putInFront (sRm 1 0 0) (sZ (gG l D c H0 sa) 0 0 (qI w [200007, 201999] μ (fun z μ1 => (0 ≤ z ∧ z ≤ 1) ∧ Q z μ1 ∧ True))) 50 [(0, .ref a0), (1, iv p1), (2, iv p2), (3, iv z489)] [] (mk w μ490) 0 0 := by
            intro nL491
            induction nL491 with
            | zero => intro z489 μ490 T493 F494 h492 h496 W497; exact ((vc_X12_tieOf_1 h496 h492)).elim
            | succ nL491 ih498 =>
              intro z489 μ490 T493 F494 h492 h496 W497
              refine mr_iload_n (pc := 50) (z := z489) dX7_putInFront_50 rfl rfl ?_
              refine mr_iload_n (pc := 51) (z := p2) dX7_putInFront_51 rfl rfl ?_
              refine mr_icmp_ge (pc := 52) (tgt := 68) dX7_putInFront_52 (by decide) (r32 h492 rfl) (r32 h296 rfl) (fun h505 => ?_) (fun h505 => ?_)
              · refine sv_aload_n (pc := 68) dX7_putInFront_68 rfl rfl ?_
                refine sv_dup (pc := 69) dX7_putInFront_69 rfl ?_
                refine gk_X7_7 (pc := 70) dX7_putInFront_70 wF_X7_38 hA0 (F494.f hA0 rfl (F372.f hA0 rfl q2)) ?_
                refine mr_iload_n (pc := 73) (z := p2) dX7_putInFront_73 rfl rfl ?_
                refine mr_iadd (pc := 74) (x := z1) (y := p2) dX7_putInFront_74 ?_
                refine pf_X7_7 (pc := 75) dX7_putInFront_75 wF_X7_38 hA0 T493 (vc_X7_putInFront_W_7 h292 h295 h374 h505 h388 h296 h3 h389 h492) fun μ506 u507 T508 => ?_
                refine mr_iconst (pc := 78) (z := 1) dX7_putInFront_78 ?_
                exact mr_zret dX7_putInFront_79 rfl (rW (c := 0) (d := 1) (rR (x := 1)) rfl) (le_t rfl) (le_t rfl) T508 (mF.up (mF.call (mF.call mF.refl F372 rfl) F494 rfl) hA0 u507 rfl) ⟨(rW (c := 0) (d := 1) (rR (x := 1)) rfl), (((W497 z489 μ490 rfl h492 T493 F494).1 h505) μ506 u507 T508), trivial⟩
              have h509 : 0 ≤ z489 ∧ z489 ≤ 19 := (vc_X7_putInFront_W_8 h505 h292 h295 h296 h3 h492)
              have h510 : 1 ≤ p2 ∧ p2 ≤ 20 := (vc_X7_putInFront_W_9 h505 h292 h295 h296 h3 h509)
              refine sv_aload_n (pc := 55) dX7_putInFront_55 rfl rfl ?_
              refine gf_X7_0 (pc := 56) dX7_putInFront_56 wF_X7_9 hA0 T493 fun A511 => ?_
              refine mr_iload_n (pc := 59) (z := z489) dX7_putInFront_59 rfl rfl ?_
              refine mr_iload_n (pc := 60) (z := p1) dX7_putInFront_60 rfl rfl ?_
              refine ss_201 (pc := 61) dX7_putInFront_61 A511 T493 (rIx (n := 20) h509 rfl) hp1 fun μ512 u513 T514 => ?_
              refine mr_iinc (pc := 62) (lv' := [(3, iv (z489 + 1)), (0, .ref a0), (1, iv p1), (2, iv p2)]) dX7_putInFront_62 rfl (by decide) rfl ?_
              refine sv_goto (pc := 65) (tgt := 50) dX7_putInFront_65 (by decide) ?_
              refine mr_lvS (lv' := [(0, .ref a0), (1, iv p1), (2, iv p2), (3, iv (z489 + 1))]) (List.forall_mem_cons.mpr ⟨rfl, List.forall_mem_cons.mpr ⟨rfl, List.forall_mem_cons.mpr ⟨rfl, List.forall_mem_cons.mpr ⟨rfl, fun _ h => absurd h List.not_mem_nil⟩⟩⟩⟩) ?_
              exact ih498 (z489 + 1) μ512 T514 (mF.up (mF.call mF.refl F494 rfl) A511 u513 rfl) (rW (c := 0) (d := 20) (rAdd (e := 1) (f := 20) h509 (rR (x := 1)) rfl) rfl) (vc_X7_putInFront_W_10 (nS h496) h505 h292 h295 h510 h3 h509) (((W497 z489 μ490 rfl h492 T493 F494).2 h505) μ512 u513 T514)
          refine mr_lvS (lv' := [(0, .ref a0), (1, iv p1), (2, iv p2), (3, iv 0)]) (List.forall_mem_cons.mpr ⟨rfl, List.forall_mem_cons.mpr ⟨rfl, List.forall_mem_cons.mpr ⟨rfl, List.forall_mem_cons.mpr ⟨rfl, fun _ h => absurd h List.not_mem_nil⟩⟩⟩⟩) ?_
          exact L491 22 0 μ368 T371 mF.refl (rW (c := 0) (d := 20) (rR (x := 0)) rfl) vc_X12_tieOf_12 ((W376 z367 μ368 rfl h370 T371 F372).1 h388)
        have h515 : 0 ≤ z367 ∧ z367 ≤ 19 := (vc_X7_putInFront_W_12 h388 h374 h3 h370)
        refine sv_aload_n (pc := 28) dX7_putInFront_28 rfl rfl ?_
        refine gf_X7_0 (pc := 29) dX7_putInFront_29 wF_X7_9 hA0 T371 fun A516 => ?_
        refine mr_iload_n (pc := 32) (z := z367) dX7_putInFront_32 rfl rfl ?_
        refine mr_iload_n (pc := 33) (z := p2) dX7_putInFront_33 rfl rfl ?_
        refine mr_iadd (pc := 34) (x := z367) (y := p2) dX7_putInFront_34 ?_
        refine sv_aload_n (pc := 35) dX7_putInFront_35 rfl rfl ?_
        refine gf_X7_0 (pc := 36) dX7_putInFront_36 wF_X7_9 hA0 T371 fun A517 => ?_
        refine mr_iload_n (pc := 39) (z := z367) dX7_putInFront_39 rfl rfl ?_
        refine la_201 (pc := 40) dX7_putInFront_40 A517 T371 (rIx (n := 20) h515 rfl) fun z518 q519 h520 => ?_
        refine ss_201 (pc := 41) dX7_putInFront_41 A516 T371 (vc_X7_putInFront_W_13 h292 h295 h374 h388 h296 h3 h515) h520 fun μ521 u522 T523 => ?_
        refine mr_iinc (pc := 42) (lv' := [(3, iv (z367 + (-1))), (0, .ref a0), (1, iv p1), (2, iv p2)]) dX7_putInFront_42 rfl (by decide) rfl ?_
        refine sv_goto (pc := 45) (tgt := 24) dX7_putInFront_45 (by decide) ?_
        refine mr_lvS (lv' := [(0, .ref a0), (1, iv p1), (2, iv p2), (3, iv (z367 + (-1)))]) (List.forall_mem_cons.mpr ⟨rfl, List.forall_mem_cons.mpr ⟨rfl, List.forall_mem_cons.mpr ⟨rfl, List.forall_mem_cons.mpr ⟨rfl, fun _ h => absurd h List.not_mem_nil⟩⟩⟩⟩) ?_
        exact ih377 (z367 + (-1)) μ521 T523 (mF.up (mF.call mF.refl F372 rfl) A516 u522 rfl) (rW (c := (-1)) (d := 19) (rAdd (e := (-1)) (f := 18) h515 (rR (x := (-1))) rfl) rfl) (vc_X7_putInFront_W_14 h295 h374 h388 h292 h296 h3 h515) (vc_X7_putInFront_W_15 (nS h375) h374 h388 h295 h296 h3 h515) ((((W376 z367 μ368 rfl h370 T371 F372).2 h388) z518 q519 h520) μ521 u522 T523)
    refine mr_lvS (lv' := [(0, .ref a0), (1, iv p1), (2, iv p2), (3, iv (z1 - 1))]) (List.forall_mem_cons.mpr ⟨rfl, List.forall_mem_cons.mpr ⟨rfl, List.forall_mem_cons.mpr ⟨rfl, List.forall_mem_cons.mpr ⟨rfl, fun _ h => absurd h List.not_mem_nil⟩⟩⟩⟩) ?_
    exact L369 22 (z1 - 1) μ hT mF.refl (rSub (e := (-1)) (f := 19) h3 (rR (x := 1)) rfl) (vc_X7_putInFront_W_16 h295 h292 h296 h3) (vc_X7_putInFront_W_17 h295 h292 h296 h3) (((hQ z1 q2 h3).2 h292).1 h295)
  have h524 : 1 ≤ p2 ∧ p2 ≤ 1000000 := (vc_X7_putInFront_W_18 h295 h292 h294 h3)
  refine mr_iconst (pc := 15) (z := 0) dX7_putInFront_15 ?_
  exact mr_zret dX7_putInFront_16 rfl (rW (c := 0) (d := 1) (rR (x := 0)) rfl) (le_t rfl) (le_t rfl) hT mF.refl ⟨(rW (c := 0) (d := 1) (rR (x := 0)) rfl), (((hQ z1 q2 h3).2 h292).2 h295), trivial⟩
def WL_X7_addMark_W_4 (w : mW) (μ : mM) (a0 : Nat) (p1 : Int) (Q : mM → Prop) (z1 : Int) (z994 : Int) (rec4 : (Int × mM) → Prop) (s : (Int × mM)) : Prop := ∀ z1069 : Int, ∀ μ1070 : mM, s = (z1069, μ1070) → (0 ≤ z1069 ∧ z1069 ≤ 7) → mT w μ1070 → mF [202999] w μ μ1070 → ((z1069 ≤ z994) → ∀ μ1092 : mM, mU μ1070 (a0 + 2) (z994.toNat) p1 μ1092 → mT w μ1092 → ∀ μ1095 : mM, mU μ1092 a0 (8) (z1 + 1) μ1095 → mT w μ1095 → Q μ1095) ∧ ((z994 < z1069) → ∀ z1102 : Int, μ1070 (a0 + 2) ((z1069 - 1).toNat) = z1102 → ((-2147483648) ≤ z1102 ∧ z1102 ≤ 2147483647) → ∀ μ1105 : mM, mU μ1070 (a0 + 2) (z1069.toNat) z1102 μ1105 → mT w μ1105 → rec4 ((z1069 + (-1)), μ1105))
def WJ_X7_addMark_W_3 (w : mW) (μ : mM) (a0 : Nat) (p1 : Int) (Q : mM → Prop) (z1 : Int) (z994 : Int) (z1020 : Int) : Prop := (0 ≤ z1020 ∧ z1020 ≤ 1) → ((¬ z1020 = 0) → Q μ) ∧ ((z1020 = 0) → ((z1 < 8) → loopF (WL_X7_addMark_W_4 w μ a0 p1 Q z1 z994) False 9 (z1, μ)) ∧ ((8 ≤ z1) → Q μ))
def WJ_X7_addMark_W_2 (w : mW) (μ : mM) (a0 : Nat) (p1 : Int) (Q : mM → Prop) (z1 : Int) (z994 : Int) : Prop := ((z1 ≤ z994) → (WJ_X7_addMark_W_3 w μ a0 p1 Q z1 z994) (0 : Int)) ∧ ((z994 < z1) → ∀ z1113 : Int, μ (a0 + 2) (z994.toNat) = z1113 → ((-2147483648) ≤ z1113 ∧ z1113 ≤ 2147483647) → ((¬ z1113 = p1) → (WJ_X7_addMark_W_3 w μ a0 p1 Q z1 z994) (0 : Int)) ∧ ((z1113 = p1) → (WJ_X7_addMark_W_3 w μ a0 p1 Q z1 z994) (1 : Int)))
def WL_X7_addMark_W_1 (w : mW) (μ : mM) (a0 : Nat) (p1 : Int) (Q : mM → Prop) (z1 : Int) (rec1 : (Int) → Prop) (s : (Int)) : Prop := ∀ z994 : Int, s = (z994) → (0 ≤ z994 ∧ z994 ≤ 8) → ((z1 ≤ z994) → (WJ_X7_addMark_W_2 w μ a0 p1 Q z1 z994) ) ∧ ((z994 < z1) → ∀ z1121 : Int, μ (a0 + 2) (z994.toNat) = z1121 → ((-2147483648) ≤ z1121 ∧ z1121 ≤ 2147483647) → ((p1 ≤ z1121) → (WJ_X7_addMark_W_2 w μ a0 p1 Q z1 z994) ) ∧ ((z1121 < p1) → rec1 ((z994 + 1))))
def WP_X7_addMark_W (w : mW) (μ : mM) (a0 : Nat) (p1 : Int) (Q : mM → Prop) : Prop := ∀ z1 : Int, μ a0 8 = z1 → (0 ≤ z1 ∧ z1 ≤ 8) → loopF (WL_X7_addMark_W_1 w μ a0 p1 Q z1) False 10 ((0 : Int))
theorem vc_X7_addMark_W_1 {z1 z994 : Int} (h0 : (9 - z994) < ((0 : Nat) : Int)) (h1 : z994 ≤ z1) (h2 : 0 ≤ z1 ∧ z1 ≤ 8) (h3 : 0 ≤ z994 ∧ z994 ≤ 8) : False := by omega
theorem vc_X7_addMark_W_4 {z1 z994 : Int} (h0 : z1 < 8) (h1 : z994 ≤ z1) (h2 : 0 ≤ z1 ∧ z1 ≤ 8) (h3 : 0 ≤ z994 ∧ z994 ≤ 8) : 0 ≤ z1 ∧ z1 ≤ 7 := by omega
theorem vc_X7_addMark_W_5 {z1 z1069 z994 : Int} (h0 : (z1069 - (-1)) < ((0 : Nat) : Int)) (h1 : z994 ≤ z1069) (h2 : z994 ≤ z1) (h3 : 0 ≤ z1 ∧ z1 ≤ 7) (h4 : 0 ≤ z1069 ∧ z1069 ≤ 7) (h5 : 0 ≤ z994 ∧ z994 ≤ 8) : False := by omega
theorem vc_X7_addMark_W_6 {z1 z1069 z994 : Int} (h0 : z994 ≤ z1) (h1 : z994 ≤ z1069) (h2 : z1069 ≤ z994) (h3 : z1 < 8) (h4 : 0 ≤ z1 ∧ z1 ≤ 7) (h5 : 0 ≤ z1069 ∧ z1069 ≤ 7) (h6 : 0 ≤ z994 ∧ z994 ≤ 8) : 0 ≤ z994 ∧ z994 < 8 := by omega
theorem vc_X7_addMark_W_7 {z1 z1069 z994 : Int} (h0 : z994 < z1069) (h1 : z994 ≤ z1) (h2 : z994 ≤ z1069) (h3 : 0 ≤ z1 ∧ z1 ≤ 7) (h4 : 0 ≤ z1069 ∧ z1069 ≤ 7) (h5 : 0 ≤ z994 ∧ z994 ≤ 8) : 1 ≤ z1069 ∧ z1069 ≤ 7 := by omega
theorem vc_X7_addMark_W_8 {z1 z1069 z994 : Int} (h0 : z994 < z1069) (h1 : z994 ≤ z1) (h2 : z994 ≤ z1069) (h3 : 0 ≤ z1 ∧ z1 ≤ 7) (h4 : 1 ≤ z1069 ∧ z1069 ≤ 7) (h5 : 0 ≤ z994 ∧ z994 ≤ 8) : 0 ≤ z994 ∧ z994 ≤ 6 := by omega
theorem vc_X7_addMark_W_9 {z1 z1069 z994 : Int} (h0 : z994 ≤ z1) (h1 : z994 ≤ z1069) (h2 : z994 < z1069) (h3 : z1 < 8) (h4 : 0 ≤ z1 ∧ z1 ≤ 7) (h5 : 1 ≤ z1069 ∧ z1069 ≤ 7) (h6 : 0 ≤ z994 ∧ z994 ≤ 6) : z994 ≤ (z1069 + (-1)) := by omega
theorem vc_X7_addMark_W_10 {N z1 z1069 z994 : Int} (h0 : (z1069 - (-1)) < N + 1) (h1 : z994 ≤ z1069) (h2 : z994 < z1069) (h3 : z994 ≤ z1) (h4 : 0 ≤ z1 ∧ z1 ≤ 7) (h5 : 1 ≤ z1069 ∧ z1069 ≤ 7) (h6 : 0 ≤ z994 ∧ z994 ≤ 6) : ((z1069 + (-1)) - (-1)) < N := by omega
theorem vc_X7_addMark_W_11 {z1 z994 : Int} (h0 : z994 ≤ z1) (h1 : z1 < 8) (h2 : 0 ≤ z1 ∧ z1 ≤ 7) (h3 : 0 ≤ z994 ∧ z994 ≤ 8) : z994 ≤ z1 := by omega
theorem vc_X7_addMark_W_12 {z1 z994 : Int} (h0 : z994 ≤ z1) (h1 : z1 < 8) (h2 : 0 ≤ z1 ∧ z1 ≤ 7) (h3 : 0 ≤ z994 ∧ z994 ≤ 8) : (z1 - (-1)) < ((9 : Nat) : Int) := by omega
theorem vc_X7_addMark_W_13 {z1 z994 : Int} (h0 : 8 ≤ z1) (h1 : z994 ≤ z1) (h2 : 0 ≤ z1 ∧ z1 ≤ 8) (h3 : 0 ≤ z994 ∧ z994 ≤ 8) : 8 ≤ z1 ∧ z1 ≤ 8 := by omega
theorem vc_X7_addMark_W_14 {z1 z994 : Int} (h0 : z994 < z1) (h1 : z994 ≤ z1) (h2 : 0 ≤ z1 ∧ z1 ≤ 8) (h3 : 0 ≤ z994 ∧ z994 ≤ 8) : 0 ≤ z994 ∧ z994 ≤ 7 := by omega
theorem vc_X7_addMark_W_15 {z1 z994 : Int} (h0 : z994 < z1) (h1 : z994 ≤ z1) (h2 : 0 ≤ z1 ∧ z1 ≤ 8) (h3 : 0 ≤ z994 ∧ z994 ≤ 7) : 1 ≤ z1 ∧ z1 ≤ 8 := by omega
theorem vc_X7_addMark_W_16 {p1 z1121 : Int} (h0 : z1121 < p1) (h1 : (-2147483648) ≤ p1 ∧ p1 ≤ 2147483647) (h2 : (-2147483648) ≤ z1121 ∧ z1121 ≤ 2147483647) : (-2147483648) ≤ z1121 ∧ z1121 ≤ 2147483646 := by omega
theorem vc_X7_addMark_W_17 {p1 z1121 : Int} (h0 : z1121 < p1) (h1 : (-2147483648) ≤ p1 ∧ p1 ≤ 2147483647) (h2 : (-2147483648) ≤ z1121 ∧ z1121 ≤ 2147483646) : (-2147483647) ≤ p1 ∧ p1 ≤ 2147483647 := by omega
theorem vc_X7_addMark_W_18 {z1 z994 : Int} (h0 : z994 ≤ z1) (h1 : z994 < z1) (h2 : 1 ≤ z1 ∧ z1 ≤ 8) (h3 : 0 ≤ z994 ∧ z994 ≤ 7) : (z994 + 1) ≤ z1 := by omega
theorem vc_X7_addMark_W_19 {N z1 z994 : Int} (h0 : (9 - z994) < N + 1) (h1 : z994 ≤ z1) (h2 : z994 < z1) (h3 : 1 ≤ z1 ∧ z1 ≤ 8) (h4 : 0 ≤ z994 ∧ z994 ≤ 7) : (9 - (z994 + 1)) < N := by omega
theorem vc_X7_addMark_W_20 {z1 : Int} (h0 : 0 ≤ z1 ∧ z1 ≤ 8) : (0 : Int) ≤ z1 := by omega
set_option maxRecDepth 4000 in
set_option maxHeartbeats 4000000 in
theorem c_X7_addMark_W {l : Launch} {D : va_G} {c : Nat → ClassId} {H0 : Heap} {sa : Nat × Nat × (Nat → Int32)} {w : mW} {μ : mM} (hw : mWF w) (hT : mT w μ) {a0 : Nat} (hA0 : mAt w a0 200) {p1 : Int} (hp1 : (-2147483648) ≤ p1 ∧ p1 ≤ 2147483647) {Q : mM → Prop} (hQ : WP_X7_addMark_W w μ a0 p1 Q) : sC (gG l D c H0 sa) mX7_addMark 1 0 0 [.ref a0, iv p1] (mk w μ) (qV w [200008, 202999] μ (fun μ1 => Q μ1 ∧ True)) := by
  refine sC.of rfl (by decide) (le_t rfl) ?_
  obtain ⟨z1, q2⟩ : ∃ z, μ a0 8 = z := ⟨_, rfl⟩
  have h3 : (0 ≤ z1 ∧ z1 ≤ 8) := by rw [← q2]; exact hT a0 200 hA0 8
  refine mr_lvE (lv' := [(0, .ref a0), (1, iv p1)]) rfl ?_
  refine mr_iconst (pc := 0) (z := 0) dX7_addMark_0 ?_
  refine mr_istore_n (pc := 1) (lv' := [(2, iv 0), (0, .ref a0), (1, iv p1)]) dX7_addMark_1 rfl (by decide) rfl ?_
  have L995 : ∀ (nL995 : Nat) (z994 : Int), True → (0 ≤ z994 ∧ z994 ≤ 8) → (z994 ≤ z1) → (9 - z994) < (nL995 : Int) → loopF (WL_X7_addMark_W_1 w μ a0 p1 Q z1) False nL995 (z994) → sV (gG l D c H0 sa) mX7_addMark (sRm 1 0 0) (sZ (gG l D c H0 sa) 0 0 (qV w [200008, 202999] μ (fun μ1 => Q μ1 ∧ True))) 2 [(0, .ref a0), (1, iv p1), (2, iv z994)] [] (mk w μ) 0 0 := by
    intro nL995
    induction nL995 with
    | zero => intro z994 _ h996 h1000 h1001 W1002; exact ((vc_X7_addMark_W_1 h1001 h1000 h3 h996)).elim
    | succ nL995 ih1003 =>
      intro z994 _ h996 h1000 h1001 W1002
      refine mr_iload_n (pc := 2) (z := z994) dX7_addMark_2 rfl rfl ?_
      refine sv_aload_n (pc := 3) dX7_addMark_3 rfl rfl ?_
      refine gk_X7_8 (pc := 4) dX7_addMark_4 wF_X7_41 hA0 q2 ?_
      have J1012 : ((WJ_X7_addMark_W_2 w μ a0 p1 Q z1 z994) ) → sV (gG l D c H0 sa) mX7_addMark (sRm 1 0 0) (sZ (gG l D c H0 sa) 0 0 (qV w [200008, 202999] μ (fun μ1 => Q μ1 ∧ True))) 26 [(0, .ref a0), (1, iv p1), (2, iv z994)] [] (mk w μ) 0 0 := by
        intro W1013
        refine mr_iload_n (pc := 26) (z := z994) dX7_addMark_26 rfl rfl ?_
        refine sv_aload_n (pc := 27) dX7_addMark_27 rfl rfl ?_
        refine gk_X7_8 (pc := 28) dX7_addMark_28 wF_X7_41 hA0 q2 ?_
        have J1022 : ∀ (z1020 : Int), ((0 ≤ z1020 ∧ z1020 ≤ 1)) → ((WJ_X7_addMark_W_3 w μ a0 p1 Q z1 z994) z1020) → sV (gG l D c H0 sa) mX7_addMark (sRm 1 0 0) (sZ (gG l D c H0 sa) 0 0 (qV w [200008, 202999] μ (fun μ1 => Q μ1 ∧ True))) 49 [(0, .ref a0), (1, iv p1), (2, iv z994)] [iv z1020] (mk w μ) 0 0 := by
          intro z1020 h1021 W1023
          refine mr_istore_n (pc := 49) (lv' := [(3, iv z1020), (0, .ref a0), (1, iv p1), (2, iv z994)]) dX7_addMark_49 rfl (by decide) rfl ?_
          refine mr_iload_n (pc := 50) (z := z1020) dX7_addMark_50 rfl rfl ?_
          refine mr_if_ne (pc := 51) (tgt := 63) dX7_addMark_51 (by decide) (r32 h1021 rfl) (fun h1024 => ?_) (fun h1024 => ?_)
          · have h1025 : 1 ≤ z1020 ∧ z1020 ≤ 1 := (vc_X12_ring_24 h1024 h1021)
            exact mr_vret dX7_addMark_63 rfl (le_t rfl) (le_t rfl) hT mF.refl ⟨((W1023 h1021).1 h1024), trivial⟩
          have h1026 : 0 ≤ z1020 ∧ z1020 ≤ 0 := (vc_X12_ring_22 h1024 h1021)
          refine sv_aload_n (pc := 54) dX7_addMark_54 rfl rfl ?_
          refine gk_X7_8 (pc := 55) dX7_addMark_55 wF_X7_41 hA0 q2 ?_
          refine mr_bipush (pc := 58) (z := 8) dX7_addMark_58 (by decide) ?_
          refine mr_icmp_lt (pc := 60) (tgt := 64) dX7_addMark_60 (by decide) (r32 h3 rfl) (r32 (rR (x := 8)) rfl) (fun h1027 => ?_) (fun h1027 => ?_)
          · have h1028 : 0 ≤ z1 ∧ z1 ≤ 7 := (vc_X7_addMark_W_4 h1027 h1000 h3 h996)
            refine sv_aload_n (pc := 64) dX7_addMark_64 rfl rfl ?_
            refine gk_X7_8 (pc := 65) dX7_addMark_65 wF_X7_41 hA0 q2 ?_
            refine mr_istore (pc := 68) (lv' := [(4, iv z1), (3, iv z1020), (0, .ref a0), (1, iv p1), (2, iv z994)]) dX7_addMark_68 (by decide) rfl ?_
            have L1071 : ∀ (nL1071 : Nat) (z1069 : Int) (μ1070 : mM), mT w μ1070 → mF [202999] w μ μ1070 → (0 ≤ z1069 ∧ z1069 ≤ 7) → (z994 ≤ z1069) → (z1069 - (-1)) < (nL1071 : Int) → loopF (WL_X7_addMark_W_4 w μ a0 p1 Q z1 z994) False nL1071 (z1069, μ1070) → sV (gG l D c H0 sa) mX7_addMark (sRm 1 0 0) (sZ (gG l D c H0 sa) 0 0 (qV w [200008, 202999] μ (fun μ1 => Q μ1 ∧ True))) 70 [(0, .ref a0), (1, iv p1), (2, iv z994), (4, iv z1069)] [] (mk w μ1070) 0 0 := by
              intro nL1071
              induction nL1071 with
              | zero => intro z1069 μ1070 T1073 F1074 h1072 h1076 h1077 W1078; exact ((vc_X7_addMark_W_5 h1077 h1076 h1000 h1028 h1072 h996)).elim
              | succ nL1071 ih1079 =>
                intro z1069 μ1070 T1073 F1074 h1072 h1076 h1077 W1078
                refine mr_iload (pc := 70) (z := z1069) dX7_addMark_70 rfl ?_
                refine mr_iload_n (pc := 72) (z := z994) dX7_addMark_72 rfl rfl ?_
                refine mr_icmp_le (pc := 73) (tgt := 98) dX7_addMark_73 (by decide) (r32 h1072 rfl) (r32 h996 rfl) (fun h1090 => ?_) (fun h1090 => ?_)
                · refine sv_aload_n (pc := 98) dX7_addMark_98 rfl rfl ?_
                  refine gf_X7_1 (pc := 99) dX7_addMark_99 wF_X7_15 hA0 T1073 fun A1091 => ?_
                  refine mr_iload_n (pc := 102) (z := z994) dX7_addMark_102 rfl rfl ?_
                  refine mr_iload_n (pc := 103) (z := p1) dX7_addMark_103 rfl rfl ?_
                  refine ss_202 (pc := 104) dX7_addMark_104 A1091 T1073 (vc_X7_addMark_W_6 h1000 h1076 h1090 h1027 h1028 h1072 h996) hp1 fun μ1092 u1093 T1094 => ?_
                  refine sv_aload_n (pc := 105) dX7_addMark_105 rfl rfl ?_
                  refine sv_dup (pc := 106) dX7_addMark_106 rfl ?_
                  refine gk_X7_8 (pc := 107) dX7_addMark_107 wF_X7_41 hA0 (u1093.f (Or.inl (mAt.ne A1091 hA0 rfl)) (F1074.f hA0 rfl q2)) ?_
                  refine mr_iconst (pc := 110) (z := 1) dX7_addMark_110 ?_
                  refine mr_iadd (pc := 111) (x := z1) (y := 1) dX7_addMark_111 ?_
                  refine pf_X7_8 (pc := 112) dX7_addMark_112 wF_X7_41 hA0 T1094 (rW (c := 0) (d := 8) (rAdd (e := 1) (f := 8) h1028 (rR (x := 1)) rfl) rfl) fun μ1095 u1096 T1097 => ?_
                  exact mr_vret dX7_addMark_115 rfl (le_t rfl) (le_t rfl) T1097 (mF.up (mF.up (mF.call mF.refl F1074 rfl) A1091 u1093 rfl) hA0 u1096 rfl) ⟨((((W1078 z1069 μ1070 rfl h1072 T1073 F1074).1 h1090) μ1092 u1093 T1094) μ1095 u1096 T1097), trivial⟩
                have h1098 : 1 ≤ z1069 ∧ z1069 ≤ 7 := (vc_X7_addMark_W_7 h1090 h1000 h1076 h1028 h1072 h996)
                have h1099 : 0 ≤ z994 ∧ z994 ≤ 6 := (vc_X7_addMark_W_8 h1090 h1000 h1076 h1028 h1098 h996)
                refine sv_aload_n (pc := 76) dX7_addMark_76 rfl rfl ?_
                refine gf_X7_1 (pc := 77) dX7_addMark_77 wF_X7_15 hA0 T1073 fun A1100 => ?_
                refine mr_iload (pc := 80) (z := z1069) dX7_addMark_80 rfl ?_
                refine sv_aload_n (pc := 82) dX7_addMark_82 rfl rfl ?_
                refine gf_X7_1 (pc := 83) dX7_addMark_83 wF_X7_15 hA0 T1073 fun A1101 => ?_
                refine mr_iload (pc := 86) (z := z1069) dX7_addMark_86 rfl ?_
                refine mr_iconst (pc := 88) (z := 1) dX7_addMark_88 ?_
                refine mr_isub (pc := 89) (x := z1069) (y := 1) dX7_addMark_89 ?_
                refine la_202 (pc := 90) dX7_addMark_90 A1101 T1073 (rIx (n := 8) (rSub (e := 0) (f := 6) h1098 (rR (x := 1)) rfl) rfl) fun z1102 q1103 h1104 => ?_
                refine ss_202 (pc := 91) dX7_addMark_91 A1100 T1073 (rIx (n := 8) h1098 rfl) h1104 fun μ1105 u1106 T1107 => ?_
                refine mr_iinc (pc := 92) (lv' := [(4, iv (z1069 + (-1))), (0, .ref a0), (1, iv p1), (2, iv z994)]) dX7_addMark_92 rfl (by decide) rfl ?_
                refine sv_goto (pc := 95) (tgt := 70) dX7_addMark_95 (by decide) ?_
                refine mr_lvS (lv' := [(0, .ref a0), (1, iv p1), (2, iv z994), (4, iv (z1069 + (-1)))]) (List.forall_mem_cons.mpr ⟨rfl, List.forall_mem_cons.mpr ⟨rfl, List.forall_mem_cons.mpr ⟨rfl, List.forall_mem_cons.mpr ⟨rfl, fun _ h => absurd h List.not_mem_nil⟩⟩⟩⟩) ?_
                exact ih1079 (z1069 + (-1)) μ1105 T1107 (mF.up (mF.call mF.refl F1074 rfl) A1100 u1106 rfl) (rW (c := 0) (d := 7) (rAdd (e := 0) (f := 6) h1098 (rR (x := (-1))) rfl) rfl) (vc_X7_addMark_W_9 h1000 h1076 h1090 h1027 h1028 h1098 h1099) (vc_X7_addMark_W_10 (nS h1077) h1076 h1090 h1000 h1028 h1098 h1099) ((((W1078 z1069 μ1070 rfl h1072 T1073 F1074).2 h1090) z1102 q1103 h1104) μ1105 u1106 T1107)
            refine mr_lvS (lv' := [(0, .ref a0), (1, iv p1), (2, iv z994), (4, iv z1)]) (List.forall_mem_cons.mpr ⟨rfl, List.forall_mem_cons.mpr ⟨rfl, List.forall_mem_cons.mpr ⟨rfl, List.forall_mem_cons.mpr ⟨rfl, fun _ h => absurd h List.not_mem_nil⟩⟩⟩⟩) ?_
            exact L1071 9 z1 μ hT mF.refl h1028 (vc_X7_addMark_W_11 h1000 h1027 h1028 h996) (vc_X7_addMark_W_12 h1000 h1027 h1028 h996) (((W1023 h1021).2 h1024).1 h1027)
          have h1108 : 8 ≤ z1 ∧ z1 ≤ 8 := (vc_X7_addMark_W_13 h1027 h1000 h3 h996)
          exact mr_vret dX7_addMark_63 rfl (le_t rfl) (le_t rfl) hT mF.refl ⟨(((W1023 h1021).2 h1024).2 h1027), trivial⟩
        refine mr_icmp_ge (pc := 31) (tgt := 48) dX7_addMark_31 (by decide) (r32 h996 rfl) (r32 h3 rfl) (fun h1109 => ?_) (fun h1109 => ?_)
        · refine mr_iconst (pc := 48) (z := 0) dX7_addMark_48 ?_
          exact J1022 0 (rW (c := 0) (d := 1) (rR (x := 0)) rfl) ((W1013).1 h1109)
        have h1110 : 0 ≤ z994 ∧ z994 ≤ 7 := (vc_X7_addMark_W_14 h1109 h1000 h3 h996)
        have h1111 : 1 ≤ z1 ∧ z1 ≤ 8 := (vc_X7_addMark_W_15 h1109 h1000 h3 h1110)
        refine sv_aload_n (pc := 34) dX7_addMark_34 rfl rfl ?_
        refine gf_X7_1 (pc := 35) dX7_addMark_35 wF_X7_15 hA0 hT fun A1112 => ?_
        refine mr_iload_n (pc := 38) (z := z994) dX7_addMark_38 rfl rfl ?_
        refine la_202 (pc := 39) dX7_addMark_39 A1112 hT (rIx (n := 8) h1110 rfl) fun z1113 q1114 h1115 => ?_
        refine mr_iload_n (pc := 40) (z := p1) dX7_addMark_40 rfl rfl ?_
        refine mr_icmp_ne (pc := 41) (tgt := 48) dX7_addMark_41 (by decide) h1115 hp1 (fun h1116 => ?_) (fun h1116 => ?_)
        · refine mr_iconst (pc := 48) (z := 0) dX7_addMark_48 ?_
          exact J1022 0 (rW (c := 0) (d := 1) (rR (x := 0)) rfl) ((((W1013).2 h1109) z1113 q1114 h1115).1 h1116)
        refine mr_iconst (pc := 44) (z := 1) dX7_addMark_44 ?_
        refine sv_goto (pc := 45) (tgt := 49) dX7_addMark_45 (by decide) ?_
        exact J1022 1 (rW (c := 0) (d := 1) (rR (x := 1)) rfl) ((((W1013).2 h1109) z1113 q1114 h1115).2 h1116)
      refine mr_icmp_ge (pc := 7) (tgt := 26) dX7_addMark_7 (by decide) (r32 h996 rfl) (r32 h3 rfl) (fun h1117 => ?_) (fun h1117 => ?_)
      · exact J1012 ((W1002 z994 rfl h996).1 h1117)
      have h1118 : 0 ≤ z994 ∧ z994 ≤ 7 := (vc_X7_addMark_W_14 h1117 h1000 h3 h996)
      have h1119 : 1 ≤ z1 ∧ z1 ≤ 8 := (vc_X7_addMark_W_15 h1117 h1000 h3 h1118)
      refine sv_aload_n (pc := 10) dX7_addMark_10 rfl rfl ?_
      refine gf_X7_1 (pc := 11) dX7_addMark_11 wF_X7_15 hA0 hT fun A1120 => ?_
      refine mr_iload_n (pc := 14) (z := z994) dX7_addMark_14 rfl rfl ?_
      refine la_202 (pc := 15) dX7_addMark_15 A1120 hT (rIx (n := 8) h1118 rfl) fun z1121 q1122 h1123 => ?_
      refine mr_iload_n (pc := 16) (z := p1) dX7_addMark_16 rfl rfl ?_
      refine mr_icmp_ge (pc := 17) (tgt := 26) dX7_addMark_17 (by decide) h1123 hp1 (fun h1124 => ?_) (fun h1124 => ?_)
      · exact J1012 ((((W1002 z994 rfl h996).2 h1117) z1121 q1122 h1123).1 h1124)
      have h1125 : (-2147483648) ≤ z1121 ∧ z1121 ≤ 2147483646 := (vc_X7_addMark_W_16 h1124 hp1 h1123)
      have h1126 : (-2147483647) ≤ p1 ∧ p1 ≤ 2147483647 := (vc_X7_addMark_W_17 h1124 hp1 h1125)
      refine mr_iinc (pc := 20) (lv' := [(2, iv (z994 + 1)), (0, .ref a0), (1, iv p1)]) dX7_addMark_20 rfl (by decide) rfl ?_
      refine sv_goto (pc := 23) (tgt := 2) dX7_addMark_23 (by decide) ?_
      refine mr_lvS (lv' := [(0, .ref a0), (1, iv p1), (2, iv (z994 + 1))]) (List.forall_mem_cons.mpr ⟨rfl, List.forall_mem_cons.mpr ⟨rfl, List.forall_mem_cons.mpr ⟨rfl, fun _ h => absurd h List.not_mem_nil⟩⟩⟩) ?_
      exact ih1003 (z994 + 1) trivial (rW (c := 0) (d := 8) (rAdd (e := 1) (f := 8) h1118 (rR (x := 1)) rfl) rfl) (vc_X7_addMark_W_18 h1000 h1117 h1119 h1118) (vc_X7_addMark_W_19 (nS h1001) h1000 h1117 h1119 h1118) ((((W1002 z994 rfl h996).2 h1117) z1121 q1122 h1123).2 h1124)
  refine mr_lvS (lv' := [(0, .ref a0), (1, iv p1), (2, iv 0)]) (List.forall_mem_cons.mpr ⟨rfl, List.forall_mem_cons.mpr ⟨rfl, List.forall_mem_cons.mpr ⟨rfl, fun _ h => absurd h List.not_mem_nil⟩⟩⟩) ?_
  exact L995 10 0 trivial (rW (c := 0) (d := 8) (rR (x := 0)) rfl) (vc_X7_addMark_W_20 h3) vc_X12_marked_10 (hQ z1 q2 h3)
def WL_X7_dropMark_W_1 (w : mW) (μ : mM) (a0 : Nat) (p1 : Int) (Q : mM → Prop) (rec1 : (Int × Int × mM) → Prop) (s : (Int × Int × mM)) : Prop := ∀ z86 : Int, ∀ z85 : Int, ∀ μ87 : mM, s = (z86, z85, μ87) → (0 ≤ z86 ∧ z86 ≤ 8) → (0 ≤ z85 ∧ z85 ≤ 8) → mT w μ87 → mF [202999] w μ μ87 → ∀ z98 : Int, μ87 a0 8 = z98 → (0 ≤ z98 ∧ z98 ≤ 8) → ((z98 ≤ z85) → ∀ μ113 : mM, mU μ87 a0 (8) z86 μ113 → mT w μ113 → Q μ113) ∧ ((z85 < z98) → ∀ z119 : Int, μ87 (a0 + 2) (z85.toNat) = z119 → ((-2147483648) ≤ z119 ∧ z119 ≤ 2147483647) → ((z119 = p1) → rec1 (z86, (z85 + 1), μ87)) ∧ ((¬ z119 = p1) → ∀ μ130 : mM, mU μ87 (a0 + 2) (z86.toNat) z119 μ130 → mT w μ130 → rec1 ((z86 + 1), (z85 + 1), μ130)))
def WP_X7_dropMark_W (w : mW) (μ : mM) (a0 : Nat) (p1 : Int) (Q : mM → Prop) : Prop := loopF (WL_X7_dropMark_W_1 w μ a0 p1 Q) False 10 ((0 : Int), (0 : Int), μ)
theorem vc_X7_dropMark_W_1 {z85 z86 : Int} (h0 : (9 - z85) < ((0 : Nat) : Int)) (h1 : z86 ≤ z85) (h2 : 0 ≤ z85 ∧ z85 ≤ 8) (h3 : 0 ≤ z86 ∧ z86 ≤ 8) : False := by omega
theorem vc_X7_dropMark_W_2 {z85 z86 z98 : Int} (h0 : z85 < z98) (h1 : z86 ≤ z85) (h2 : 0 ≤ z85 ∧ z85 ≤ 8) (h3 : 0 ≤ z86 ∧ z86 ≤ 8) (h4 : 0 ≤ z98 ∧ z98 ≤ 8) : 0 ≤ z85 ∧ z85 ≤ 7 := by omega
theorem vc_X7_dropMark_W_3 {z85 z86 z98 : Int} (h0 : z85 < z98) (h1 : z86 ≤ z85) (h2 : 0 ≤ z85 ∧ z85 ≤ 7) (h3 : 0 ≤ z86 ∧ z86 ≤ 8) (h4 : 0 ≤ z98 ∧ z98 ≤ 8) : 1 ≤ z98 ∧ z98 ≤ 8 := by omega
theorem vc_X7_dropMark_W_4 {z85 z86 z98 : Int} (h0 : z86 ≤ z85) (h1 : z85 < z98) (h2 : 0 ≤ z85 ∧ z85 ≤ 7) (h3 : 0 ≤ z86 ∧ z86 ≤ 8) (h4 : 1 ≤ z98 ∧ z98 ≤ 8) : z86 ≤ (z85 + 1) := by omega
theorem vc_X7_dropMark_W_5 {N z85 z86 z98 : Int} (h0 : (9 - z85) < N + 1) (h1 : z86 ≤ z85) (h2 : z85 < z98) (h3 : 0 ≤ z85 ∧ z85 ≤ 7) (h4 : 0 ≤ z86 ∧ z86 ≤ 8) (h5 : 1 ≤ z98 ∧ z98 ≤ 8) : (9 - (z85 + 1)) < N := by omega
theorem vc_X7_dropMark_W_6 {z85 z86 z98 : Int} (h0 : z86 ≤ z85) (h1 : z85 < z98) (h2 : 0 ≤ z85 ∧ z85 ≤ 7) (h3 : 0 ≤ z86 ∧ z86 ≤ 8) (h4 : 1 ≤ z98 ∧ z98 ≤ 8) : 0 ≤ z86 ∧ z86 < 8 := by omega
theorem vc_X7_dropMark_W_7 {z85 z86 z98 : Int} (h0 : z86 ≤ z85) (h1 : z85 < z98) (h2 : 0 ≤ z85 ∧ z85 ≤ 7) (h3 : 0 ≤ z86 ∧ z86 ≤ 8) (h4 : 1 ≤ z98 ∧ z98 ≤ 8) : 0 ≤ (z86 + 1) ∧ (z86 + 1) ≤ 8 := by omega
theorem vc_X7_dropMark_W_8 {z85 z86 z98 : Int} (h0 : z86 ≤ z85) (h1 : z85 < z98) (h2 : 0 ≤ z85 ∧ z85 ≤ 7) (h3 : 0 ≤ z86 ∧ z86 ≤ 8) (h4 : 1 ≤ z98 ∧ z98 ≤ 8) : (z86 + 1) ≤ (z85 + 1) := by omega
set_option maxRecDepth 4000 in
set_option maxHeartbeats 4000000 in
theorem c_X7_dropMark_W {l : Launch} {D : va_G} {c : Nat → ClassId} {H0 : Heap} {sa : Nat × Nat × (Nat → Int32)} {w : mW} {μ : mM} (hw : mWF w) (hT : mT w μ) {a0 : Nat} (hA0 : mAt w a0 200) {p1 : Int} (hp1 : (-2147483648) ≤ p1 ∧ p1 ≤ 2147483647) {Q : mM → Prop} (hQ : WP_X7_dropMark_W w μ a0 p1 Q) : sC (gG l D c H0 sa) mX7_dropMark 1 0 0 [.ref a0, iv p1] (mk w μ) (qV w [200008, 202999] μ (fun μ1 => Q μ1 ∧ True)) := by
  refine sC.of rfl (by decide) (le_t rfl) ?_
  refine mr_lvE (lv' := [(0, .ref a0), (1, iv p1)]) rfl ?_
  refine mr_iconst (pc := 0) (z := 0) dX7_dropMark_0 ?_
  refine mr_istore_n (pc := 1) (lv' := [(2, iv 0), (0, .ref a0), (1, iv p1)]) dX7_dropMark_1 rfl (by decide) rfl ?_
  refine mr_iconst (pc := 2) (z := 0) dX7_dropMark_2 ?_
  refine mr_istore_n (pc := 3) (lv' := [(3, iv 0), (2, iv 0), (0, .ref a0), (1, iv p1)]) dX7_dropMark_3 rfl (by decide) rfl ?_
  have L88 : ∀ (nL88 : Nat) (z86 z85 : Int) (μ87 : mM), mT w μ87 → mF [202999] w μ μ87 → (0 ≤ z86 ∧ z86 ≤ 8) → (0 ≤ z85 ∧ z85 ≤ 8) → (z86 ≤ z85) → (9 - z85) < (nL88 : Int) → loopF (WL_X7_dropMark_W_1 w μ a0 p1 Q) False nL88 (z86, z85, μ87) → sV (gG l D c H0 sa) mX7_dropMark (sRm 1 0 0) (sZ (gG l D c H0 sa) 0 0 (qV w [200008, 202999] μ (fun μ1 => Q μ1 ∧ True))) 4 [(0, .ref a0), (1, iv p1), (2, iv z86), (3, iv z85)] [] (mk w μ87) 0 0 := by
    intro nL88
    induction nL88 with
    | zero => intro z86 z85 μ87 T91 F92 h89 h90 h94 h95 W96; exact ((vc_X7_dropMark_W_1 h95 h94 h90 h89)).elim
    | succ nL88 ih97 =>
      intro z86 z85 μ87 T91 F92 h89 h90 h94 h95 W96
      refine mr_iload_n (pc := 4) (z := z85) dX7_dropMark_4 rfl rfl ?_
      refine sv_aload_n (pc := 5) dX7_dropMark_5 rfl rfl ?_
      refine gf_X7_8 (pc := 6) dX7_dropMark_6 wF_X7_41 hA0 T91 fun z98 q99 h100 => ?_
      refine mr_icmp_ge (pc := 9) (tgt := 43) dX7_dropMark_9 (by decide) (r32 h90 rfl) (r32 h100 rfl) (fun h112 => ?_) (fun h112 => ?_)
      · refine sv_aload_n (pc := 43) dX7_dropMark_43 rfl rfl ?_
        refine mr_iload_n (pc := 44) (z := z86) dX7_dropMark_44 rfl rfl ?_
        refine pf_X7_8 (pc := 45) dX7_dropMark_45 wF_X7_41 hA0 T91 h89 fun μ113 u114 T115 => ?_
        exact mr_vret dX7_dropMark_48 rfl (le_t rfl) (le_t rfl) T115 (mF.up (mF.call mF.refl F92 rfl) hA0 u114 rfl) ⟨((((W96 z86 z85 μ87 rfl h89 h90 T91 F92) z98 q99 h100).1 h112) μ113 u114 T115), trivial⟩
      have h116 : 0 ≤ z85 ∧ z85 ≤ 7 := (vc_X7_dropMark_W_2 h112 h94 h90 h89 h100)
      have h117 : 1 ≤ z98 ∧ z98 ≤ 8 := (vc_X7_dropMark_W_3 h112 h94 h116 h89 h100)
      refine sv_aload_n (pc := 12) dX7_dropMark_12 rfl rfl ?_
      refine gf_X7_1 (pc := 13) dX7_dropMark_13 wF_X7_15 hA0 T91 fun A118 => ?_
      refine mr_iload_n (pc := 16) (z := z85) dX7_dropMark_16 rfl rfl ?_
      refine la_202 (pc := 17) dX7_dropMark_17 A118 T91 (rIx (n := 8) h116 rfl) fun z119 q120 h121 => ?_
      refine mr_iload_n (pc := 18) (z := p1) dX7_dropMark_18 rfl rfl ?_
      refine mr_icmp_eq (pc := 19) (tgt := 37) dX7_dropMark_19 (by decide) h121 hp1 (fun h127 => ?_) (fun h127 => ?_)
      · refine mr_iinc (pc := 37) (lv' := [(3, iv (z85 + 1)), (0, .ref a0), (1, iv p1), (2, iv z86)]) dX7_dropMark_37 rfl (by decide) rfl ?_
        refine sv_goto (pc := 40) (tgt := 4) dX7_dropMark_40 (by decide) ?_
        refine mr_lvS (lv' := [(0, .ref a0), (1, iv p1), (2, iv z86), (3, iv (z85 + 1))]) (List.forall_mem_cons.mpr ⟨rfl, List.forall_mem_cons.mpr ⟨rfl, List.forall_mem_cons.mpr ⟨rfl, List.forall_mem_cons.mpr ⟨rfl, fun _ h => absurd h List.not_mem_nil⟩⟩⟩⟩) ?_
        exact ih97 z86 (z85 + 1) μ87 T91 (mF.call mF.refl F92 rfl) h89 (rW (c := 0) (d := 8) (rAdd (e := 1) (f := 8) h116 (rR (x := 1)) rfl) rfl) (vc_X7_dropMark_W_4 h94 h112 h116 h89 h117) (vc_X7_dropMark_W_5 (nS h95) h94 h112 h116 h89 h117) (((((W96 z86 z85 μ87 rfl h89 h90 T91 F92) z98 q99 h100).2 h112) z119 q120 h121).1 h127)
      refine sv_aload_n (pc := 22) dX7_dropMark_22 rfl rfl ?_
      refine gf_X7_1 (pc := 23) dX7_dropMark_23 wF_X7_15 hA0 T91 fun A128 => ?_
      refine mr_iload_n (pc := 26) (z := z86) dX7_dropMark_26 rfl rfl ?_
      refine sv_aload_n (pc := 27) dX7_dropMark_27 rfl rfl ?_
      refine gf_X7_1 (pc := 28) dX7_dropMark_28 wF_X7_15 hA0 T91 fun A129 => ?_
      refine mr_iload_n (pc := 31) (z := z85) dX7_dropMark_31 rfl rfl ?_
      refine lk_202 (pc := 32) dX7_dropMark_32 A129 (rIx (n := 8) h116 rfl) q120 ?_
      refine ss_202 (pc := 33) dX7_dropMark_33 A128 T91 (vc_X7_dropMark_W_6 h94 h112 h116 h89 h117) h121 fun μ130 u131 T132 => ?_
      refine mr_iinc (pc := 34) (lv' := [(2, iv (z86 + 1)), (0, .ref a0), (1, iv p1), (3, iv z85)]) dX7_dropMark_34 rfl (by decide) rfl ?_
      refine mr_iinc (pc := 37) (lv' := [(3, iv (z85 + 1)), (2, iv (z86 + 1)), (0, .ref a0), (1, iv p1)]) dX7_dropMark_37 rfl (by decide) rfl ?_
      refine sv_goto (pc := 40) (tgt := 4) dX7_dropMark_40 (by decide) ?_
      refine mr_lvS (lv' := [(0, .ref a0), (1, iv p1), (2, iv (z86 + 1)), (3, iv (z85 + 1))]) (List.forall_mem_cons.mpr ⟨rfl, List.forall_mem_cons.mpr ⟨rfl, List.forall_mem_cons.mpr ⟨rfl, List.forall_mem_cons.mpr ⟨rfl, fun _ h => absurd h List.not_mem_nil⟩⟩⟩⟩) ?_
      exact ih97 (z86 + 1) (z85 + 1) μ130 T132 (mF.up (mF.call mF.refl F92 rfl) A128 u131 rfl) (vc_X7_dropMark_W_7 h94 h112 h116 h89 h117) (rW (c := 0) (d := 8) (rAdd (e := 1) (f := 8) h116 (rR (x := 1)) rfl) rfl) (vc_X7_dropMark_W_8 h94 h112 h116 h89 h117) (vc_X7_dropMark_W_5 (nS h95) h94 h112 h116 h89 h117) ((((((W96 z86 z85 μ87 rfl h89 h90 T91 F92) z98 q99 h100).2 h112) z119 q120 h121).2 h127) μ130 u131 T132)
  refine mr_lvS (lv' := [(0, .ref a0), (1, iv p1), (2, iv 0), (3, iv 0)]) (List.forall_mem_cons.mpr ⟨rfl, List.forall_mem_cons.mpr ⟨rfl, List.forall_mem_cons.mpr ⟨rfl, List.forall_mem_cons.mpr ⟨rfl, fun _ h => absurd h List.not_mem_nil⟩⟩⟩⟩) ?_
  exact L88 10 0 0 μ hT mF.refl (rW (c := 0) (d := 8) (rR (x := 0)) rfl) (rW (c := 0) (d := 8) (rR (x := 0)) rfl) vc_X12_dropMark_20 vc_X12_marked_10 hQ
def WP_X12_isThere_W (w : mW) (μ : mM) (p1 : Int) (Q : Int → mM → Prop) : Prop := ∀ f_x : Int, μ 126 ((40 * p1).toNat) = f_x → ((-2147483648 ≤ f_x ∧ f_x ≤ 2147483647) ∧ ((40 * p1) % 40 = 0 → -1 ≤ f_x ∧ f_x ≤ 9) ∧ ((40 * p1) % 40 = 4 → 0 ≤ f_x ∧ f_x ≤ 20) ∧ ((40 * p1) % 40 = 5 → 0 ≤ f_x ∧ f_x ≤ 8)) → ((f_x < 0) → Q (0 : Int) μ) ∧ ((0 ≤ f_x) → Q (1 : Int) μ)
set_option maxRecDepth 4000 in
set_option maxHeartbeats 4000000 in
theorem c_X12_isThere_W {l : Launch} {D : va_G} {c : Nat → ClassId} {H0 : Heap} {sa : Nat × Nat × (Nat → Int32)} {w : mW} {μ : mM} (hw : mWF w) (hT : mT w μ) {p1 : Int} (hp1 : 0 ≤ p1 ∧ p1 ≤ 2099) {f_x : Int} (q_f_x : μ 126 ((40 * p1).toNat) = f_x) {Q : Int → mM → Prop} (hQ : WP_X12_isThere_W w μ p1 Q) : sC (gG l D c H0 sa) mX12_isThere 1 0 0 [.ref 106, iv p1] (mk w μ) (qP w μ (fun z => (0 ≤ z ∧ z ≤ 1) ∧ (z = 1 → 0 ≤ f_x) ∧ (z = 0 → f_x < 0) ∧ Q z μ ∧ True)) := by
  refine sC.of rfl (by decide) (le_t rfl) ?_
  have ht_f_x := rt7 hT (A_126 hw) (vc_X12_copy_1 hp1) q_f_x
  have h1 : (-1) ≤ f_x ∧ f_x ≤ 9 := ht_f_x.2.1 (vc_X12_copy_2 hp1)
  refine mr_lvE (lv' := [(0, .ref 106), (1, iv p1)]) rfl ?_
  refine sv_aload_n (pc := 0) dX12_isThere_0 rfl rfl ?_
  refine gf_X12_32 (pc := 1) dX12_isThere_1 wF_X12_148 (A_106 hw) hT ?_
  refine mr_bipush (pc := 4) (z := 40) dX12_isThere_4 (by decide) ?_
  refine mr_iload_n (pc := 6) (z := p1) dX12_isThere_6 rfl rfl ?_
  refine mr_imul (pc := 7) (x := 40) (y := p1) dX12_isThere_7 ?_
  refine lk_126 (pc := 8) dX12_isThere_8 (A_126 hw) (rIx (n := 84000) (rMulL (n := 40) (e := 0) (f := 83960) hp1 rfl) rfl) q_f_x ?_
  refine mr_if_lt (pc := 9) (tgt := 16) dX12_isThere_9 (by decide) (r32 h1 rfl) (fun h10 => ?_) (fun h10 => ?_)
  · have h11 : (-1) ≤ f_x ∧ f_x ≤ (-1) := (vc_X12_isThere_3 h10 h1)
    refine mr_iconst (pc := 16) (z := 0) dX12_isThere_16 ?_
    exact mr_zretP dX12_isThere_17 rfl (rW (c := 0) (d := 1) (rR (x := 0)) rfl) (le_t rfl) (le_t rfl) ⟨(rW (c := 0) (d := 1) (rR (x := 0)) rfl), (vc_X12_isThere_4 h10 h11), (vc_X12_isThere_5 h10 h11), ((hQ f_x q_f_x ht_f_x).1 h10), trivial⟩
  have h12 : 0 ≤ f_x ∧ f_x ≤ 9 := (vc_X12_isThere_6 h10 h1)
  refine mr_iconst (pc := 12) (z := 1) dX12_isThere_12 ?_
  refine sv_goto (pc := 13) (tgt := 17) dX12_isThere_13 (by decide) ?_
  exact mr_zretP dX12_isThere_17 rfl (rW (c := 0) (d := 1) (rR (x := 1)) rfl) (le_t rfl) (le_t rfl) ⟨(rW (c := 0) (d := 1) (rR (x := 1)) rfl), (vc_X12_isThere_7 h10 h12), (vc_X12_isThere_8 h10 h12), ((hQ f_x q_f_x ht_f_x).2 h10), trivial⟩
def WL_X12_same_W_4 (μ : mM) (p1 : Int) (p2 : Int) (Q : Int → mM → Prop) (rec4 : (Int × Int) → Prop) (s : (Int × Int)) : Prop := ∀ z1292 : Int, ∀ z1291 : Int, s = (z1292, z1291) → (0 ≤ z1292 ∧ z1292 ≤ 1) → (0 ≤ z1291 ∧ z1291 ≤ 8) → ((8 ≤ z1291) → Q z1292 μ) ∧ ((z1291 < 8) → ((z1292 = 0) → Q z1292 μ) ∧ ((¬ z1292 = 0) → ∀ z1338 : Int, μ 126 (((40 * p1) + 5).toNat) = z1338 → ((-2147483648 ≤ z1338 ∧ z1338 ≤ 2147483647) ∧ (((40 * p1) + 5) % 40 = 0 → -1 ≤ z1338 ∧ z1338 ≤ 9) ∧ (((40 * p1) + 5) % 40 = 4 → 0 ≤ z1338 ∧ z1338 ≤ 20) ∧ (((40 * p1) + 5) % 40 = 5 → 0 ≤ z1338 ∧ z1338 ≤ 8)) → ((z1338 ≤ z1291) → rec4 ((1 : Int), (z1291 + 1))) ∧ ((z1291 < z1338) → ∀ z1353 : Int, μ 126 ((((40 * p1) + 26) + z1291).toNat) = z1353 → ((-2147483648 ≤ z1353 ∧ z1353 ≤ 2147483647) ∧ ((((40 * p1) + 26) + z1291) % 40 = 0 → -1 ≤ z1353 ∧ z1353 ≤ 9) ∧ ((((40 * p1) + 26) + z1291) % 40 = 4 → 0 ≤ z1353 ∧ z1353 ≤ 20) ∧ ((((40 * p1) + 26) + z1291) % 40 = 5 → 0 ≤ z1353 ∧ z1353 ≤ 8)) → ∀ z1356 : Int, μ 126 ((((40 * p2) + 26) + z1291).toNat) = z1356 → ((-2147483648 ≤ z1356 ∧ z1356 ≤ 2147483647) ∧ ((((40 * p2) + 26) + z1291) % 40 = 0 → -1 ≤ z1356 ∧ z1356 ≤ 9) ∧ ((((40 * p2) + 26) + z1291) % 40 = 4 → 0 ≤ z1356 ∧ z1356 ≤ 20) ∧ ((((40 * p2) + 26) + z1291) % 40 = 5 → 0 ≤ z1356 ∧ z1356 ≤ 8)) → ((¬ z1353 = z1356) → rec4 ((0 : Int), (z1291 + 1))) ∧ ((z1353 = z1356) → rec4 ((1 : Int), (z1291 + 1))))))
def WJ_X12_same_W_3 (μ : mM) (p1 : Int) (p2 : Int) (Q : Int → mM → Prop) (z1099 : Int) : Prop := loopF (WL_X12_same_W_4 μ p1 p2 Q) False 10 (z1099, (0 : Int))
def WL_X12_same_W_2 (μ : mM) (p1 : Int) (p2 : Int) (Q : Int → mM → Prop) (rec2 : (Int × Int) → Prop) (s : (Int × Int)) : Prop := ∀ z1099 : Int, ∀ z1098 : Int, s = (z1099, z1098) → (0 ≤ z1099 ∧ z1099 ≤ 1) → (0 ≤ z1098 ∧ z1098 ≤ 20) → ((20 ≤ z1098) → (WJ_X12_same_W_3 μ p1 p2 Q z1099) ) ∧ ((z1098 < 20) → ((z1099 = 0) → (WJ_X12_same_W_3 μ p1 p2 Q z1099) ) ∧ ((¬ z1099 = 0) → ∀ z1366 : Int, μ 126 (((40 * p1) + 4).toNat) = z1366 → ((-2147483648 ≤ z1366 ∧ z1366 ≤ 2147483647) ∧ (((40 * p1) + 4) % 40 = 0 → -1 ≤ z1366 ∧ z1366 ≤ 9) ∧ (((40 * p1) + 4) % 40 = 4 → 0 ≤ z1366 ∧ z1366 ≤ 20) ∧ (((40 * p1) + 4) % 40 = 5 → 0 ≤ z1366 ∧ z1366 ≤ 8)) → ((z1366 ≤ z1098) → rec2 ((1 : Int), (z1098 + 1))) ∧ ((z1098 < z1366) → ∀ z1381 : Int, μ 126 ((((40 * p1) + 6) + z1098).toNat) = z1381 → ((-2147483648 ≤ z1381 ∧ z1381 ≤ 2147483647) ∧ ((((40 * p1) + 6) + z1098) % 40 = 0 → -1 ≤ z1381 ∧ z1381 ≤ 9) ∧ ((((40 * p1) + 6) + z1098) % 40 = 4 → 0 ≤ z1381 ∧ z1381 ≤ 20) ∧ ((((40 * p1) + 6) + z1098) % 40 = 5 → 0 ≤ z1381 ∧ z1381 ≤ 8)) → ∀ z1384 : Int, μ 126 ((((40 * p2) + 6) + z1098).toNat) = z1384 → ((-2147483648 ≤ z1384 ∧ z1384 ≤ 2147483647) ∧ ((((40 * p2) + 6) + z1098) % 40 = 0 → -1 ≤ z1384 ∧ z1384 ≤ 9) ∧ ((((40 * p2) + 6) + z1098) % 40 = 4 → 0 ≤ z1384 ∧ z1384 ≤ 20) ∧ ((((40 * p2) + 6) + z1098) % 40 = 5 → 0 ≤ z1384 ∧ z1384 ≤ 8)) → ((¬ z1381 = z1384) → rec2 ((0 : Int), (z1098 + 1))) ∧ ((z1381 = z1384) → rec2 ((1 : Int), (z1098 + 1))))))
def WL_X12_same_W_1 (μ : mM) (p1 : Int) (p2 : Int) (Q : Int → mM → Prop) (rec1 : (Int × Int) → Prop) (s : (Int × Int)) : Prop := ∀ z344 : Int, ∀ z343 : Int, s = (z344, z343) → (0 ≤ z344 ∧ z344 ≤ 1) → (0 ≤ z343 ∧ z343 ≤ 6) → ((6 ≤ z343) → loopF (WL_X12_same_W_2 μ p1 p2 Q) False 22 (z344, (0 : Int))) ∧ ((z343 < 6) → ((z344 = 0) → rec1 ((0 : Int), (z343 + 1))) ∧ ((¬ z344 = 0) → ∀ z1400 : Int, μ 126 (((40 * p1) + z343).toNat) = z1400 → ((-2147483648 ≤ z1400 ∧ z1400 ≤ 2147483647) ∧ (((40 * p1) + z343) % 40 = 0 → -1 ≤ z1400 ∧ z1400 ≤ 9) ∧ (((40 * p1) + z343) % 40 = 4 → 0 ≤ z1400 ∧ z1400 ≤ 20) ∧ (((40 * p1) + z343) % 40 = 5 → 0 ≤ z1400 ∧ z1400 ≤ 8)) → ∀ z1403 : Int, μ 126 (((40 * p2) + z343).toNat) = z1403 → ((-2147483648 ≤ z1403 ∧ z1403 ≤ 2147483647) ∧ (((40 * p2) + z343) % 40 = 0 → -1 ≤ z1403 ∧ z1403 ≤ 9) ∧ (((40 * p2) + z343) % 40 = 4 → 0 ≤ z1403 ∧ z1403 ≤ 20) ∧ (((40 * p2) + z343) % 40 = 5 → 0 ≤ z1403 ∧ z1403 ≤ 8)) → ((¬ z1400 = z1403) → rec1 ((0 : Int), (z343 + 1))) ∧ ((z1400 = z1403) → rec1 ((1 : Int), (z343 + 1)))))
def WP_X12_same_W (w : mW) (μ : mM) (p1 : Int) (p2 : Int) (Q : Int → mM → Prop) : Prop := ∀ z1 : Int, μ 126 ((40 * p1).toNat) = z1 → ((-2147483648 ≤ z1 ∧ z1 ≤ 2147483647) ∧ ((40 * p1) % 40 = 0 → -1 ≤ z1 ∧ z1 ≤ 9) ∧ ((40 * p1) % 40 = 4 → 0 ≤ z1 ∧ z1 ≤ 20) ∧ ((40 * p1) % 40 = 5 → 0 ≤ z1 ∧ z1 ≤ 8)) → WP_X12_isThere_W w μ p1 (fun z9 _ => (0 ≤ z9 ∧ z9 ≤ 1) → ((z9 = 0) → WP_X12_isThere_W w μ p1 (fun z18 _ => (0 ≤ z18 ∧ z18 ≤ 1) → ∀ z19 : Int, μ 126 ((40 * p2).toNat) = z19 → ((-2147483648 ≤ z19 ∧ z19 ≤ 2147483647) ∧ ((40 * p2) % 40 = 0 → -1 ≤ z19 ∧ z19 ≤ 9) ∧ ((40 * p2) % 40 = 4 → 0 ≤ z19 ∧ z19 ≤ 20) ∧ ((40 * p2) % 40 = 5 → 0 ≤ z19 ∧ z19 ≤ 8)) → WP_X12_isThere_W w μ p2 (fun z27 _ => (0 ≤ z27 ∧ z27 ≤ 1) → ((¬ z18 = z27) → Q (0 : Int) μ) ∧ ((z18 = z27) → Q (1 : Int) μ)))) ∧ ((¬ z9 = 0) → ∀ z32 : Int, μ 126 ((40 * p2).toNat) = z32 → ((-2147483648 ≤ z32 ∧ z32 ≤ 2147483647) ∧ ((40 * p2) % 40 = 0 → -1 ≤ z32 ∧ z32 ≤ 9) ∧ ((40 * p2) % 40 = 4 → 0 ≤ z32 ∧ z32 ≤ 20) ∧ ((40 * p2) % 40 = 5 → 0 ≤ z32 ∧ z32 ≤ 8)) → WP_X12_isThere_W w μ p2 (fun z40 _ => (0 ≤ z40 ∧ z40 ≤ 1) → ((¬ z40 = 0) → loopF (WL_X12_same_W_1 μ p1 p2 Q) False 8 ((1 : Int), (0 : Int))) ∧ ((z40 = 0) → WP_X12_isThere_W w μ p1 (fun z1414 _ => (0 ≤ z1414 ∧ z1414 ≤ 1) → WP_X12_isThere_W w μ p2 (fun z1419 _ => (0 ≤ z1419 ∧ z1419 ≤ 1) → ((¬ z1414 = z1419) → Q (0 : Int) μ) ∧ ((z1414 = z1419) → Q (1 : Int) μ)))))))
theorem vc_X12_same_W_15 {z343 : Int} (h0 : 6 ≤ z343) (h1 : 0 ≤ z343 ∧ z343 ≤ 6) : 6 ≤ z343 ∧ z343 ≤ 6 := by omega
theorem vc_X12_same_W_18 {z1291 : Int} (h0 : 8 ≤ z1291) (h1 : 0 ≤ z1291 ∧ z1291 ≤ 8) : 8 ≤ z1291 ∧ z1291 ≤ 8 := by omega
theorem vc_X12_same_W_19 {z1291 : Int} (h0 : z1291 < 8) (h1 : 0 ≤ z1291 ∧ z1291 ≤ 8) : 0 ≤ z1291 ∧ z1291 ≤ 7 := by omega
theorem vc_X12_same_W_23 {z1291 z1338 : Int} (h0 : z1338 ≤ z1291) (h1 : z1291 < 8) (h2 : 0 ≤ z1291 ∧ z1291 ≤ 7) (h3 : 0 ≤ z1338 ∧ z1338 ≤ 8) : 0 ≤ z1338 ∧ z1338 ≤ 7 := by omega
theorem vc_X12_same_W_24 {N z1291 z1338 : Int} (h0 : (9 - z1291) < N + 1) (h1 : z1291 < 8) (h2 : z1338 ≤ z1291) (h3 : 0 ≤ z1291 ∧ z1291 ≤ 7) (h4 : 0 ≤ z1338 ∧ z1338 ≤ 7) : (9 - (z1291 + 1)) < N := by omega
theorem vc_X12_same_W_25 {z1291 z1338 : Int} (h0 : z1291 < z1338) (h1 : z1291 < 8) (h2 : 0 ≤ z1291 ∧ z1291 ≤ 7) (h3 : 0 ≤ z1338 ∧ z1338 ≤ 8) : 1 ≤ z1338 ∧ z1338 ≤ 8 := by omega
theorem vc_X12_same_W_26 {N p1 p2 z1291 z1338 z1353 z1356 : Int} (h0 : (9 - z1291) < N + 1) (h1 : z1291 < 8) (h2 : z1291 < z1338) (h3 : ((((40 * p1) + 26) + z1291) % 40 = 0 → -1 ≤ z1353 ∧ z1353 ≤ 9)) (h4 : ((((40 * p1) + 26) + z1291) % 40 = 4 → 0 ≤ z1353 ∧ z1353 ≤ 20)) (h5 : ((((40 * p1) + 26) + z1291) % 40 = 5 → 0 ≤ z1353 ∧ z1353 ≤ 8)) (h6 : ((((40 * p2) + 26) + z1291) % 40 = 0 → -1 ≤ z1356 ∧ z1356 ≤ 9)) (h7 : ((((40 * p2) + 26) + z1291) % 40 = 4 → 0 ≤ z1356 ∧ z1356 ≤ 20)) (h8 : ((((40 * p2) + 26) + z1291) % 40 = 5 → 0 ≤ z1356 ∧ z1356 ≤ 8)) (h9 : ¬ z1353 = z1356) (h10 : 0 ≤ p1 ∧ p1 ≤ 2099) (h11 : 0 ≤ p2 ∧ p2 ≤ 2099) (h12 : 0 ≤ z1291 ∧ z1291 ≤ 7) (h13 : 1 ≤ z1338 ∧ z1338 ≤ 8) (h14 : (-2147483648) ≤ z1353 ∧ z1353 ≤ 2147483647) (h15 : (-2147483648) ≤ z1356 ∧ z1356 ≤ 2147483647) : (9 - (z1291 + 1)) < N := by omega
theorem vc_X12_same_W_27 {N p1 p2 z1291 z1338 z1353 z1356 : Int} (h0 : (9 - z1291) < N + 1) (h1 : z1291 < 8) (h2 : z1291 < z1338) (h3 : ((((40 * p1) + 26) + z1291) % 40 = 0 → -1 ≤ z1353 ∧ z1353 ≤ 9)) (h4 : ((((40 * p1) + 26) + z1291) % 40 = 4 → 0 ≤ z1353 ∧ z1353 ≤ 20)) (h5 : ((((40 * p1) + 26) + z1291) % 40 = 5 → 0 ≤ z1353 ∧ z1353 ≤ 8)) (h6 : ((((40 * p2) + 26) + z1291) % 40 = 0 → -1 ≤ z1356 ∧ z1356 ≤ 9)) (h7 : ((((40 * p2) + 26) + z1291) % 40 = 4 → 0 ≤ z1356 ∧ z1356 ≤ 20)) (h8 : ((((40 * p2) + 26) + z1291) % 40 = 5 → 0 ≤ z1356 ∧ z1356 ≤ 8)) (h9 : z1353 = z1356) (h10 : 0 ≤ p1 ∧ p1 ≤ 2099) (h11 : 0 ≤ p2 ∧ p2 ≤ 2099) (h12 : 0 ≤ z1291 ∧ z1291 ≤ 7) (h13 : 1 ≤ z1338 ∧ z1338 ≤ 8) (h14 : (-2147483648) ≤ z1353 ∧ z1353 ≤ 2147483647) (h15 : (-2147483648) ≤ z1356 ∧ z1356 ≤ 2147483647) : (9 - (z1291 + 1)) < N := by omega
theorem vc_X12_same_W_34 {z1098 z1366 : Int} (h0 : z1366 ≤ z1098) (h1 : z1098 < 20) (h2 : 0 ≤ z1098 ∧ z1098 ≤ 19) (h3 : 0 ≤ z1366 ∧ z1366 ≤ 20) : 0 ≤ z1366 ∧ z1366 ≤ 19 := by omega
theorem vc_X12_same_W_35 {N z1098 z1366 : Int} (h0 : (21 - z1098) < N + 1) (h1 : z1098 < 20) (h2 : z1366 ≤ z1098) (h3 : 0 ≤ z1098 ∧ z1098 ≤ 19) (h4 : 0 ≤ z1366 ∧ z1366 ≤ 19) : (21 - (z1098 + 1)) < N := by omega
theorem vc_X12_same_W_36 {z1098 z1366 : Int} (h0 : z1098 < z1366) (h1 : z1098 < 20) (h2 : 0 ≤ z1098 ∧ z1098 ≤ 19) (h3 : 0 ≤ z1366 ∧ z1366 ≤ 20) : 1 ≤ z1366 ∧ z1366 ≤ 20 := by omega
theorem vc_X12_same_W_37 {N p1 p2 z1098 z1366 z1381 z1384 : Int} (h0 : (21 - z1098) < N + 1) (h1 : z1098 < 20) (h2 : z1098 < z1366) (h3 : ((((40 * p1) + 6) + z1098) % 40 = 0 → -1 ≤ z1381 ∧ z1381 ≤ 9)) (h4 : ((((40 * p1) + 6) + z1098) % 40 = 4 → 0 ≤ z1381 ∧ z1381 ≤ 20)) (h5 : ((((40 * p1) + 6) + z1098) % 40 = 5 → 0 ≤ z1381 ∧ z1381 ≤ 8)) (h6 : ((((40 * p2) + 6) + z1098) % 40 = 0 → -1 ≤ z1384 ∧ z1384 ≤ 9)) (h7 : ((((40 * p2) + 6) + z1098) % 40 = 4 → 0 ≤ z1384 ∧ z1384 ≤ 20)) (h8 : ((((40 * p2) + 6) + z1098) % 40 = 5 → 0 ≤ z1384 ∧ z1384 ≤ 8)) (h9 : ¬ z1381 = z1384) (h10 : 0 ≤ p1 ∧ p1 ≤ 2099) (h11 : 0 ≤ p2 ∧ p2 ≤ 2099) (h12 : 0 ≤ z1098 ∧ z1098 ≤ 19) (h13 : 1 ≤ z1366 ∧ z1366 ≤ 20) (h14 : (-2147483648) ≤ z1381 ∧ z1381 ≤ 2147483647) (h15 : (-2147483648) ≤ z1384 ∧ z1384 ≤ 2147483647) : (21 - (z1098 + 1)) < N := by omega
theorem vc_X12_same_W_38 {N p1 p2 z1098 z1366 z1381 z1384 : Int} (h0 : (21 - z1098) < N + 1) (h1 : z1098 < 20) (h2 : z1098 < z1366) (h3 : ((((40 * p1) + 6) + z1098) % 40 = 0 → -1 ≤ z1381 ∧ z1381 ≤ 9)) (h4 : ((((40 * p1) + 6) + z1098) % 40 = 4 → 0 ≤ z1381 ∧ z1381 ≤ 20)) (h5 : ((((40 * p1) + 6) + z1098) % 40 = 5 → 0 ≤ z1381 ∧ z1381 ≤ 8)) (h6 : ((((40 * p2) + 6) + z1098) % 40 = 0 → -1 ≤ z1384 ∧ z1384 ≤ 9)) (h7 : ((((40 * p2) + 6) + z1098) % 40 = 4 → 0 ≤ z1384 ∧ z1384 ≤ 20)) (h8 : ((((40 * p2) + 6) + z1098) % 40 = 5 → 0 ≤ z1384 ∧ z1384 ≤ 8)) (h9 : z1381 = z1384) (h10 : 0 ≤ p1 ∧ p1 ≤ 2099) (h11 : 0 ≤ p2 ∧ p2 ≤ 2099) (h12 : 0 ≤ z1098 ∧ z1098 ≤ 19) (h13 : 1 ≤ z1366 ∧ z1366 ≤ 20) (h14 : (-2147483648) ≤ z1381 ∧ z1381 ≤ 2147483647) (h15 : (-2147483648) ≤ z1384 ∧ z1384 ≤ 2147483647) : (21 - (z1098 + 1)) < N := by omega
theorem vc_X12_same_W_40 {z343 : Int} (h0 : z343 < 6) (h1 : 0 ≤ z343 ∧ z343 ≤ 6) : 0 ≤ z343 ∧ z343 ≤ 5 := by omega
theorem vc_X12_same_W_42 {N z343 : Int} (h0 : (7 - z343) < N + 1) (h1 : z343 < 6) (h2 : 0 ≤ z343 ∧ z343 ≤ 5) : (7 - (z343 + 1)) < N := by omega
theorem vc_X12_same_W_44 {N p1 p2 z1400 z1403 z343 : Int} (h0 : (7 - z343) < N + 1) (h1 : z343 < 6) (h2 : (((40 * p1) + z343) % 40 = 0 → -1 ≤ z1400 ∧ z1400 ≤ 9)) (h3 : (((40 * p1) + z343) % 40 = 4 → 0 ≤ z1400 ∧ z1400 ≤ 20)) (h4 : (((40 * p1) + z343) % 40 = 5 → 0 ≤ z1400 ∧ z1400 ≤ 8)) (h5 : (((40 * p2) + z343) % 40 = 0 → -1 ≤ z1403 ∧ z1403 ≤ 9)) (h6 : (((40 * p2) + z343) % 40 = 4 → 0 ≤ z1403 ∧ z1403 ≤ 20)) (h7 : (((40 * p2) + z343) % 40 = 5 → 0 ≤ z1403 ∧ z1403 ≤ 8)) (h8 : ¬ z1400 = z1403) (h9 : 0 ≤ p1 ∧ p1 ≤ 2099) (h10 : 0 ≤ p2 ∧ p2 ≤ 2099) (h11 : (-2147483648) ≤ z1400 ∧ z1400 ≤ 2147483647) (h12 : (-2147483648) ≤ z1403 ∧ z1403 ≤ 2147483647) (h13 : 0 ≤ z343 ∧ z343 ≤ 5) : (7 - (z343 + 1)) < N := by omega
theorem vc_X12_same_W_45 {N p1 p2 z1400 z1403 z343 : Int} (h0 : (7 - z343) < N + 1) (h1 : z343 < 6) (h2 : (((40 * p1) + z343) % 40 = 0 → -1 ≤ z1400 ∧ z1400 ≤ 9)) (h3 : (((40 * p1) + z343) % 40 = 4 → 0 ≤ z1400 ∧ z1400 ≤ 20)) (h4 : (((40 * p1) + z343) % 40 = 5 → 0 ≤ z1400 ∧ z1400 ≤ 8)) (h5 : (((40 * p2) + z343) % 40 = 0 → -1 ≤ z1403 ∧ z1403 ≤ 9)) (h6 : (((40 * p2) + z343) % 40 = 4 → 0 ≤ z1403 ∧ z1403 ≤ 20)) (h7 : (((40 * p2) + z343) % 40 = 5 → 0 ≤ z1403 ∧ z1403 ≤ 8)) (h8 : z1400 = z1403) (h9 : 0 ≤ p1 ∧ p1 ≤ 2099) (h10 : 0 ≤ p2 ∧ p2 ≤ 2099) (h11 : (-2147483648) ≤ z1400 ∧ z1400 ≤ 2147483647) (h12 : (-2147483648) ≤ z1403 ∧ z1403 ≤ 2147483647) (h13 : 0 ≤ z343 ∧ z343 ≤ 5) : (7 - (z343 + 1)) < N := by omega
set_option maxRecDepth 4000 in
set_option maxHeartbeats 4000000 in
theorem c_X12_same_W {l : Launch} {D : va_G} {c : Nat → ClassId} {H0 : Heap} {sa : Nat × Nat × (Nat → Int32)} {w : mW} {μ : mM} (hw : mWF w) (hT : mT w μ) {p1 : Int} (hp1 : 0 ≤ p1 ∧ p1 ≤ 2099) {p2 : Int} (hp2 : 0 ≤ p2 ∧ p2 ≤ 2099) {Q : Int → mM → Prop} (hQ : WP_X12_same_W w μ p1 p2 Q) : sC (gG l D c H0 sa) mX12_same 2 0 0 [.ref 106, iv p1, iv p2] (mk w μ) (qP w μ (fun z => (0 ≤ z ∧ z ≤ 1) ∧ Q z μ ∧ True)) := by
  refine sC.of rfl (by decide) (le_t rfl) ?_
  refine mr_lvE (lv' := [(0, .ref 106), (1, iv p1), (2, iv p2)]) rfl ?_
  refine sv_aload_n (pc := 0) dX12_same_0 rfl rfl ?_
  refine mr_iload_n (pc := 1) (z := p1) dX12_same_1 rfl rfl ?_
  obtain ⟨z1, q2⟩ : ∃ z, μ 126 ((40 * p1).toNat) = z := ⟨_, rfl⟩
  have h3 := rt7 hT (A_126 hw) (vc_X12_copy_1 hp1) q2
  have h4 : (-1) ≤ z1 ∧ z1 ≤ 9 := h3.2.1 (vc_X12_copy_2 hp1)
  refine mr_cVP (pc := 2) (c_X12_isThere_W hw hT hp1 q2 (hQ z1 q2 h3)) (gOk _ _ _ _ _) dX12_same_2 (tX12_isThere _ _ _ _ _) ⟨wV_X12_isThere, wL_X12_isThere⟩ wM_X12_151 (gCX12 _ _ _ _ _) rfl (A_106 hw) rfl ⟨le_t rfl, le_t rfl⟩ ⟨le_t rfl, le_t rfl⟩ rfl (le_t rfl) fun z9 h8 => ?_
  refine mr_if_eq (pc := 5) (tgt := 16) dX12_same_5 (by decide) (r32 h8.1 rfl) (fun h10 => ?_) (fun h10 => ?_)
  · have h11 : 0 ≤ z9 ∧ z9 ≤ 0 := (vc_X12_candidate_32 h10 h8.2.1 h8.2.2.1 h4 h8.1)
    have h12 : z1 < 0 := (h8.2.2.1 (vc_X12_candidate_33 h8.2.1 h8.2.2.1 h10 h4 h11))
    have h13 : (-1) ≤ z1 ∧ z1 ≤ (-1) := (vc_X12_candidate_34 h12 h8.2.1 h8.2.2.1 h4 h11)
    refine sv_aload_n (pc := 16) dX12_same_16 rfl rfl ?_
    refine mr_iload_n (pc := 17) (z := p1) dX12_same_17 rfl rfl ?_
    refine mr_cVP (pc := 18) (c_X12_isThere_W hw hT hp1 q2 ((h8.2.2.2.1 h8.1).1 h10)) (gOk _ _ _ _ _) dX12_same_18 (tX12_isThere _ _ _ _ _) ⟨wV_X12_isThere, wL_X12_isThere⟩ wM_X12_151 (gCX12 _ _ _ _ _) rfl (A_106 hw) rfl ⟨le_t rfl, le_t rfl⟩ ⟨le_t rfl, le_t rfl⟩ rfl (le_t rfl) fun z18 h17 => ?_
    refine sv_aload_n (pc := 21) dX12_same_21 rfl rfl ?_
    refine mr_iload_n (pc := 22) (z := p2) dX12_same_22 rfl rfl ?_
    obtain ⟨z19, q20⟩ : ∃ z, μ 126 ((40 * p2).toNat) = z := ⟨_, rfl⟩
    have h21 := rt7 hT (A_126 hw) (vc_X12_copy_1 hp2) q20
    have h22 : (-1) ≤ z19 ∧ z19 ≤ 9 := h21.2.1 (vc_X12_copy_2 hp2)
    refine mr_cVP (pc := 23) (c_X12_isThere_W hw hT hp2 q20 ((h17.2.2.2.1 h17.1) z19 q20 h21)) (gOk _ _ _ _ _) dX12_same_23 (tX12_isThere _ _ _ _ _) ⟨wV_X12_isThere, wL_X12_isThere⟩ wM_X12_151 (gCX12 _ _ _ _ _) rfl (A_106 hw) rfl ⟨le_t rfl, le_t rfl⟩ ⟨le_t rfl, le_t rfl⟩ rfl (le_t rfl) fun z27 h26 => ?_
    refine mr_icmp_ne (pc := 26) (tgt := 33) dX12_same_26 (by decide) (r32 h17.1 rfl) (r32 h26.1 rfl) (fun h28 => ?_) (fun h28 => ?_)
    · refine mr_iconst (pc := 33) (z := 0) dX12_same_33 ?_
      exact mr_zretP dX12_same_34 rfl (rW (c := 0) (d := 1) (rR (x := 0)) rfl) (le_t rfl) (le_t rfl) ⟨(rW (c := 0) (d := 1) (rR (x := 0)) rfl), ((h26.2.2.2.1 h26.1).1 h28), trivial⟩
    refine mr_iconst (pc := 29) (z := 1) dX12_same_29 ?_
    refine sv_goto (pc := 30) (tgt := 34) dX12_same_30 (by decide) ?_
    exact mr_zretP dX12_same_34 rfl (rW (c := 0) (d := 1) (rR (x := 1)) rfl) (le_t rfl) (le_t rfl) ⟨(rW (c := 0) (d := 1) (rR (x := 1)) rfl), ((h26.2.2.2.1 h26.1).2 h28), trivial⟩
  have h29 : 1 ≤ z9 ∧ z9 ≤ 1 := (vc_X12_candidate_11 h10 h8.2.1 h8.2.2.1 h4 h8.1)
  have h30 : 0 ≤ z1 := (h8.2.1 (vc_X12_candidate_12 h8.2.1 h8.2.2.1 h10 h4 h29))
  have h31 : 0 ≤ z1 ∧ z1 ≤ 9 := (vc_X12_candidate_13 h30 h8.2.1 h8.2.2.1 h4 h29)
  refine sv_aload_n (pc := 8) dX12_same_8 rfl rfl ?_
  refine mr_iload_n (pc := 9) (z := p2) dX12_same_9 rfl rfl ?_
  obtain ⟨z32, q33⟩ : ∃ z, μ 126 ((40 * p2).toNat) = z := ⟨_, rfl⟩
  have h34 := rt7 hT (A_126 hw) (vc_X12_copy_1 hp2) q33
  have h35 : (-1) ≤ z32 ∧ z32 ≤ 9 := h34.2.1 (vc_X12_copy_2 hp2)
  refine mr_cVP (pc := 10) (c_X12_isThere_W hw hT hp2 q33 (((h8.2.2.2.1 h8.1).2 h10) z32 q33 h34)) (gOk _ _ _ _ _) dX12_same_10 (tX12_isThere _ _ _ _ _) ⟨wV_X12_isThere, wL_X12_isThere⟩ wM_X12_151 (gCX12 _ _ _ _ _) rfl (A_106 hw) rfl ⟨le_t rfl, le_t rfl⟩ ⟨le_t rfl, le_t rfl⟩ rfl (le_t rfl) fun z40 h39 => ?_
  refine mr_if_ne (pc := 13) (tgt := 35) dX12_same_13 (by decide) (r32 h39.1 rfl) (fun h41 => ?_) (fun h41 => ?_)
  · have h42 : 1 ≤ z40 ∧ z40 ≤ 1 := (vc_X12_candidate_11 h41 h39.2.1 h39.2.2.1 h35 h39.1)
    have h43 : 0 ≤ z32 := (h39.2.1 (vc_X12_candidate_12 h39.2.1 h39.2.2.1 h41 h35 h42))
    have h44 : 0 ≤ z32 ∧ z32 ≤ 9 := (vc_X12_candidate_13 h43 h39.2.1 h39.2.2.1 h35 h42)
    refine mr_iconst (pc := 35) (z := 1) dX12_same_35 ?_
    refine mr_istore_n (pc := 36) (lv' := [(3, iv 1), (0, .ref 106), (1, iv p1), (2, iv p2)]) dX12_same_36 rfl (by decide) rfl ?_
    refine mr_iconst (pc := 37) (z := 0) dX12_same_37 ?_
    refine mr_istore (pc := 38) (lv' := [(4, iv 0), (3, iv 1), (0, .ref 106), (1, iv p1), (2, iv p2)]) dX12_same_38 (by decide) rfl ?_
    have L345 : ∀ (nL345 : Nat) (z344 z343 : Int), True → (0 ≤ z344 ∧ z344 ≤ 1) → (0 ≤ z343 ∧ z343 ≤ 6) → (7 - z343) < (nL345 : Int) → loopF (WL_X12_same_W_1 μ p1 p2 Q) False nL345 (z344, z343) → sV (gG l D c H0 sa) mX12_same (sRm 2 0 0) (sZ (gG l D c H0 sa) 0 0 (qP w μ (fun z => (0 ≤ z ∧ z ≤ 1) ∧ Q z μ ∧ True))) 40 [(0, .ref 106), (1, iv p1), (2, iv p2), (3, iv z344), (4, iv z343)] [] (mk w μ) 0 0 := by
      intro nL345
      induction nL345 with
      | zero => intro z344 z343 _ h346 h347 h351 W352; exact ((vc_X12_wish_49 h351 h347)).elim
      | succ nL345 ih353 =>
        intro z344 z343 _ h346 h347 h351 W352
        refine mr_iload (pc := 40) (z := z343) dX12_same_40 rfl ?_
        refine mr_bipush (pc := 42) (z := 6) dX12_same_42 (by decide) ?_
        refine mr_icmp_ge (pc := 44) (tgt := 90) dX12_same_44 (by decide) (r32 h347 rfl) (r32 (rR (x := 6)) rfl) (fun h364 => ?_) (fun h364 => ?_)
        · have h365 : 6 ≤ z343 ∧ z343 ≤ 6 := (vc_X12_same_W_15 h364 h347)
          refine mr_iconst (pc := 90) (z := 0) dX12_same_90 ?_
          refine mr_istore (pc := 91) (lv' := [(4, iv 0), (0, .ref 106), (1, iv p1), (2, iv p2), (3, iv z344)]) dX12_same_91 (by decide) rfl ?_
          have L1100 : ∀ (nL1100 : Nat) (z1099 z1098 : Int), True → (0 ≤ z1099 ∧ z1099 ≤ 1) → (0 ≤ z1098 ∧ z1098 ≤ 20) → (21 - z1098) < (nL1100 : Int) → loopF (WL_X12_same_W_2 μ p1 p2 Q) False nL1100 (z1099, z1098) → sV (gG l D c H0 sa) mX12_same (sRm 2 0 0) (sZ (gG l D c H0 sa) 0 0 (qP w μ (fun z => (0 ≤ z ∧ z ≤ 1) ∧ Q z μ ∧ True))) 93 [(0, .ref 106), (1, iv p1), (2, iv p2), (3, iv z1099), (4, iv z1098)] [] (mk w μ) 0 0 := by
            intro nL1100
            induction nL1100 with
            | zero => intro z1099 z1098 _ h1101 h1102 h1106 W1107; exact ((vc_X12_tieOf_1 h1106 h1102)).elim
            | succ nL1100 ih1108 =>
              intro z1099 z1098 _ h1101 h1102 h1106 W1107
              refine mr_iload (pc := 93) (z := z1098) dX12_same_93 rfl ?_
              refine mr_bipush (pc := 95) (z := 20) dX12_same_95 (by decide) ?_
              have J1125 : ((WJ_X12_same_W_3 μ p1 p2 Q z1099) ) → sV (gG l D c H0 sa) mX12_same (sRm 2 0 0) (sZ (gG l D c H0 sa) 0 0 (qP w μ (fun z => (0 ≤ z ∧ z ≤ 1) ∧ Q z μ ∧ True))) 165 [(0, .ref 106), (1, iv p1), (2, iv p2), (3, iv z1099)] [] (mk w μ) 0 0 := by
                intro W1126
                refine mr_iconst (pc := 165) (z := 0) dX12_same_165 ?_
                refine mr_istore (pc := 166) (lv' := [(4, iv 0), (0, .ref 106), (1, iv p1), (2, iv p2), (3, iv z1099)]) dX12_same_166 (by decide) rfl ?_
                have L1293 : ∀ (nL1293 : Nat) (z1292 z1291 : Int), True → (0 ≤ z1292 ∧ z1292 ≤ 1) → (0 ≤ z1291 ∧ z1291 ≤ 8) → (9 - z1291) < (nL1293 : Int) → loopF (WL_X12_same_W_4 μ p1 p2 Q) False nL1293 (z1292, z1291) → sV (gG l D c H0 sa) mX12_same (sRm 2 0 0) (sZ (gG l D c H0 sa) 0 0 (qP w μ (fun z => (0 ≤ z ∧ z ≤ 1) ∧ Q z μ ∧ True))) 168 [(0, .ref 106), (1, iv p1), (2, iv p2), (3, iv z1292), (4, iv z1291)] [] (mk w μ) 0 0 := by
                  intro nL1293
                  induction nL1293 with
                  | zero => intro z1292 z1291 _ h1294 h1295 h1299 W1300; exact ((vc_X12_marked_1 h1299 h1295)).elim
                  | succ nL1293 ih1301 =>
                    intro z1292 z1291 _ h1294 h1295 h1299 W1300
                    refine mr_iload (pc := 168) (z := z1291) dX12_same_168 rfl ?_
                    refine mr_bipush (pc := 170) (z := 8) dX12_same_170 (by decide) ?_
                    refine mr_icmp_ge (pc := 172) (tgt := 240) dX12_same_172 (by decide) (r32 h1295 rfl) (r32 (rR (x := 8)) rfl) (fun h1318 => ?_) (fun h1318 => ?_)
                    · have h1319 : 8 ≤ z1291 ∧ z1291 ≤ 8 := (vc_X12_same_W_18 h1318 h1295)
                      refine mr_iload_n (pc := 240) (z := z1292) dX12_same_240 rfl rfl ?_
                      exact mr_zretP dX12_same_241 rfl h1294 (le_t rfl) (le_t rfl) ⟨h1294, ((W1300 z1292 z1291 rfl h1294 h1295).1 h1318), trivial⟩
                    have h1320 : 0 ≤ z1291 ∧ z1291 ≤ 7 := (vc_X12_same_W_19 h1318 h1295)
                    refine mr_iload_n (pc := 175) (z := z1292) dX12_same_175 rfl rfl ?_
                    refine mr_if_eq (pc := 176) (tgt := 240) dX12_same_176 (by decide) (r32 h1294 rfl) (fun h1335 => ?_) (fun h1335 => ?_)
                    · have h1336 : 0 ≤ z1292 ∧ z1292 ≤ 0 := (vc_X12_ring_22 h1335 h1294)
                      refine mr_iload_n (pc := 240) (z := z1292) dX12_same_240 rfl rfl ?_
                      exact mr_zretP dX12_same_241 rfl (rW (c := 0) (d := 1) h1336 rfl) (le_t rfl) (le_t rfl) ⟨(rW (c := 0) (d := 1) h1336 rfl), (((W1300 z1292 z1291 rfl h1294 h1295).2 h1318).1 h1335), trivial⟩
                    have h1337 : 1 ≤ z1292 ∧ z1292 ≤ 1 := (vc_X12_ring_24 h1335 h1294)
                    refine mr_iload (pc := 179) (z := z1291) dX12_same_179 rfl ?_
                    refine sv_aload_n (pc := 181) dX12_same_181 rfl rfl ?_
                    refine gf_X12_32 (pc := 182) dX12_same_182 wF_X12_148 (A_106 hw) hT ?_
                    refine mr_bipush (pc := 185) (z := 40) dX12_same_185 (by decide) ?_
                    refine mr_iload_n (pc := 187) (z := p1) dX12_same_187 rfl rfl ?_
                    refine mr_imul (pc := 188) (x := 40) (y := p1) dX12_same_188 ?_
                    refine mr_iconst (pc := 189) (z := 5) dX12_same_189 ?_
                    refine mr_iadd (pc := 190) (x := (40 * p1)) (y := 5) dX12_same_190 ?_
                    refine la_126 (pc := 191) dX12_same_191 (A_126 hw) hT (rIx (n := 84000) (rAdd (e := 5) (f := 83965) (rMulL (n := 40) (e := 0) (f := 83960) hp1 rfl) (rR (x := 5)) rfl) rfl) fun z1338 q1339 h1340 => ?_
                    have h1341 : 0 ≤ z1338 ∧ z1338 ≤ 8 := h1340.2.2.2 (vc_X12_marked_2 hp1)
                    refine mr_icmp_ge (pc := 192) (tgt := 228) dX12_same_192 (by decide) (r32 h1320 rfl) (r32 h1341 rfl) (fun h1350 => ?_) (fun h1350 => ?_)
                    · have h1351 : 0 ≤ z1338 ∧ z1338 ≤ 7 := (vc_X12_same_W_23 h1350 h1318 h1320 h1341)
                      refine mr_iconst (pc := 228) (z := 1) dX12_same_228 ?_
                      refine sv_goto (pc := 229) (tgt := 233) dX12_same_229 (by decide) ?_
                      refine mr_istore_n (pc := 233) (lv' := [(3, iv 1), (0, .ref 106), (1, iv p1), (2, iv p2), (4, iv z1291)]) dX12_same_233 rfl (by decide) rfl ?_
                      refine mr_iinc (pc := 234) (lv' := [(4, iv (z1291 + 1)), (3, iv 1), (0, .ref 106), (1, iv p1), (2, iv p2)]) dX12_same_234 rfl (by decide) rfl ?_
                      refine sv_goto (pc := 237) (tgt := 168) dX12_same_237 (by decide) ?_
                      refine mr_lvS (lv' := [(0, .ref 106), (1, iv p1), (2, iv p2), (3, iv 1), (4, iv (z1291 + 1))]) (List.forall_mem_cons.mpr ⟨rfl, List.forall_mem_cons.mpr ⟨rfl, List.forall_mem_cons.mpr ⟨rfl, List.forall_mem_cons.mpr ⟨rfl, List.forall_mem_cons.mpr ⟨rfl, fun _ h => absurd h List.not_mem_nil⟩⟩⟩⟩⟩) ?_
                      exact ih1301 1 (z1291 + 1) trivial (rW (c := 0) (d := 1) (rR (x := 1)) rfl) (rW (c := 0) (d := 8) (rAdd (e := 1) (f := 8) h1320 (rR (x := 1)) rfl) rfl) (vc_X12_same_W_24 (nS h1299) h1318 h1350 h1320 h1351) (((((W1300 z1292 z1291 rfl h1294 h1295).2 h1318).2 h1335) z1338 q1339 h1340).1 h1350)
                    have h1352 : 1 ≤ z1338 ∧ z1338 ≤ 8 := (vc_X12_same_W_25 h1350 h1318 h1320 h1341)
                    refine sv_aload_n (pc := 195) dX12_same_195 rfl rfl ?_
                    refine gf_X12_32 (pc := 196) dX12_same_196 wF_X12_148 (A_106 hw) hT ?_
                    refine mr_bipush (pc := 199) (z := 40) dX12_same_199 (by decide) ?_
                    refine mr_iload_n (pc := 201) (z := p1) dX12_same_201 rfl rfl ?_
                    refine mr_imul (pc := 202) (x := 40) (y := p1) dX12_same_202 ?_
                    refine mr_bipush (pc := 203) (z := 26) dX12_same_203 (by decide) ?_
                    refine mr_iadd (pc := 205) (x := (40 * p1)) (y := 26) dX12_same_205 ?_
                    refine mr_iload (pc := 206) (z := z1291) dX12_same_206 rfl ?_
                    refine mr_iadd (pc := 208) (x := ((40 * p1) + 26)) (y := z1291) dX12_same_208 ?_
                    refine la_126 (pc := 209) dX12_same_209 (A_126 hw) hT (rIx (n := 84000) (rAdd (e := 26) (f := 83993) (rAdd (e := 26) (f := 83986) (rMulL (n := 40) (e := 0) (f := 83960) hp1 rfl) (rR (x := 26)) rfl) h1320 rfl) rfl) fun z1353 q1354 h1355 => ?_
                    refine sv_aload_n (pc := 210) dX12_same_210 rfl rfl ?_
                    refine gf_X12_32 (pc := 211) dX12_same_211 wF_X12_148 (A_106 hw) hT ?_
                    refine mr_bipush (pc := 214) (z := 40) dX12_same_214 (by decide) ?_
                    refine mr_iload_n (pc := 216) (z := p2) dX12_same_216 rfl rfl ?_
                    refine mr_imul (pc := 217) (x := 40) (y := p2) dX12_same_217 ?_
                    refine mr_bipush (pc := 218) (z := 26) dX12_same_218 (by decide) ?_
                    refine mr_iadd (pc := 220) (x := (40 * p2)) (y := 26) dX12_same_220 ?_
                    refine mr_iload (pc := 221) (z := z1291) dX12_same_221 rfl ?_
                    refine mr_iadd (pc := 223) (x := ((40 * p2) + 26)) (y := z1291) dX12_same_223 ?_
                    refine la_126 (pc := 224) dX12_same_224 (A_126 hw) hT (rIx (n := 84000) (rAdd (e := 26) (f := 83993) (rAdd (e := 26) (f := 83986) (rMulL (n := 40) (e := 0) (f := 83960) hp2 rfl) (rR (x := 26)) rfl) h1320 rfl) rfl) fun z1356 q1357 h1358 => ?_
                    refine mr_icmp_ne (pc := 225) (tgt := 232) dX12_same_225 (by decide) h1355.1 h1358.1 (fun h1359 => ?_) (fun h1359 => ?_)
                    · refine mr_iconst (pc := 232) (z := 0) dX12_same_232 ?_
                      refine mr_istore_n (pc := 233) (lv' := [(3, iv 0), (0, .ref 106), (1, iv p1), (2, iv p2), (4, iv z1291)]) dX12_same_233 rfl (by decide) rfl ?_
                      refine mr_iinc (pc := 234) (lv' := [(4, iv (z1291 + 1)), (3, iv 0), (0, .ref 106), (1, iv p1), (2, iv p2)]) dX12_same_234 rfl (by decide) rfl ?_
                      refine sv_goto (pc := 237) (tgt := 168) dX12_same_237 (by decide) ?_
                      refine mr_lvS (lv' := [(0, .ref 106), (1, iv p1), (2, iv p2), (3, iv 0), (4, iv (z1291 + 1))]) (List.forall_mem_cons.mpr ⟨rfl, List.forall_mem_cons.mpr ⟨rfl, List.forall_mem_cons.mpr ⟨rfl, List.forall_mem_cons.mpr ⟨rfl, List.forall_mem_cons.mpr ⟨rfl, fun _ h => absurd h List.not_mem_nil⟩⟩⟩⟩⟩) ?_
                      exact ih1301 0 (z1291 + 1) trivial (rW (c := 0) (d := 1) (rR (x := 0)) rfl) (rW (c := 0) (d := 8) (rAdd (e := 1) (f := 8) h1320 (rR (x := 1)) rfl) rfl) (vc_X12_same_W_26 (nS h1299) h1318 h1350 h1355.2.1 h1355.2.2.1 h1355.2.2.2 h1358.2.1 h1358.2.2.1 h1358.2.2.2 h1359 hp1 hp2 h1320 h1352 h1355.1 h1358.1) ((((((((W1300 z1292 z1291 rfl h1294 h1295).2 h1318).2 h1335) z1338 q1339 h1340).2 h1350) z1353 q1354 h1355) z1356 q1357 h1358).1 h1359)
                    refine mr_iconst (pc := 228) (z := 1) dX12_same_228 ?_
                    refine sv_goto (pc := 229) (tgt := 233) dX12_same_229 (by decide) ?_
                    refine mr_istore_n (pc := 233) (lv' := [(3, iv 1), (0, .ref 106), (1, iv p1), (2, iv p2), (4, iv z1291)]) dX12_same_233 rfl (by decide) rfl ?_
                    refine mr_iinc (pc := 234) (lv' := [(4, iv (z1291 + 1)), (3, iv 1), (0, .ref 106), (1, iv p1), (2, iv p2)]) dX12_same_234 rfl (by decide) rfl ?_
                    refine sv_goto (pc := 237) (tgt := 168) dX12_same_237 (by decide) ?_
                    refine mr_lvS (lv' := [(0, .ref 106), (1, iv p1), (2, iv p2), (3, iv 1), (4, iv (z1291 + 1))]) (List.forall_mem_cons.mpr ⟨rfl, List.forall_mem_cons.mpr ⟨rfl, List.forall_mem_cons.mpr ⟨rfl, List.forall_mem_cons.mpr ⟨rfl, List.forall_mem_cons.mpr ⟨rfl, fun _ h => absurd h List.not_mem_nil⟩⟩⟩⟩⟩) ?_
                    exact ih1301 1 (z1291 + 1) trivial (rW (c := 0) (d := 1) (rR (x := 1)) rfl) (rW (c := 0) (d := 8) (rAdd (e := 1) (f := 8) h1320 (rR (x := 1)) rfl) rfl) (vc_X12_same_W_27 (nS h1299) h1318 h1350 h1355.2.1 h1355.2.2.1 h1355.2.2.2 h1358.2.1 h1358.2.2.1 h1358.2.2.2 h1359 hp1 hp2 h1320 h1352 h1355.1 h1358.1) ((((((((W1300 z1292 z1291 rfl h1294 h1295).2 h1318).2 h1335) z1338 q1339 h1340).2 h1350) z1353 q1354 h1355) z1356 q1357 h1358).2 h1359)
                refine mr_lvS (lv' := [(0, .ref 106), (1, iv p1), (2, iv p2), (3, iv z1099), (4, iv 0)]) (List.forall_mem_cons.mpr ⟨rfl, List.forall_mem_cons.mpr ⟨rfl, List.forall_mem_cons.mpr ⟨rfl, List.forall_mem_cons.mpr ⟨rfl, List.forall_mem_cons.mpr ⟨rfl, fun _ h => absurd h List.not_mem_nil⟩⟩⟩⟩⟩) ?_
                exact L1293 10 z1099 0 trivial h1101 (rW (c := 0) (d := 8) (rR (x := 0)) rfl) vc_X12_marked_10 (W1126)
              refine mr_icmp_ge (pc := 97) (tgt := 165) dX12_same_97 (by decide) (r32 h1102 rfl) (r32 (rR (x := 20)) rfl) (fun h1360 => ?_) (fun h1360 => ?_)
              · have h1361 : 20 ≤ z1098 ∧ z1098 ≤ 20 := (vc_X12_feed_3 h1360 h1102)
                refine mr_lvS (lv' := [(0, .ref 106), (1, iv p1), (2, iv p2), (3, iv z1099)]) (List.forall_mem_cons.mpr ⟨rfl, List.forall_mem_cons.mpr ⟨rfl, List.forall_mem_cons.mpr ⟨rfl, List.forall_mem_cons.mpr ⟨rfl, fun _ h => absurd h List.not_mem_nil⟩⟩⟩⟩) ?_
                exact J1125 ((W1107 z1099 z1098 rfl h1101 h1102).1 h1360)
              have h1362 : 0 ≤ z1098 ∧ z1098 ≤ 19 := (vc_X12_feed_4 h1360 h1102)
              refine mr_iload_n (pc := 100) (z := z1099) dX12_same_100 rfl rfl ?_
              refine mr_if_eq (pc := 101) (tgt := 165) dX12_same_101 (by decide) (r32 h1101 rfl) (fun h1363 => ?_) (fun h1363 => ?_)
              · have h1364 : 0 ≤ z1099 ∧ z1099 ≤ 0 := (vc_X12_ring_22 h1363 h1101)
                refine mr_lvS (lv' := [(0, .ref 106), (1, iv p1), (2, iv p2), (3, iv z1099)]) (List.forall_mem_cons.mpr ⟨rfl, List.forall_mem_cons.mpr ⟨rfl, List.forall_mem_cons.mpr ⟨rfl, List.forall_mem_cons.mpr ⟨rfl, fun _ h => absurd h List.not_mem_nil⟩⟩⟩⟩) ?_
                exact J1125 (((W1107 z1099 z1098 rfl h1101 h1102).2 h1360).1 h1363)
              have h1365 : 1 ≤ z1099 ∧ z1099 ≤ 1 := (vc_X12_ring_24 h1363 h1101)
              refine mr_iload (pc := 104) (z := z1098) dX12_same_104 rfl ?_
              refine sv_aload_n (pc := 106) dX12_same_106 rfl rfl ?_
              refine gf_X12_32 (pc := 107) dX12_same_107 wF_X12_148 (A_106 hw) hT ?_
              refine mr_bipush (pc := 110) (z := 40) dX12_same_110 (by decide) ?_
              refine mr_iload_n (pc := 112) (z := p1) dX12_same_112 rfl rfl ?_
              refine mr_imul (pc := 113) (x := 40) (y := p1) dX12_same_113 ?_
              refine mr_iconst (pc := 114) (z := 4) dX12_same_114 ?_
              refine mr_iadd (pc := 115) (x := (40 * p1)) (y := 4) dX12_same_115 ?_
              refine la_126 (pc := 116) dX12_same_116 (A_126 hw) hT (rIx (n := 84000) (rAdd (e := 4) (f := 83964) (rMulL (n := 40) (e := 0) (f := 83960) hp1 rfl) (rR (x := 4)) rfl) rfl) fun z1366 q1367 h1368 => ?_
              have h1369 : 0 ≤ z1366 ∧ z1366 ≤ 20 := h1368.2.2.1 (vc_X12_front_1 hp1)
              refine mr_icmp_ge (pc := 117) (tgt := 153) dX12_same_117 (by decide) (r32 h1362 rfl) (r32 h1369 rfl) (fun h1378 => ?_) (fun h1378 => ?_)
              · have h1379 : 0 ≤ z1366 ∧ z1366 ≤ 19 := (vc_X12_same_W_34 h1378 h1360 h1362 h1369)
                refine mr_iconst (pc := 153) (z := 1) dX12_same_153 ?_
                refine sv_goto (pc := 154) (tgt := 158) dX12_same_154 (by decide) ?_
                refine mr_istore_n (pc := 158) (lv' := [(3, iv 1), (0, .ref 106), (1, iv p1), (2, iv p2), (4, iv z1098)]) dX12_same_158 rfl (by decide) rfl ?_
                refine mr_iinc (pc := 159) (lv' := [(4, iv (z1098 + 1)), (3, iv 1), (0, .ref 106), (1, iv p1), (2, iv p2)]) dX12_same_159 rfl (by decide) rfl ?_
                refine sv_goto (pc := 162) (tgt := 93) dX12_same_162 (by decide) ?_
                refine mr_lvS (lv' := [(0, .ref 106), (1, iv p1), (2, iv p2), (3, iv 1), (4, iv (z1098 + 1))]) (List.forall_mem_cons.mpr ⟨rfl, List.forall_mem_cons.mpr ⟨rfl, List.forall_mem_cons.mpr ⟨rfl, List.forall_mem_cons.mpr ⟨rfl, List.forall_mem_cons.mpr ⟨rfl, fun _ h => absurd h List.not_mem_nil⟩⟩⟩⟩⟩) ?_
                exact ih1108 1 (z1098 + 1) trivial (rW (c := 0) (d := 1) (rR (x := 1)) rfl) (rW (c := 0) (d := 20) (rAdd (e := 1) (f := 20) h1362 (rR (x := 1)) rfl) rfl) (vc_X12_same_W_35 (nS h1106) h1360 h1378 h1362 h1379) (((((W1107 z1099 z1098 rfl h1101 h1102).2 h1360).2 h1363) z1366 q1367 h1368).1 h1378)
              have h1380 : 1 ≤ z1366 ∧ z1366 ≤ 20 := (vc_X12_same_W_36 h1378 h1360 h1362 h1369)
              refine sv_aload_n (pc := 120) dX12_same_120 rfl rfl ?_
              refine gf_X12_32 (pc := 121) dX12_same_121 wF_X12_148 (A_106 hw) hT ?_
              refine mr_bipush (pc := 124) (z := 40) dX12_same_124 (by decide) ?_
              refine mr_iload_n (pc := 126) (z := p1) dX12_same_126 rfl rfl ?_
              refine mr_imul (pc := 127) (x := 40) (y := p1) dX12_same_127 ?_
              refine mr_bipush (pc := 128) (z := 6) dX12_same_128 (by decide) ?_
              refine mr_iadd (pc := 130) (x := (40 * p1)) (y := 6) dX12_same_130 ?_
              refine mr_iload (pc := 131) (z := z1098) dX12_same_131 rfl ?_
              refine mr_iadd (pc := 133) (x := ((40 * p1) + 6)) (y := z1098) dX12_same_133 ?_
              refine la_126 (pc := 134) dX12_same_134 (A_126 hw) hT (rIx (n := 84000) (rAdd (e := 6) (f := 83985) (rAdd (e := 6) (f := 83966) (rMulL (n := 40) (e := 0) (f := 83960) hp1 rfl) (rR (x := 6)) rfl) h1362 rfl) rfl) fun z1381 q1382 h1383 => ?_
              refine sv_aload_n (pc := 135) dX12_same_135 rfl rfl ?_
              refine gf_X12_32 (pc := 136) dX12_same_136 wF_X12_148 (A_106 hw) hT ?_
              refine mr_bipush (pc := 139) (z := 40) dX12_same_139 (by decide) ?_
              refine mr_iload_n (pc := 141) (z := p2) dX12_same_141 rfl rfl ?_
              refine mr_imul (pc := 142) (x := 40) (y := p2) dX12_same_142 ?_
              refine mr_bipush (pc := 143) (z := 6) dX12_same_143 (by decide) ?_
              refine mr_iadd (pc := 145) (x := (40 * p2)) (y := 6) dX12_same_145 ?_
              refine mr_iload (pc := 146) (z := z1098) dX12_same_146 rfl ?_
              refine mr_iadd (pc := 148) (x := ((40 * p2) + 6)) (y := z1098) dX12_same_148 ?_
              refine la_126 (pc := 149) dX12_same_149 (A_126 hw) hT (rIx (n := 84000) (rAdd (e := 6) (f := 83985) (rAdd (e := 6) (f := 83966) (rMulL (n := 40) (e := 0) (f := 83960) hp2 rfl) (rR (x := 6)) rfl) h1362 rfl) rfl) fun z1384 q1385 h1386 => ?_
              refine mr_icmp_ne (pc := 150) (tgt := 157) dX12_same_150 (by decide) h1383.1 h1386.1 (fun h1387 => ?_) (fun h1387 => ?_)
              · refine mr_iconst (pc := 157) (z := 0) dX12_same_157 ?_
                refine mr_istore_n (pc := 158) (lv' := [(3, iv 0), (0, .ref 106), (1, iv p1), (2, iv p2), (4, iv z1098)]) dX12_same_158 rfl (by decide) rfl ?_
                refine mr_iinc (pc := 159) (lv' := [(4, iv (z1098 + 1)), (3, iv 0), (0, .ref 106), (1, iv p1), (2, iv p2)]) dX12_same_159 rfl (by decide) rfl ?_
                refine sv_goto (pc := 162) (tgt := 93) dX12_same_162 (by decide) ?_
                refine mr_lvS (lv' := [(0, .ref 106), (1, iv p1), (2, iv p2), (3, iv 0), (4, iv (z1098 + 1))]) (List.forall_mem_cons.mpr ⟨rfl, List.forall_mem_cons.mpr ⟨rfl, List.forall_mem_cons.mpr ⟨rfl, List.forall_mem_cons.mpr ⟨rfl, List.forall_mem_cons.mpr ⟨rfl, fun _ h => absurd h List.not_mem_nil⟩⟩⟩⟩⟩) ?_
                exact ih1108 0 (z1098 + 1) trivial (rW (c := 0) (d := 1) (rR (x := 0)) rfl) (rW (c := 0) (d := 20) (rAdd (e := 1) (f := 20) h1362 (rR (x := 1)) rfl) rfl) (vc_X12_same_W_37 (nS h1106) h1360 h1378 h1383.2.1 h1383.2.2.1 h1383.2.2.2 h1386.2.1 h1386.2.2.1 h1386.2.2.2 h1387 hp1 hp2 h1362 h1380 h1383.1 h1386.1) ((((((((W1107 z1099 z1098 rfl h1101 h1102).2 h1360).2 h1363) z1366 q1367 h1368).2 h1378) z1381 q1382 h1383) z1384 q1385 h1386).1 h1387)
              refine mr_iconst (pc := 153) (z := 1) dX12_same_153 ?_
              refine sv_goto (pc := 154) (tgt := 158) dX12_same_154 (by decide) ?_
              refine mr_istore_n (pc := 158) (lv' := [(3, iv 1), (0, .ref 106), (1, iv p1), (2, iv p2), (4, iv z1098)]) dX12_same_158 rfl (by decide) rfl ?_
              refine mr_iinc (pc := 159) (lv' := [(4, iv (z1098 + 1)), (3, iv 1), (0, .ref 106), (1, iv p1), (2, iv p2)]) dX12_same_159 rfl (by decide) rfl ?_
              refine sv_goto (pc := 162) (tgt := 93) dX12_same_162 (by decide) ?_
              refine mr_lvS (lv' := [(0, .ref 106), (1, iv p1), (2, iv p2), (3, iv 1), (4, iv (z1098 + 1))]) (List.forall_mem_cons.mpr ⟨rfl, List.forall_mem_cons.mpr ⟨rfl, List.forall_mem_cons.mpr ⟨rfl, List.forall_mem_cons.mpr ⟨rfl, List.forall_mem_cons.mpr ⟨rfl, fun _ h => absurd h List.not_mem_nil⟩⟩⟩⟩⟩) ?_
              exact ih1108 1 (z1098 + 1) trivial (rW (c := 0) (d := 1) (rR (x := 1)) rfl) (rW (c := 0) (d := 20) (rAdd (e := 1) (f := 20) h1362 (rR (x := 1)) rfl) rfl) (vc_X12_same_W_38 (nS h1106) h1360 h1378 h1383.2.1 h1383.2.2.1 h1383.2.2.2 h1386.2.1 h1386.2.2.1 h1386.2.2.2 h1387 hp1 hp2 h1362 h1380 h1383.1 h1386.1) ((((((((W1107 z1099 z1098 rfl h1101 h1102).2 h1360).2 h1363) z1366 q1367 h1368).2 h1378) z1381 q1382 h1383) z1384 q1385 h1386).2 h1387)
          refine mr_lvS (lv' := [(0, .ref 106), (1, iv p1), (2, iv p2), (3, iv z344), (4, iv 0)]) (List.forall_mem_cons.mpr ⟨rfl, List.forall_mem_cons.mpr ⟨rfl, List.forall_mem_cons.mpr ⟨rfl, List.forall_mem_cons.mpr ⟨rfl, List.forall_mem_cons.mpr ⟨rfl, fun _ h => absurd h List.not_mem_nil⟩⟩⟩⟩⟩) ?_
          exact L1100 22 z344 0 trivial h346 (rW (c := 0) (d := 20) (rR (x := 0)) rfl) vc_X12_tieOf_12 ((W352 z344 z343 rfl h346 h347).1 h364)
        have h1388 : 0 ≤ z343 ∧ z343 ≤ 5 := (vc_X12_same_W_40 h364 h347)
        refine mr_iload_n (pc := 47) (z := z344) dX12_same_47 rfl rfl ?_
        refine mr_if_eq (pc := 48) (tgt := 82) dX12_same_48 (by decide) (r32 h346 rfl) (fun h1397 => ?_) (fun h1397 => ?_)
        · have h1398 : 0 ≤ z344 ∧ z344 ≤ 0 := (vc_X12_ring_22 h1397 h346)
          refine mr_iconst (pc := 82) (z := 0) dX12_same_82 ?_
          refine mr_istore_n (pc := 83) (lv' := [(3, iv 0), (0, .ref 106), (1, iv p1), (2, iv p2), (4, iv z343)]) dX12_same_83 rfl (by decide) rfl ?_
          refine mr_iinc (pc := 84) (lv' := [(4, iv (z343 + 1)), (3, iv 0), (0, .ref 106), (1, iv p1), (2, iv p2)]) dX12_same_84 rfl (by decide) rfl ?_
          refine sv_goto (pc := 87) (tgt := 40) dX12_same_87 (by decide) ?_
          refine mr_lvS (lv' := [(0, .ref 106), (1, iv p1), (2, iv p2), (3, iv 0), (4, iv (z343 + 1))]) (List.forall_mem_cons.mpr ⟨rfl, List.forall_mem_cons.mpr ⟨rfl, List.forall_mem_cons.mpr ⟨rfl, List.forall_mem_cons.mpr ⟨rfl, List.forall_mem_cons.mpr ⟨rfl, fun _ h => absurd h List.not_mem_nil⟩⟩⟩⟩⟩) ?_
          exact ih353 0 (z343 + 1) trivial (rW (c := 0) (d := 1) (rR (x := 0)) rfl) (rW (c := 0) (d := 6) (rAdd (e := 1) (f := 6) h1388 (rR (x := 1)) rfl) rfl) (vc_X12_same_W_42 (nS h351) h364 h1388) (((W352 z344 z343 rfl h346 h347).2 h364).1 h1397)
        have h1399 : 1 ≤ z344 ∧ z344 ≤ 1 := (vc_X12_ring_24 h1397 h346)
        refine sv_aload_n (pc := 51) dX12_same_51 rfl rfl ?_
        refine gf_X12_32 (pc := 52) dX12_same_52 wF_X12_148 (A_106 hw) hT ?_
        refine mr_bipush (pc := 55) (z := 40) dX12_same_55 (by decide) ?_
        refine mr_iload_n (pc := 57) (z := p1) dX12_same_57 rfl rfl ?_
        refine mr_imul (pc := 58) (x := 40) (y := p1) dX12_same_58 ?_
        refine mr_iload (pc := 59) (z := z343) dX12_same_59 rfl ?_
        refine mr_iadd (pc := 61) (x := (40 * p1)) (y := z343) dX12_same_61 ?_
        refine la_126 (pc := 62) dX12_same_62 (A_126 hw) hT (rIx (n := 84000) (rAdd (e := 0) (f := 83965) (rMulL (n := 40) (e := 0) (f := 83960) hp1 rfl) h1388 rfl) rfl) fun z1400 q1401 h1402 => ?_
        refine sv_aload_n (pc := 63) dX12_same_63 rfl rfl ?_
        refine gf_X12_32 (pc := 64) dX12_same_64 wF_X12_148 (A_106 hw) hT ?_
        refine mr_bipush (pc := 67) (z := 40) dX12_same_67 (by decide) ?_
        refine mr_iload_n (pc := 69) (z := p2) dX12_same_69 rfl rfl ?_
        refine mr_imul (pc := 70) (x := 40) (y := p2) dX12_same_70 ?_
        refine mr_iload (pc := 71) (z := z343) dX12_same_71 rfl ?_
        refine mr_iadd (pc := 73) (x := (40 * p2)) (y := z343) dX12_same_73 ?_
        refine la_126 (pc := 74) dX12_same_74 (A_126 hw) hT (rIx (n := 84000) (rAdd (e := 0) (f := 83965) (rMulL (n := 40) (e := 0) (f := 83960) hp2 rfl) h1388 rfl) rfl) fun z1403 q1404 h1405 => ?_
        refine mr_icmp_ne (pc := 75) (tgt := 82) dX12_same_75 (by decide) h1402.1 h1405.1 (fun h1406 => ?_) (fun h1406 => ?_)
        · refine mr_iconst (pc := 82) (z := 0) dX12_same_82 ?_
          refine mr_istore_n (pc := 83) (lv' := [(3, iv 0), (0, .ref 106), (1, iv p1), (2, iv p2), (4, iv z343)]) dX12_same_83 rfl (by decide) rfl ?_
          refine mr_iinc (pc := 84) (lv' := [(4, iv (z343 + 1)), (3, iv 0), (0, .ref 106), (1, iv p1), (2, iv p2)]) dX12_same_84 rfl (by decide) rfl ?_
          refine sv_goto (pc := 87) (tgt := 40) dX12_same_87 (by decide) ?_
          refine mr_lvS (lv' := [(0, .ref 106), (1, iv p1), (2, iv p2), (3, iv 0), (4, iv (z343 + 1))]) (List.forall_mem_cons.mpr ⟨rfl, List.forall_mem_cons.mpr ⟨rfl, List.forall_mem_cons.mpr ⟨rfl, List.forall_mem_cons.mpr ⟨rfl, List.forall_mem_cons.mpr ⟨rfl, fun _ h => absurd h List.not_mem_nil⟩⟩⟩⟩⟩) ?_
          exact ih353 0 (z343 + 1) trivial (rW (c := 0) (d := 1) (rR (x := 0)) rfl) (rW (c := 0) (d := 6) (rAdd (e := 1) (f := 6) h1388 (rR (x := 1)) rfl) rfl) (vc_X12_same_W_44 (nS h351) h364 h1402.2.1 h1402.2.2.1 h1402.2.2.2 h1405.2.1 h1405.2.2.1 h1405.2.2.2 h1406 hp1 hp2 h1402.1 h1405.1 h1388) ((((((W352 z344 z343 rfl h346 h347).2 h364).2 h1397) z1400 q1401 h1402) z1403 q1404 h1405).1 h1406)
        refine mr_iconst (pc := 78) (z := 1) dX12_same_78 ?_
        refine sv_goto (pc := 79) (tgt := 83) dX12_same_79 (by decide) ?_
        refine mr_istore_n (pc := 83) (lv' := [(3, iv 1), (0, .ref 106), (1, iv p1), (2, iv p2), (4, iv z343)]) dX12_same_83 rfl (by decide) rfl ?_
        refine mr_iinc (pc := 84) (lv' := [(4, iv (z343 + 1)), (3, iv 1), (0, .ref 106), (1, iv p1), (2, iv p2)]) dX12_same_84 rfl (by decide) rfl ?_
        refine sv_goto (pc := 87) (tgt := 40) dX12_same_87 (by decide) ?_
        refine mr_lvS (lv' := [(0, .ref 106), (1, iv p1), (2, iv p2), (3, iv 1), (4, iv (z343 + 1))]) (List.forall_mem_cons.mpr ⟨rfl, List.forall_mem_cons.mpr ⟨rfl, List.forall_mem_cons.mpr ⟨rfl, List.forall_mem_cons.mpr ⟨rfl, List.forall_mem_cons.mpr ⟨rfl, fun _ h => absurd h List.not_mem_nil⟩⟩⟩⟩⟩) ?_
        exact ih353 1 (z343 + 1) trivial (rW (c := 0) (d := 1) (rR (x := 1)) rfl) (rW (c := 0) (d := 6) (rAdd (e := 1) (f := 6) h1388 (rR (x := 1)) rfl) rfl) (vc_X12_same_W_45 (nS h351) h364 h1402.2.1 h1402.2.2.1 h1402.2.2.2 h1405.2.1 h1405.2.2.1 h1405.2.2.2 h1406 hp1 hp2 h1402.1 h1405.1 h1388) ((((((W352 z344 z343 rfl h346 h347).2 h364).2 h1397) z1400 q1401 h1402) z1403 q1404 h1405).2 h1406)
    refine mr_lvS (lv' := [(0, .ref 106), (1, iv p1), (2, iv p2), (3, iv 1), (4, iv 0)]) (List.forall_mem_cons.mpr ⟨rfl, List.forall_mem_cons.mpr ⟨rfl, List.forall_mem_cons.mpr ⟨rfl, List.forall_mem_cons.mpr ⟨rfl, List.forall_mem_cons.mpr ⟨rfl, fun _ h => absurd h List.not_mem_nil⟩⟩⟩⟩⟩) ?_
    exact L345 8 1 0 trivial (rW (c := 0) (d := 1) (rR (x := 1)) rfl) (rW (c := 0) (d := 6) (rR (x := 0)) rfl) vc_X12_wish_56 ((h39.2.2.2.1 h39.1).1 h41)
  have h1407 : 0 ≤ z40 ∧ z40 ≤ 0 := (vc_X12_candidate_32 h41 h39.2.1 h39.2.2.1 h35 h39.1)
  have h1408 : z32 < 0 := (h39.2.2.1 (vc_X12_candidate_33 h39.2.1 h39.2.2.1 h41 h35 h1407))
  have h1409 : (-1) ≤ z32 ∧ z32 ≤ (-1) := (vc_X12_candidate_34 h1408 h39.2.1 h39.2.2.1 h35 h1407)
  refine sv_aload_n (pc := 16) dX12_same_16 rfl rfl ?_
  refine mr_iload_n (pc := 17) (z := p1) dX12_same_17 rfl rfl ?_
  refine mr_cVP (pc := 18) (c_X12_isThere_W hw hT hp1 q2 ((h39.2.2.2.1 h39.1).2 h41)) (gOk _ _ _ _ _) dX12_same_18 (tX12_isThere _ _ _ _ _) ⟨wV_X12_isThere, wL_X12_isThere⟩ wM_X12_151 (gCX12 _ _ _ _ _) rfl (A_106 hw) rfl ⟨le_t rfl, le_t rfl⟩ ⟨le_t rfl, le_t rfl⟩ rfl (le_t rfl) fun z1414 h1413 => ?_
  refine sv_aload_n (pc := 21) dX12_same_21 rfl rfl ?_
  refine mr_iload_n (pc := 22) (z := p2) dX12_same_22 rfl rfl ?_
  refine mr_cVP (pc := 23) (c_X12_isThere_W hw hT hp2 q33 (h1413.2.2.2.1 h1413.1)) (gOk _ _ _ _ _) dX12_same_23 (tX12_isThere _ _ _ _ _) ⟨wV_X12_isThere, wL_X12_isThere⟩ wM_X12_151 (gCX12 _ _ _ _ _) rfl (A_106 hw) rfl ⟨le_t rfl, le_t rfl⟩ ⟨le_t rfl, le_t rfl⟩ rfl (le_t rfl) fun z1419 h1418 => ?_
  refine mr_icmp_ne (pc := 26) (tgt := 33) dX12_same_26 (by decide) (r32 h1413.1 rfl) (r32 h1418.1 rfl) (fun h1420 => ?_) (fun h1420 => ?_)
  · refine mr_iconst (pc := 33) (z := 0) dX12_same_33 ?_
    exact mr_zretP dX12_same_34 rfl (rW (c := 0) (d := 1) (rR (x := 0)) rfl) (le_t rfl) (le_t rfl) ⟨(rW (c := 0) (d := 1) (rR (x := 0)) rfl), ((h1418.2.2.2.1 h1418.1).1 h1420), trivial⟩
  refine mr_iconst (pc := 29) (z := 1) dX12_same_29 ?_
  refine sv_goto (pc := 30) (tgt := 34) dX12_same_30 (by decide) ?_
  exact mr_zretP dX12_same_34 rfl (rW (c := 0) (d := 1) (rR (x := 1)) rfl) (le_t rfl) (le_t rfl) ⟨(rW (c := 0) (d := 1) (rR (x := 1)) rfl), ((h1418.2.2.2.1 h1418.1).2 h1420), trivial⟩
def WL_X12_marked_W_1 (μ : mM) (p1 : Int) (p2 : Int) (Q : Int → mM → Prop) (rec1 : (Int × Int) → Prop) (s : (Int × Int)) : Prop := ∀ z104 : Int, ∀ z103 : Int, s = (z104, z103) → (0 ≤ z104 ∧ z104 ≤ 1) → (0 ≤ z103 ∧ z103 ≤ 8) → ∀ z114 : Int, μ 126 (((40 * p1) + 5).toNat) = z114 → ((-2147483648 ≤ z114 ∧ z114 ≤ 2147483647) ∧ (((40 * p1) + 5) % 40 = 0 → -1 ≤ z114 ∧ z114 ≤ 9) ∧ (((40 * p1) + 5) % 40 = 4 → 0 ≤ z114 ∧ z114 ≤ 20) ∧ (((40 * p1) + 5) % 40 = 5 → 0 ≤ z114 ∧ z114 ≤ 8)) → ((z114 ≤ z103) → Q z104 μ) ∧ ((z103 < z114) → ((¬ z104 = 0) → rec1 ((1 : Int), (z103 + 1))) ∧ ((z104 = 0) → ∀ z136 : Int, μ 126 ((((40 * p1) + 26) + z103).toNat) = z136 → ((-2147483648 ≤ z136 ∧ z136 ≤ 2147483647) ∧ ((((40 * p1) + 26) + z103) % 40 = 0 → -1 ≤ z136 ∧ z136 ≤ 9) ∧ ((((40 * p1) + 26) + z103) % 40 = 4 → 0 ≤ z136 ∧ z136 ≤ 20) ∧ ((((40 * p1) + 26) + z103) % 40 = 5 → 0 ≤ z136 ∧ z136 ≤ 8)) → ((¬ z136 = p2) → rec1 ((0 : Int), (z103 + 1))) ∧ ((z136 = p2) → rec1 ((1 : Int), (z103 + 1)))))
def WP_X12_marked_W (w : mW) (μ : mM) (p1 : Int) (p2 : Int) (Q : Int → mM → Prop) : Prop := loopF (WL_X12_marked_W_1 μ p1 p2 Q) False 10 ((0 : Int), (0 : Int))
set_option maxRecDepth 4000 in
set_option maxHeartbeats 4000000 in
theorem c_X12_marked_W {l : Launch} {D : va_G} {c : Nat → ClassId} {H0 : Heap} {sa : Nat × Nat × (Nat → Int32)} {w : mW} {μ : mM} (hw : mWF w) (hT : mT w μ) {p1 : Int} (hp1 : 0 ≤ p1 ∧ p1 ≤ 2099) {p2 : Int} (hp2 : (-2147483648) ≤ p2 ∧ p2 ≤ 2147483647) {Q : Int → mM → Prop} (hQ : WP_X12_marked_W w μ p1 p2 Q) : sC (gG l D c H0 sa) mX12_marked 1 0 0 [.ref 106, iv p1, iv p2] (mk w μ) (qP w μ (fun z => (0 ≤ z ∧ z ≤ 1) ∧ Q z μ ∧ True)) := by
  refine sC.of rfl (by decide) (le_t rfl) ?_
  refine mr_lvE (lv' := [(0, .ref 106), (1, iv p1), (2, iv p2)]) rfl ?_
  refine mr_iconst (pc := 0) (z := 0) dX12_marked_0 ?_
  refine mr_istore_n (pc := 1) (lv' := [(3, iv 0), (0, .ref 106), (1, iv p1), (2, iv p2)]) dX12_marked_1 rfl (by decide) rfl ?_
  refine mr_iconst (pc := 2) (z := 0) dX12_marked_2 ?_
  refine mr_istore (pc := 3) (lv' := [(4, iv 0), (3, iv 0), (0, .ref 106), (1, iv p1), (2, iv p2)]) dX12_marked_3 (by decide) rfl ?_
  have L105 : ∀ (nL105 : Nat) (z104 z103 : Int), True → (0 ≤ z104 ∧ z104 ≤ 1) → (0 ≤ z103 ∧ z103 ≤ 8) → (9 - z103) < (nL105 : Int) → loopF (WL_X12_marked_W_1 μ p1 p2 Q) False nL105 (z104, z103) → sV (gG l D c H0 sa) mX12_marked (sRm 1 0 0) (sZ (gG l D c H0 sa) 0 0 (qP w μ (fun z => (0 ≤ z ∧ z ≤ 1) ∧ Q z μ ∧ True))) 5 [(0, .ref 106), (1, iv p1), (2, iv p2), (3, iv z104), (4, iv z103)] [] (mk w μ) 0 0 := by
    intro nL105
    induction nL105 with
    | zero => intro z104 z103 _ h106 h107 h111 W112; exact ((vc_X12_marked_1 h111 h107)).elim
    | succ nL105 ih113 =>
      intro z104 z103 _ h106 h107 h111 W112
      refine mr_iload (pc := 5) (z := z103) dX12_marked_5 rfl ?_
      refine sv_aload_n (pc := 7) dX12_marked_7 rfl rfl ?_
      refine gf_X12_32 (pc := 8) dX12_marked_8 wF_X12_148 (A_106 hw) hT ?_
      refine mr_bipush (pc := 11) (z := 40) dX12_marked_11 (by decide) ?_
      refine mr_iload_n (pc := 13) (z := p1) dX12_marked_13 rfl rfl ?_
      refine mr_imul (pc := 14) (x := 40) (y := p1) dX12_marked_14 ?_
      refine mr_iconst (pc := 15) (z := 5) dX12_marked_15 ?_
      refine mr_iadd (pc := 16) (x := (40 * p1)) (y := 5) dX12_marked_16 ?_
      refine la_126 (pc := 17) dX12_marked_17 (A_126 hw) hT (rIx (n := 84000) (rAdd (e := 5) (f := 83965) (rMulL (n := 40) (e := 0) (f := 83960) hp1 rfl) (rR (x := 5)) rfl) rfl) fun z114 q115 h116 => ?_
      have h117 : 0 ≤ z114 ∧ z114 ≤ 8 := h116.2.2.2 (vc_X12_marked_2 hp1)
      refine mr_icmp_ge (pc := 18) (tgt := 56) dX12_marked_18 (by decide) (r32 h107 rfl) (r32 h117 rfl) (fun h125 => ?_) (fun h125 => ?_)
      · refine mr_iload_n (pc := 56) (z := z104) dX12_marked_56 rfl rfl ?_
        exact mr_zretP dX12_marked_57 rfl h106 (le_t rfl) (le_t rfl) ⟨h106, (((W112 z104 z103 rfl h106 h107) z114 q115 h116).1 h125), trivial⟩
      have h126 : 0 ≤ z103 ∧ z103 ≤ 7 := (vc_X12_marked_3 h125 h107 h117)
      have h127 : 1 ≤ z114 ∧ z114 ≤ 8 := (vc_X12_marked_4 h125 h126 h117)
      refine mr_iload_n (pc := 21) (z := z104) dX12_marked_21 rfl rfl ?_
      refine mr_if_ne (pc := 22) (tgt := 44) dX12_marked_22 (by decide) (r32 h106 rfl) (fun h133 => ?_) (fun h133 => ?_)
      · have h134 : 1 ≤ z104 ∧ z104 ≤ 1 := (vc_X12_ring_24 h133 h106)
        refine mr_iconst (pc := 44) (z := 1) dX12_marked_44 ?_
        refine sv_goto (pc := 45) (tgt := 49) dX12_marked_45 (by decide) ?_
        refine mr_istore_n (pc := 49) (lv' := [(3, iv 1), (0, .ref 106), (1, iv p1), (2, iv p2), (4, iv z103)]) dX12_marked_49 rfl (by decide) rfl ?_
        refine mr_iinc (pc := 50) (lv' := [(4, iv (z103 + 1)), (3, iv 1), (0, .ref 106), (1, iv p1), (2, iv p2)]) dX12_marked_50 rfl (by decide) rfl ?_
        refine sv_goto (pc := 53) (tgt := 5) dX12_marked_53 (by decide) ?_
        refine mr_lvS (lv' := [(0, .ref 106), (1, iv p1), (2, iv p2), (3, iv 1), (4, iv (z103 + 1))]) (List.forall_mem_cons.mpr ⟨rfl, List.forall_mem_cons.mpr ⟨rfl, List.forall_mem_cons.mpr ⟨rfl, List.forall_mem_cons.mpr ⟨rfl, List.forall_mem_cons.mpr ⟨rfl, fun _ h => absurd h List.not_mem_nil⟩⟩⟩⟩⟩) ?_
        exact ih113 1 (z103 + 1) trivial (rW (c := 0) (d := 1) (rR (x := 1)) rfl) (rW (c := 0) (d := 8) (rAdd (e := 1) (f := 8) h126 (rR (x := 1)) rfl) rfl) (vc_X12_marked_6 (nS h111) h125 h126 h127) ((((W112 z104 z103 rfl h106 h107) z114 q115 h116).2 h125).1 h133)
      have h135 : 0 ≤ z104 ∧ z104 ≤ 0 := (vc_X12_ring_22 h133 h106)
      refine sv_aload_n (pc := 25) dX12_marked_25 rfl rfl ?_
      refine gf_X12_32 (pc := 26) dX12_marked_26 wF_X12_148 (A_106 hw) hT ?_
      refine mr_bipush (pc := 29) (z := 40) dX12_marked_29 (by decide) ?_
      refine mr_iload_n (pc := 31) (z := p1) dX12_marked_31 rfl rfl ?_
      refine mr_imul (pc := 32) (x := 40) (y := p1) dX12_marked_32 ?_
      refine mr_bipush (pc := 33) (z := 26) dX12_marked_33 (by decide) ?_
      refine mr_iadd (pc := 35) (x := (40 * p1)) (y := 26) dX12_marked_35 ?_
      refine mr_iload (pc := 36) (z := z103) dX12_marked_36 rfl ?_
      refine mr_iadd (pc := 38) (x := ((40 * p1) + 26)) (y := z103) dX12_marked_38 ?_
      refine la_126 (pc := 39) dX12_marked_39 (A_126 hw) hT (rIx (n := 84000) (rAdd (e := 26) (f := 83993) (rAdd (e := 26) (f := 83986) (rMulL (n := 40) (e := 0) (f := 83960) hp1 rfl) (rR (x := 26)) rfl) h126 rfl) rfl) fun z136 q137 h138 => ?_
      refine mr_iload_n (pc := 40) (z := p2) dX12_marked_40 rfl rfl ?_
      refine mr_icmp_ne (pc := 41) (tgt := 48) dX12_marked_41 (by decide) h138.1 hp2 (fun h139 => ?_) (fun h139 => ?_)
      · refine mr_iconst (pc := 48) (z := 0) dX12_marked_48 ?_
        refine mr_istore_n (pc := 49) (lv' := [(3, iv 0), (0, .ref 106), (1, iv p1), (2, iv p2), (4, iv z103)]) dX12_marked_49 rfl (by decide) rfl ?_
        refine mr_iinc (pc := 50) (lv' := [(4, iv (z103 + 1)), (3, iv 0), (0, .ref 106), (1, iv p1), (2, iv p2)]) dX12_marked_50 rfl (by decide) rfl ?_
        refine sv_goto (pc := 53) (tgt := 5) dX12_marked_53 (by decide) ?_
        refine mr_lvS (lv' := [(0, .ref 106), (1, iv p1), (2, iv p2), (3, iv 0), (4, iv (z103 + 1))]) (List.forall_mem_cons.mpr ⟨rfl, List.forall_mem_cons.mpr ⟨rfl, List.forall_mem_cons.mpr ⟨rfl, List.forall_mem_cons.mpr ⟨rfl, List.forall_mem_cons.mpr ⟨rfl, fun _ h => absurd h List.not_mem_nil⟩⟩⟩⟩⟩) ?_
        exact ih113 0 (z103 + 1) trivial (rW (c := 0) (d := 1) (rR (x := 0)) rfl) (rW (c := 0) (d := 8) (rAdd (e := 1) (f := 8) h126 (rR (x := 1)) rfl) rfl) (vc_X12_marked_8 (nS h111) h125 h138.2.1 h138.2.2.1 h138.2.2.2 h139 hp1 hp2 h126 h127 h138.1) ((((((W112 z104 z103 rfl h106 h107) z114 q115 h116).2 h125).2 h133) z136 q137 h138).1 h139)
      refine mr_iconst (pc := 44) (z := 1) dX12_marked_44 ?_
      refine sv_goto (pc := 45) (tgt := 49) dX12_marked_45 (by decide) ?_
      refine mr_istore_n (pc := 49) (lv' := [(3, iv 1), (0, .ref 106), (1, iv p1), (2, iv p2), (4, iv z103)]) dX12_marked_49 rfl (by decide) rfl ?_
      refine mr_iinc (pc := 50) (lv' := [(4, iv (z103 + 1)), (3, iv 1), (0, .ref 106), (1, iv p1), (2, iv p2)]) dX12_marked_50 rfl (by decide) rfl ?_
      refine sv_goto (pc := 53) (tgt := 5) dX12_marked_53 (by decide) ?_
      refine mr_lvS (lv' := [(0, .ref 106), (1, iv p1), (2, iv p2), (3, iv 1), (4, iv (z103 + 1))]) (List.forall_mem_cons.mpr ⟨rfl, List.forall_mem_cons.mpr ⟨rfl, List.forall_mem_cons.mpr ⟨rfl, List.forall_mem_cons.mpr ⟨rfl, List.forall_mem_cons.mpr ⟨rfl, fun _ h => absurd h List.not_mem_nil⟩⟩⟩⟩⟩) ?_
      exact ih113 1 (z103 + 1) trivial (rW (c := 0) (d := 1) (rR (x := 1)) rfl) (rW (c := 0) (d := 8) (rAdd (e := 1) (f := 8) h126 (rR (x := 1)) rfl) rfl) (vc_X12_marked_9 (nS h111) h125 h138.2.1 h138.2.2.1 h138.2.2.2 h139 hp1 hp2 h126 h127 h138.1) ((((((W112 z104 z103 rfl h106 h107) z114 q115 h116).2 h125).2 h133) z136 q137 h138).2 h139)
  refine mr_lvS (lv' := [(0, .ref 106), (1, iv p1), (2, iv p2), (3, iv 0), (4, iv 0)]) (List.forall_mem_cons.mpr ⟨rfl, List.forall_mem_cons.mpr ⟨rfl, List.forall_mem_cons.mpr ⟨rfl, List.forall_mem_cons.mpr ⟨rfl, List.forall_mem_cons.mpr ⟨rfl, fun _ h => absurd h List.not_mem_nil⟩⟩⟩⟩⟩) ?_
  exact L105 10 0 0 trivial (rW (c := 0) (d := 1) (rR (x := 0)) rfl) (rW (c := 0) (d := 8) (rR (x := 0)) rfl) vc_X12_marked_10 hQ
def WJ_X12_addMark_W_2 (w : mW) (p1 : Int) (p2 : Int) (Q : mM → Prop) (z61 : Int) (μ62 : mM) (f_n : Int) : Prop := ∀ μ89 : mM, mU μ62 126 (z61.toNat) p2 μ89 → mT w μ89 → ∀ μ92 : mM, mU μ89 126 (((40 * p1) + 5).toNat) (f_n + 1) μ92 → mT w μ92 → Q μ92
def WL_X12_addMark_W_1 (w : mW) (μ : mM) (p1 : Int) (p2 : Int) (Q : mM → Prop) (rec1 : (Int × mM) → Prop) (s : (Int × mM)) : Prop := ∀ z61 : Int, ∀ μ62 : mM, s = (z61, μ62) → (26 ≤ z61 ∧ z61 ≤ 83993) → mT w μ62 → mF [126999] w μ μ62 → ∀ f_n : Int, μ62 126 (((40 * p1) + 5).toNat) = f_n → ((-2147483648 ≤ f_n ∧ f_n ≤ 2147483647) ∧ (((40 * p1) + 5) % 40 = 0 → -1 ≤ f_n ∧ f_n ≤ 9) ∧ (((40 * p1) + 5) % 40 = 4 → 0 ≤ f_n ∧ f_n ≤ 20) ∧ (((40 * p1) + 5) % 40 = 5 → 0 ≤ f_n ∧ f_n ≤ 8)) → ((z61 ≤ ((40 * p1) + 26)) → (WJ_X12_addMark_W_2 w p1 p2 Q z61 μ62 f_n) ) ∧ ((((40 * p1) + 26) < z61) → ∀ z98 : Int, μ62 126 ((z61 - 1).toNat) = z98 → ((-2147483648 ≤ z98 ∧ z98 ≤ 2147483647) ∧ ((z61 - 1) % 40 = 0 → -1 ≤ z98 ∧ z98 ≤ 9) ∧ ((z61 - 1) % 40 = 4 → 0 ≤ z98 ∧ z98 ≤ 20) ∧ ((z61 - 1) % 40 = 5 → 0 ≤ z98 ∧ z98 ≤ 8)) → ((z98 ≤ p2) → (WJ_X12_addMark_W_2 w p1 p2 Q z61 μ62 f_n) ) ∧ ((p2 < z98) → ∀ μ104 : mM, mU μ62 126 (z61.toNat) z98 μ104 → mT w μ104 → rec1 ((z61 + (-1)), μ104)))
def WP_X12_addMark_W (w : mW) (μ : mM) (p1 : Int) (p2 : Int) (Q : mM → Prop) : Prop := ∀ z1 : Int, μ 126 (((40 * p1) + 5).toNat) = z1 → ((-2147483648 ≤ z1 ∧ z1 ≤ 2147483647) ∧ (((40 * p1) + 5) % 40 = 0 → -1 ≤ z1 ∧ z1 ≤ 9) ∧ (((40 * p1) + 5) % 40 = 4 → 0 ≤ z1 ∧ z1 ≤ 20) ∧ (((40 * p1) + 5) % 40 = 5 → 0 ≤ z1 ∧ z1 ≤ 8)) → ((z1 = 8) → Q μ) ∧ ((¬ z1 = 8) → WP_X12_marked_W w μ p1 p2 (fun z12 _ => (0 ≤ z12 ∧ z12 ≤ 1) → ((z12 = 0) → loopF (WL_X12_addMark_W_1 w μ p1 p2 Q) False 83969 ((((40 * p1) + 26) + z1), μ)) ∧ ((¬ z12 = 0) → Q μ)))
set_option maxRecDepth 4000 in
set_option maxHeartbeats 4000000 in
theorem c_X12_addMark_W {l : Launch} {D : va_G} {c : Nat → ClassId} {H0 : Heap} {sa : Nat × Nat × (Nat → Int32)} {w : mW} {μ : mM} (hw : mWF w) (hT : mT w μ) {p1 : Int} (hp1 : 0 ≤ p1 ∧ p1 ≤ 2099) {p2 : Int} (hp2 : (-2147483648) ≤ p2 ∧ p2 ≤ 2147483647) {Q : mM → Prop} (hQ : WP_X12_addMark_W w μ p1 p2 Q) : sC (gG l D c H0 sa) mX12_addMark 2 0 0 [.ref 106, iv p1, iv p2] (mk w μ) (qV w [126999] μ (fun μ1 => mG [(((40 * p1) + 1), ((40 * p1) + 40))] μ μ1 ∧ Q μ1 ∧ True)) := by
  refine sC.of rfl (by decide) (le_t rfl) ?_
  refine mr_lvE (lv' := [(0, .ref 106), (1, iv p1), (2, iv p2)]) rfl ?_
  refine sv_aload_n (pc := 0) dX12_addMark_0 rfl rfl ?_
  refine gf_X12_32 (pc := 1) dX12_addMark_1 wF_X12_148 (A_106 hw) hT ?_
  refine mr_bipush (pc := 4) (z := 40) dX12_addMark_4 (by decide) ?_
  refine mr_iload_n (pc := 6) (z := p1) dX12_addMark_6 rfl rfl ?_
  refine mr_imul (pc := 7) (x := 40) (y := p1) dX12_addMark_7 ?_
  refine mr_iconst (pc := 8) (z := 5) dX12_addMark_8 ?_
  refine mr_iadd (pc := 9) (x := (40 * p1)) (y := 5) dX12_addMark_9 ?_
  refine la_126 (pc := 10) dX12_addMark_10 (A_126 hw) hT (rIx (n := 84000) (rAdd (e := 5) (f := 83965) (rMulL (n := 40) (e := 0) (f := 83960) hp1 rfl) (rR (x := 5)) rfl) rfl) fun z1 q2 h3 => ?_
  have h4 : 0 ≤ z1 ∧ z1 ≤ 8 := h3.2.2.2 (vc_X12_marked_2 hp1)
  refine mr_istore_n (pc := 11) (lv' := [(3, iv z1), (0, .ref 106), (1, iv p1), (2, iv p2)]) dX12_addMark_11 rfl (by decide) rfl ?_
  refine mr_iload_n (pc := 12) (z := z1) dX12_addMark_12 rfl rfl ?_
  refine mr_bipush (pc := 13) (z := 8) dX12_addMark_13 (by decide) ?_
  refine mr_icmp_eq (pc := 15) (tgt := 27) dX12_addMark_15 (by decide) (r32 h4 rfl) (r32 (rR (x := 8)) rfl) (fun h5 => ?_) (fun h5 => ?_)
  · have h6 : 8 ≤ z1 ∧ z1 ≤ 8 := (vc_X12_addMark_2 h5 h4)
    exact mr_vret dX12_addMark_27 rfl (le_t rfl) (le_t rfl) hT mF.refl ⟨mG.refl, ((hQ z1 q2 h3).1 h5), trivial⟩
  have h7 : 0 ≤ z1 ∧ z1 ≤ 7 := (vc_X12_addMark_3 h5 h4)
  refine sv_aload_n (pc := 18) dX12_addMark_18 rfl rfl ?_
  refine mr_iload_n (pc := 19) (z := p1) dX12_addMark_19 rfl rfl ?_
  refine mr_iload_n (pc := 20) (z := p2) dX12_addMark_20 rfl rfl ?_
  refine mr_cVP (pc := 21) (c_X12_marked_W hw hT hp1 hp2 ((hQ z1 q2 h3).2 h5)) (gOk _ _ _ _ _) dX12_addMark_21 (tX12_marked _ _ _ _ _) ⟨wV_X12_marked, wL_X12_marked⟩ wM_X12_154 (gCX12 _ _ _ _ _) rfl (A_106 hw) rfl ⟨le_t rfl, le_t rfl⟩ ⟨le_t rfl, le_t rfl⟩ rfl (le_t rfl) fun z12 h11 => ?_
  refine mr_if_eq (pc := 24) (tgt := 28) dX12_addMark_24 (by decide) (r32 h11.1 rfl) (fun h13 => ?_) (fun h13 => ?_)
  · have h14 : 0 ≤ z12 ∧ z12 ≤ 0 := (vc_X12_ring_22 h13 h11.1)
    refine mr_bipush (pc := 28) (z := 40) dX12_addMark_28 (by decide) ?_
    refine mr_iload_n (pc := 30) (z := p1) dX12_addMark_30 rfl rfl ?_
    refine mr_imul (pc := 31) (x := 40) (y := p1) dX12_addMark_31 ?_
    refine mr_bipush (pc := 32) (z := 26) dX12_addMark_32 (by decide) ?_
    refine mr_iadd (pc := 34) (x := (40 * p1)) (y := 26) dX12_addMark_34 ?_
    refine mr_iload_n (pc := 35) (z := z1) dX12_addMark_35 rfl rfl ?_
    refine mr_iadd (pc := 36) (x := ((40 * p1) + 26)) (y := z1) dX12_addMark_36 ?_
    refine mr_istore (pc := 37) (lv' := [(4, iv (((40 * p1) + 26) + z1)), (3, iv z1), (0, .ref 106), (1, iv p1), (2, iv p2)]) dX12_addMark_37 (by decide) rfl ?_
    have L63 : ∀ (nL63 : Nat) (z61 : Int) (μ62 : mM) (f_n : Int), mT w μ62 → mF [126999] w μ μ62 → mG [(((40 * p1) + 1), ((40 * p1) + 40))] μ μ62 → μ62 126 (((40 * p1) + 5).toNat) = f_n → (26 ≤ z61 ∧ z61 ≤ 83993) → (40 * p1 + 26 ≤ z61) → (z61 ≤ 40 * p1 + 33) → (f_n ≤ 7) → (z61 - 25) < (nL63 : Int) → loopF (WL_X12_addMark_W_1 w μ p1 p2 Q) False nL63 (z61, μ62) → sV (gG l D c H0 sa) mX12_addMark (sRm 2 0 0) (sZ (gG l D c H0 sa) 0 0 (qV w [126999] μ (fun μ1 => mG [(((40 * p1) + 1), ((40 * p1) + 40))] μ μ1 ∧ Q μ1 ∧ True))) 39 [(0, .ref 106), (1, iv p1), (2, iv p2), (4, iv z61)] [] (mk w μ62) 0 0 := by
      intro nL63
      induction nL63 with
      | zero => intro z61 μ62 f_n T65 F66 G67 q73 h64 h68 h69 h70 h71 W72; exact ((vc_X12_addMark_5 h71 h68 h69 hp1 h64)).elim
      | succ nL63 ih74 =>
        intro z61 μ62 f_n T65 F66 G67 q73 h64 h68 h69 h70 h71 W72
        have h75 := rt7 T65 (A_126 hw) (vc_X12_addMark_6 h68 h69 hp1 h64) q73
        have h76 : 0 ≤ f_n ∧ f_n ≤ 8 := h75.2.2.2 (vc_X12_addMark_7 h68 h69 hp1 h64)
        refine mr_iload (pc := 39) (z := z61) dX12_addMark_39 rfl ?_
        refine mr_bipush (pc := 41) (z := 40) dX12_addMark_41 (by decide) ?_
        refine mr_iload_n (pc := 43) (z := p1) dX12_addMark_43 rfl rfl ?_
        refine mr_imul (pc := 44) (x := 40) (y := p1) dX12_addMark_44 ?_
        refine mr_bipush (pc := 45) (z := 26) dX12_addMark_45 (by decide) ?_
        refine mr_iadd (pc := 47) (x := (40 * p1)) (y := 26) dX12_addMark_47 ?_
        have J87 : ((WJ_X12_addMark_W_2 w p1 p2 Q z61 μ62 f_n) ) → sV (gG l D c H0 sa) mX12_addMark (sRm 2 0 0) (sZ (gG l D c H0 sa) 0 0 (qV w [126999] μ (fun μ1 => mG [(((40 * p1) + 1), ((40 * p1) + 40))] μ μ1 ∧ Q μ1 ∧ True))) 86 [(0, .ref 106), (1, iv p1), (2, iv p2), (4, iv z61)] [] (mk w μ62) 0 0 := by
          intro W88
          refine sv_aload_n (pc := 86) dX12_addMark_86 rfl rfl ?_
          refine gf_X12_32 (pc := 87) dX12_addMark_87 wF_X12_148 (A_106 hw) T65 ?_
          refine mr_iload (pc := 90) (z := z61) dX12_addMark_90 rfl ?_
          refine mr_iload_n (pc := 92) (z := p2) dX12_addMark_92 rfl rfl ?_
          refine ss_126 (pc := 93) dX12_addMark_93 (A_126 hw) T65 (rIx (n := 84000) h64 rfl) (vc_X12_addMark_8 h68 h69 hp1 hp2 h64) fun μ89 u90 T91 => ?_
          refine sv_aload_n (pc := 94) dX12_addMark_94 rfl rfl ?_
          refine gf_X12_32 (pc := 95) dX12_addMark_95 wF_X12_148 (A_106 hw) T91 ?_
          refine mr_bipush (pc := 98) (z := 40) dX12_addMark_98 (by decide) ?_
          refine mr_iload_n (pc := 100) (z := p1) dX12_addMark_100 rfl rfl ?_
          refine mr_imul (pc := 101) (x := 40) (y := p1) dX12_addMark_101 ?_
          refine mr_iconst (pc := 102) (z := 5) dX12_addMark_102 ?_
          refine mr_iadd (pc := 103) (x := (40 * p1)) (y := 5) dX12_addMark_103 ?_
          refine sv_dup2 (pc := 104) dX12_addMark_104 rfl rfl ?_
          refine lk_126 (pc := 105) dX12_addMark_105 (A_126 hw) (rIx (n := 84000) (rAdd (e := 5) (f := 83965) (rMulL (n := 40) (e := 0) (f := 83960) hp1 rfl) (rR (x := 5)) rfl) rfl) (u90.f (Or.inr (vc_X12_addMark_9 h68 h69 hp1 h64)) q73) ?_
          refine mr_iconst (pc := 106) (z := 1) dX12_addMark_106 ?_
          refine mr_iadd (pc := 107) (x := f_n) (y := 1) dX12_addMark_107 ?_
          refine ss_126 (pc := 108) dX12_addMark_108 (A_126 hw) T91 (rIx (n := 84000) (rAdd (e := 5) (f := 83965) (rMulL (n := 40) (e := 0) (f := 83960) hp1 rfl) (rR (x := 5)) rfl) rfl) (vc_X12_addMark_10 h68 h69 h70 h76 hp1 h64) fun μ92 u93 T94 => ?_
          exact mr_vret dX12_addMark_109 rfl (le_t rfl) (le_t rfl) T94 (mF.up (mF.up (mF.call mF.refl F66 rfl) (A_126 hw) u90 rfl) (A_126 hw) u93 rfl) ⟨(mG.up (mG.up (mG.call mG.refl G67 (List.forall_mem_cons.mpr ⟨⟨_, List.mem_cons_self, (vc_X12_addMark_11 h68 h69 hp1 h64)⟩, (fun _ h => absurd h List.not_mem_nil)⟩)) u90 List.mem_cons_self (vc_X12_addMark_12 h68 h69 hp1 h64)) u93 List.mem_cons_self (vc_X12_addMark_13 h68 h69 hp1 h64)), (((W88) μ89 u90 T91) μ92 u93 T94), trivial⟩
        refine mr_icmp_le (pc := 48) (tgt := 86) dX12_addMark_48 (by decide) (r32 h64 rfl) (r32 (rAdd (e := 26) (f := 83986) (rMulL (n := 40) (e := 0) (f := 83960) hp1 rfl) (rR (x := 26)) rfl) rfl) (fun h95 => ?_) (fun h95 => ?_)
        · have h96 : 26 ≤ z61 ∧ z61 ≤ 83986 := (vc_X12_addMark_14 h95 h68 h69 hp1 h64)
          exact J87 (((W72 z61 μ62 rfl h64 T65 F66) f_n q73 h75).1 h95)
        have h97 : 27 ≤ z61 ∧ z61 ≤ 83993 := (vc_X12_addMark_15 h95 h68 h69 hp1 h64)
        refine sv_aload_n (pc := 51) dX12_addMark_51 rfl rfl ?_
        refine gf_X12_32 (pc := 52) dX12_addMark_52 wF_X12_148 (A_106 hw) T65 ?_
        refine mr_iload (pc := 55) (z := z61) dX12_addMark_55 rfl ?_
        refine mr_iconst (pc := 57) (z := 1) dX12_addMark_57 ?_
        refine mr_isub (pc := 58) (x := z61) (y := 1) dX12_addMark_58 ?_
        refine la_126 (pc := 59) dX12_addMark_59 (A_126 hw) T65 (rIx (n := 84000) (rSub (e := 26) (f := 83992) h97 (rR (x := 1)) rfl) rfl) fun z98 q99 h100 => ?_
        refine mr_iload_n (pc := 60) (z := p2) dX12_addMark_60 rfl rfl ?_
        refine mr_icmp_le (pc := 61) (tgt := 86) dX12_addMark_61 (by decide) h100.1 hp2 (fun h101 => ?_) (fun h101 => ?_)
        · exact J87 (((((W72 z61 μ62 rfl h64 T65 F66) f_n q73 h75).2 h95) z98 q99 h100).1 h101)
        have h102 : (-2147483647) ≤ z98 ∧ z98 ≤ 2147483647 := (vc_X12_addMark_16 h101 h100.2.1 h100.2.2.1 h100.2.2.2 hp2 h97 h100.1)
        have h103 : (-2147483648) ≤ p2 ∧ p2 ≤ 2147483646 := (vc_X12_addMark_17 h101 h100.2.1 h100.2.2.1 h100.2.2.2 hp2 h97 h102)
        refine sv_aload_n (pc := 64) dX12_addMark_64 rfl rfl ?_
        refine gf_X12_32 (pc := 65) dX12_addMark_65 wF_X12_148 (A_106 hw) T65 ?_
        refine mr_iload (pc := 68) (z := z61) dX12_addMark_68 rfl ?_
        refine sv_aload_n (pc := 70) dX12_addMark_70 rfl rfl ?_
        refine gf_X12_32 (pc := 71) dX12_addMark_71 wF_X12_148 (A_106 hw) T65 ?_
        refine mr_iload (pc := 74) (z := z61) dX12_addMark_74 rfl ?_
        refine mr_iconst (pc := 76) (z := 1) dX12_addMark_76 ?_
        refine mr_isub (pc := 77) (x := z61) (y := 1) dX12_addMark_77 ?_
        refine lk_126 (pc := 78) dX12_addMark_78 (A_126 hw) (rIx (n := 84000) (rSub (e := 26) (f := 83992) h97 (rR (x := 1)) rfl) rfl) q99 ?_
        refine ss_126 (pc := 79) dX12_addMark_79 (A_126 hw) T65 (rIx (n := 84000) h97 rfl) (vc_X12_addMark_18 h68 h69 h95 h100.2.1 h100.2.2.1 h100.2.2.2 h101 hp1 h103 h97 h102) fun μ104 u105 T106 => ?_
        refine mr_iinc (pc := 80) (lv' := [(4, iv (z61 + (-1))), (0, .ref 106), (1, iv p1), (2, iv p2)]) dX12_addMark_80 rfl (by decide) rfl ?_
        refine sv_goto (pc := 83) (tgt := 39) dX12_addMark_83 (by decide) ?_
        refine mr_lvS (lv' := [(0, .ref 106), (1, iv p1), (2, iv p2), (4, iv (z61 + (-1)))]) (List.forall_mem_cons.mpr ⟨rfl, List.forall_mem_cons.mpr ⟨rfl, List.forall_mem_cons.mpr ⟨rfl, List.forall_mem_cons.mpr ⟨rfl, fun _ h => absurd h List.not_mem_nil⟩⟩⟩⟩) ?_
        exact ih74 (z61 + (-1)) μ104 f_n T106 (mF.up (mF.call mF.refl F66 rfl) (A_126 hw) u105 rfl) (mG.up (mG.call mG.refl G67 (List.forall_mem_cons.mpr ⟨⟨_, List.mem_cons_self, (vc_X12_addMark_24 h68 h69 h95 h100.2.1 h100.2.2.1 h100.2.2.2 hp1 h97 h102)⟩, (fun _ h => absurd h List.not_mem_nil)⟩)) u105 List.mem_cons_self (vc_X12_addMark_25 h68 h69 h95 h100.2.1 h100.2.2.1 h100.2.2.2 h101 hp1 h103 h97 h102)) (u105.f (Or.inr (vc_X12_addMark_19 h68 h69 h95 h100.2.1 h100.2.2.1 h100.2.2.2 h101 hp1 h103 h97 h102)) q73) (rW (c := 26) (d := 83993) (rAdd (e := 26) (f := 83992) h97 (rR (x := (-1))) rfl) rfl) (vc_X12_addMark_20 h68 h69 h95 h100.2.1 h100.2.2.1 h100.2.2.2 h101 hp1 h103 h97 h102) (vc_X12_addMark_21 h68 h69 h95 h100.2.1 h100.2.2.1 h100.2.2.2 h101 hp1 h103 h97 h102) (vc_X12_addMark_22 h70 h76) (vc_X12_addMark_23 (nS h71) h68 h69 h95 h100.2.1 h100.2.2.1 h100.2.2.2 h101 hp1 h103 h97 h102) ((((((W72 z61 μ62 rfl h64 T65 F66) f_n q73 h75).2 h95) z98 q99 h100).2 h101) μ104 u105 T106)
    refine mr_lvS (lv' := [(0, .ref 106), (1, iv p1), (2, iv p2), (4, iv (((40 * p1) + 26) + z1))]) (List.forall_mem_cons.mpr ⟨rfl, List.forall_mem_cons.mpr ⟨rfl, List.forall_mem_cons.mpr ⟨rfl, List.forall_mem_cons.mpr ⟨rfl, fun _ h => absurd h List.not_mem_nil⟩⟩⟩⟩) ?_
    exact L63 83969 (((40 * p1) + 26) + z1) μ z1 hT mF.refl mG.refl q2 (rAdd (e := 26) (f := 83993) (rAdd (e := 26) (f := 83986) (rMulL (n := 40) (e := 0) (f := 83960) hp1 rfl) (rR (x := 26)) rfl) h7 rfl) (vc_X12_addMark_26 h5 hp1 h7) (vc_X12_addMark_27 h5 hp1 h7) (vc_X12_addMark_28 h5 h7) (vc_X12_addMark_29 h5 hp1 h7) ((h11.2.1 h11.1).1 h13)
  have h107 : 1 ≤ z12 ∧ z12 ≤ 1 := (vc_X12_ring_24 h13 h11.1)
  exact mr_vret dX12_addMark_27 rfl (le_t rfl) (le_t rfl) hT mF.refl ⟨mG.refl, ((h11.2.1 h11.1).2 h13), trivial⟩
def WL_X12_dropMark_W_1 (w : mW) (μ : mM) (p1 : Int) (p2 : Int) (Q : mM → Prop) (rec1 : (Int × Int × mM) → Prop) (s : (Int × Int × mM)) : Prop := ∀ z149 : Int, ∀ z148 : Int, ∀ μ150 : mM, s = (z149, z148, μ150) → (0 ≤ z149 ∧ z149 ≤ 8) → (0 ≤ z148 ∧ z148 ≤ 8) → mT w μ150 → mF [126999] w μ μ150 → ∀ z162 : Int, μ150 126 (((40 * p1) + 5).toNat) = z162 → ((-2147483648 ≤ z162 ∧ z162 ≤ 2147483647) ∧ (((40 * p1) + 5) % 40 = 0 → -1 ≤ z162 ∧ z162 ≤ 9) ∧ (((40 * p1) + 5) % 40 = 4 → 0 ≤ z162 ∧ z162 ≤ 20) ∧ (((40 * p1) + 5) % 40 = 5 → 0 ≤ z162 ∧ z162 ≤ 8)) → ((z162 ≤ z148) → ∀ μ175 : mM, mU μ150 126 (((40 * p1) + 5).toNat) z149 μ175 → mT w μ175 → Q μ175) ∧ ((z148 < z162) → ∀ z180 : Int, μ150 126 ((((40 * p1) + 26) + z148).toNat) = z180 → ((-2147483648 ≤ z180 ∧ z180 ≤ 2147483647) ∧ ((((40 * p1) + 26) + z148) % 40 = 0 → -1 ≤ z180 ∧ z180 ≤ 9) ∧ ((((40 * p1) + 26) + z148) % 40 = 4 → 0 ≤ z180 ∧ z180 ≤ 20) ∧ ((((40 * p1) + 26) + z148) % 40 = 5 → 0 ≤ z180 ∧ z180 ≤ 8)) → ((z180 = p2) → rec1 (z149, (z148 + 1), μ150)) ∧ ((¬ z180 = p2) → ∀ μ187 : mM, mU μ150 126 ((((40 * p1) + 26) + z149).toNat) z180 μ187 → mT w μ187 → rec1 ((z149 + 1), (z148 + 1), μ187)))
def WP_X12_dropMark_W (w : mW) (μ : mM) (p1 : Int) (p2 : Int) (Q : mM → Prop) : Prop := WP_X12_marked_W w μ p1 p2 (fun z5 _ => (0 ≤ z5 ∧ z5 ≤ 1) → ((¬ z5 = 0) → loopF (WL_X12_dropMark_W_1 w μ p1 p2 Q) False 10 ((0 : Int), (0 : Int), μ)) ∧ ((z5 = 0) → Q μ))
set_option maxRecDepth 4000 in
set_option maxHeartbeats 4000000 in
theorem c_X12_dropMark_W {l : Launch} {D : va_G} {c : Nat → ClassId} {H0 : Heap} {sa : Nat × Nat × (Nat → Int32)} {w : mW} {μ : mM} (hw : mWF w) (hT : mT w μ) {p1 : Int} (hp1 : 0 ≤ p1 ∧ p1 ≤ 2099) {p2 : Int} (hp2 : (-2147483648) ≤ p2 ∧ p2 ≤ 2147483647) {Q : mM → Prop} (hQ : WP_X12_dropMark_W w μ p1 p2 Q) : sC (gG l D c H0 sa) mX12_dropMark 2 0 0 [.ref 106, iv p1, iv p2] (mk w μ) (qV w [126999] μ (fun μ1 => mG [(((40 * p1) + 1), ((40 * p1) + 40))] μ μ1 ∧ Q μ1 ∧ True)) := by
  refine sC.of rfl (by decide) (le_t rfl) ?_
  refine mr_lvE (lv' := [(0, .ref 106), (1, iv p1), (2, iv p2)]) rfl ?_
  refine sv_aload_n (pc := 0) dX12_dropMark_0 rfl rfl ?_
  refine mr_iload_n (pc := 1) (z := p1) dX12_dropMark_1 rfl rfl ?_
  refine mr_iload_n (pc := 2) (z := p2) dX12_dropMark_2 rfl rfl ?_
  refine mr_cVP (pc := 3) (c_X12_marked_W hw hT hp1 hp2 hQ) (gOk _ _ _ _ _) dX12_dropMark_3 (tX12_marked _ _ _ _ _) ⟨wV_X12_marked, wL_X12_marked⟩ wM_X12_154 (gCX12 _ _ _ _ _) rfl (A_106 hw) rfl ⟨le_t rfl, le_t rfl⟩ ⟨le_t rfl, le_t rfl⟩ rfl (le_t rfl) fun z5 h4 => ?_
  refine mr_if_ne (pc := 6) (tgt := 10) dX12_dropMark_6 (by decide) (r32 h4.1 rfl) (fun h6 => ?_) (fun h6 => ?_)
  · have h7 : 1 ≤ z5 ∧ z5 ≤ 1 := (vc_X12_ring_24 h6 h4.1)
    refine mr_iconst (pc := 10) (z := 0) dX12_dropMark_10 ?_
    refine mr_istore_n (pc := 11) (lv' := [(3, iv 0), (0, .ref 106), (1, iv p1), (2, iv p2)]) dX12_dropMark_11 rfl (by decide) rfl ?_
    refine mr_iconst (pc := 12) (z := 0) dX12_dropMark_12 ?_
    refine mr_istore (pc := 13) (lv' := [(4, iv 0), (3, iv 0), (0, .ref 106), (1, iv p1), (2, iv p2)]) dX12_dropMark_13 (by decide) rfl ?_
    have L151 : ∀ (nL151 : Nat) (z149 z148 : Int) (μ150 : mM), mT w μ150 → mF [126999] w μ μ150 → mG [(((40 * p1) + 1), ((40 * p1) + 40))] μ μ150 → (0 ≤ z149 ∧ z149 ≤ 8) → (0 ≤ z148 ∧ z148 ≤ 8) → (z149 ≤ z148) → (z148 ≤ 8) → (9 - z148) < (nL151 : Int) → loopF (WL_X12_dropMark_W_1 w μ p1 p2 Q) False nL151 (z149, z148, μ150) → sV (gG l D c H0 sa) mX12_dropMark (sRm 2 0 0) (sZ (gG l D c H0 sa) 0 0 (qV w [126999] μ (fun μ1 => mG [(((40 * p1) + 1), ((40 * p1) + 40))] μ μ1 ∧ Q μ1 ∧ True))) 15 [(0, .ref 106), (1, iv p1), (2, iv p2), (3, iv z149), (4, iv z148)] [] (mk w μ150) 0 0 := by
      intro nL151
      induction nL151 with
      | zero => intro z149 z148 μ150 T154 F155 G156 h152 h153 h157 h158 h159 W160; exact ((vc_X12_dropMark_2 h159 h157 h158 h153 h152)).elim
      | succ nL151 ih161 =>
        intro z149 z148 μ150 T154 F155 G156 h152 h153 h157 h158 h159 W160
        refine mr_iload (pc := 15) (z := z148) dX12_dropMark_15 rfl ?_
        refine sv_aload_n (pc := 17) dX12_dropMark_17 rfl rfl ?_
        refine gf_X12_32 (pc := 18) dX12_dropMark_18 wF_X12_148 (A_106 hw) T154 ?_
        refine mr_bipush (pc := 21) (z := 40) dX12_dropMark_21 (by decide) ?_
        refine mr_iload_n (pc := 23) (z := p1) dX12_dropMark_23 rfl rfl ?_
        refine mr_imul (pc := 24) (x := 40) (y := p1) dX12_dropMark_24 ?_
        refine mr_iconst (pc := 25) (z := 5) dX12_dropMark_25 ?_
        refine mr_iadd (pc := 26) (x := (40 * p1)) (y := 5) dX12_dropMark_26 ?_
        refine la_126 (pc := 27) dX12_dropMark_27 (A_126 hw) T154 (rIx (n := 84000) (rAdd (e := 5) (f := 83965) (rMulL (n := 40) (e := 0) (f := 83960) hp1 rfl) (rR (x := 5)) rfl) rfl) fun z162 q163 h164 => ?_
        have h165 : 0 ≤ z162 ∧ z162 ≤ 8 := h164.2.2.2 (vc_X12_marked_2 hp1)
        refine mr_icmp_ge (pc := 28) (tgt := 79) dX12_dropMark_28 (by decide) (r32 h153 rfl) (r32 h165 rfl) (fun h174 => ?_) (fun h174 => ?_)
        · refine sv_aload_n (pc := 79) dX12_dropMark_79 rfl rfl ?_
          refine gf_X12_32 (pc := 80) dX12_dropMark_80 wF_X12_148 (A_106 hw) T154 ?_
          refine mr_bipush (pc := 83) (z := 40) dX12_dropMark_83 (by decide) ?_
          refine mr_iload_n (pc := 85) (z := p1) dX12_dropMark_85 rfl rfl ?_
          refine mr_imul (pc := 86) (x := 40) (y := p1) dX12_dropMark_86 ?_
          refine mr_iconst (pc := 87) (z := 5) dX12_dropMark_87 ?_
          refine mr_iadd (pc := 88) (x := (40 * p1)) (y := 5) dX12_dropMark_88 ?_
          refine mr_iload_n (pc := 89) (z := z149) dX12_dropMark_89 rfl rfl ?_
          refine ss_126 (pc := 90) dX12_dropMark_90 (A_126 hw) T154 (rIx (n := 84000) (rAdd (e := 5) (f := 83965) (rMulL (n := 40) (e := 0) (f := 83960) hp1 rfl) (rR (x := 5)) rfl) rfl) (vc_X12_dropMark_4 h157 h158 h174 hp1 h153 h152 h165) fun μ175 u176 T177 => ?_
          exact mr_vret dX12_dropMark_91 rfl (le_t rfl) (le_t rfl) T177 (mF.up (mF.call mF.refl F155 rfl) (A_126 hw) u176 rfl) ⟨(mG.up (mG.call mG.refl G156 (List.forall_mem_cons.mpr ⟨⟨_, List.mem_cons_self, (vc_X12_dropMark_5 hp1)⟩, (fun _ h => absurd h List.not_mem_nil)⟩)) u176 List.mem_cons_self (vc_X12_dropMark_6 hp1)), ((((W160 z149 z148 μ150 rfl h152 h153 T154 F155) z162 q163 h164).1 h174) μ175 u176 T177), trivial⟩
        have h178 : 0 ≤ z148 ∧ z148 ≤ 7 := (vc_X12_dropMark_7 h174 h157 h158 h153 h152 h165)
        have h179 : 1 ≤ z162 ∧ z162 ≤ 8 := (vc_X12_dropMark_8 h174 h157 h158 h178 h152 h165)
        refine sv_aload_n (pc := 31) dX12_dropMark_31 rfl rfl ?_
        refine gf_X12_32 (pc := 32) dX12_dropMark_32 wF_X12_148 (A_106 hw) T154 ?_
        refine mr_bipush (pc := 35) (z := 40) dX12_dropMark_35 (by decide) ?_
        refine mr_iload_n (pc := 37) (z := p1) dX12_dropMark_37 rfl rfl ?_
        refine mr_imul (pc := 38) (x := 40) (y := p1) dX12_dropMark_38 ?_
        refine mr_bipush (pc := 39) (z := 26) dX12_dropMark_39 (by decide) ?_
        refine mr_iadd (pc := 41) (x := (40 * p1)) (y := 26) dX12_dropMark_41 ?_
        refine mr_iload (pc := 42) (z := z148) dX12_dropMark_42 rfl ?_
        refine mr_iadd (pc := 44) (x := ((40 * p1) + 26)) (y := z148) dX12_dropMark_44 ?_
        refine la_126 (pc := 45) dX12_dropMark_45 (A_126 hw) T154 (rIx (n := 84000) (rAdd (e := 26) (f := 83993) (rAdd (e := 26) (f := 83986) (rMulL (n := 40) (e := 0) (f := 83960) hp1 rfl) (rR (x := 26)) rfl) h178 rfl) rfl) fun z180 q181 h182 => ?_
        refine mr_istore (pc := 46) (lv' := [(5, iv z180), (0, .ref 106), (1, iv p1), (2, iv p2), (3, iv z149), (4, iv z148)]) dX12_dropMark_46 (by decide) rfl ?_
        refine mr_iload (pc := 48) (z := z180) dX12_dropMark_48 rfl ?_
        refine mr_iload_n (pc := 50) (z := p2) dX12_dropMark_50 rfl rfl ?_
        refine mr_icmp_eq (pc := 51) (tgt := 73) dX12_dropMark_51 (by decide) h182.1 hp2 (fun h186 => ?_) (fun h186 => ?_)
        · refine mr_iinc (pc := 73) (lv' := [(4, iv (z148 + 1)), (5, iv z180), (0, .ref 106), (1, iv p1), (2, iv p2), (3, iv z149)]) dX12_dropMark_73 rfl (by decide) rfl ?_
          refine sv_goto (pc := 76) (tgt := 15) dX12_dropMark_76 (by decide) ?_
          refine mr_lvS (lv' := [(0, .ref 106), (1, iv p1), (2, iv p2), (3, iv z149), (4, iv (z148 + 1))]) (List.forall_mem_cons.mpr ⟨rfl, List.forall_mem_cons.mpr ⟨rfl, List.forall_mem_cons.mpr ⟨rfl, List.forall_mem_cons.mpr ⟨rfl, List.forall_mem_cons.mpr ⟨rfl, fun _ h => absurd h List.not_mem_nil⟩⟩⟩⟩⟩) ?_
          exact ih161 z149 (z148 + 1) μ150 T154 (mF.call mF.refl F155 rfl) (mG.call mG.refl G156 (List.forall_mem_cons.mpr ⟨⟨_, List.mem_cons_self, (vc_X12_dropMark_12 h182.2.1 h182.2.2.1 h182.2.2.2 h157 h158 h174 h186 hp1 hp2 h178 h152 h179 h182.1)⟩, (fun _ h => absurd h List.not_mem_nil)⟩)) h152 (rW (c := 0) (d := 8) (rAdd (e := 1) (f := 8) h178 (rR (x := 1)) rfl) rfl) (vc_X12_dropMark_9 h157 h158 h174 h182.2.1 h182.2.2.1 h182.2.2.2 h186 hp1 hp2 h178 h152 h179 h182.1) (vc_X12_dropMark_10 h157 h158 h174 h182.2.1 h182.2.2.1 h182.2.2.2 h186 hp1 hp2 h178 h152 h179 h182.1) (vc_X12_dropMark_11 (nS h159) h157 h158 h174 h182.2.1 h182.2.2.1 h182.2.2.2 h186 hp1 hp2 h178 h152 h179 h182.1) (((((W160 z149 z148 μ150 rfl h152 h153 T154 F155) z162 q163 h164).2 h174) z180 q181 h182).1 h186)
        refine sv_aload_n (pc := 54) dX12_dropMark_54 rfl rfl ?_
        refine gf_X12_32 (pc := 55) dX12_dropMark_55 wF_X12_148 (A_106 hw) T154 ?_
        refine mr_bipush (pc := 58) (z := 40) dX12_dropMark_58 (by decide) ?_
        refine mr_iload_n (pc := 60) (z := p1) dX12_dropMark_60 rfl rfl ?_
        refine mr_imul (pc := 61) (x := 40) (y := p1) dX12_dropMark_61 ?_
        refine mr_bipush (pc := 62) (z := 26) dX12_dropMark_62 (by decide) ?_
        refine mr_iadd (pc := 64) (x := (40 * p1)) (y := 26) dX12_dropMark_64 ?_
        refine mr_iload_n (pc := 65) (z := z149) dX12_dropMark_65 rfl rfl ?_
        refine mr_iadd (pc := 66) (x := ((40 * p1) + 26)) (y := z149) dX12_dropMark_66 ?_
        refine mr_iload (pc := 67) (z := z180) dX12_dropMark_67 rfl ?_
        refine ss_126 (pc := 69) dX12_dropMark_69 (A_126 hw) T154 (rIx (n := 84000) (rAdd (e := 26) (f := 83994) (rAdd (e := 26) (f := 83986) (rMulL (n := 40) (e := 0) (f := 83960) hp1 rfl) (rR (x := 26)) rfl) h152 rfl) rfl) (vc_X12_dropMark_13 h157 h182.2.1 h182.2.2.1 h182.2.2.2 h186 h158 h174 hp1 hp2 h178 h152 h179 h182.1) fun μ187 u188 T189 => ?_
        refine mr_iinc (pc := 70) (lv' := [(3, iv (z149 + 1)), (5, iv z180), (0, .ref 106), (1, iv p1), (2, iv p2), (4, iv z148)]) dX12_dropMark_70 rfl (by decide) rfl ?_
        refine mr_iinc (pc := 73) (lv' := [(4, iv (z148 + 1)), (3, iv (z149 + 1)), (5, iv z180), (0, .ref 106), (1, iv p1), (2, iv p2)]) dX12_dropMark_73 rfl (by decide) rfl ?_
        refine sv_goto (pc := 76) (tgt := 15) dX12_dropMark_76 (by decide) ?_
        refine mr_lvS (lv' := [(0, .ref 106), (1, iv p1), (2, iv p2), (3, iv (z149 + 1)), (4, iv (z148 + 1))]) (List.forall_mem_cons.mpr ⟨rfl, List.forall_mem_cons.mpr ⟨rfl, List.forall_mem_cons.mpr ⟨rfl, List.forall_mem_cons.mpr ⟨rfl, List.forall_mem_cons.mpr ⟨rfl, fun _ h => absurd h List.not_mem_nil⟩⟩⟩⟩⟩) ?_
        exact ih161 (z149 + 1) (z148 + 1) μ187 T189 (mF.up (mF.call mF.refl F155 rfl) (A_126 hw) u188 rfl) (mG.up (mG.call mG.refl G156 (List.forall_mem_cons.mpr ⟨⟨_, List.mem_cons_self, (vc_X12_dropMark_18 h182.2.1 h182.2.2.1 h182.2.2.2 h157 h158 h174 h186 hp1 hp2 h178 h152 h179 h182.1)⟩, (fun _ h => absurd h List.not_mem_nil)⟩)) u188 List.mem_cons_self (vc_X12_dropMark_19 h157 h182.2.1 h182.2.2.1 h182.2.2.2 h158 h174 h186 hp1 hp2 h178 h152 h179 h182.1)) (vc_X12_dropMark_14 h157 h158 h174 h182.2.1 h182.2.2.1 h182.2.2.2 hp1 h178 h152 h179 h182.1) (rW (c := 0) (d := 8) (rAdd (e := 1) (f := 8) h178 (rR (x := 1)) rfl) rfl) (vc_X12_dropMark_15 h157 h158 h174 h182.2.1 h182.2.2.1 h182.2.2.2 h186 hp1 hp2 h178 h152 h179 h182.1) (vc_X12_dropMark_16 h157 h158 h174 h182.2.1 h182.2.2.1 h182.2.2.2 h186 hp1 hp2 h178 h152 h179 h182.1) (vc_X12_dropMark_17 (nS h159) h157 h158 h174 h182.2.1 h182.2.2.1 h182.2.2.2 h186 hp1 hp2 h178 h152 h179 h182.1) ((((((W160 z149 z148 μ150 rfl h152 h153 T154 F155) z162 q163 h164).2 h174) z180 q181 h182).2 h186) μ187 u188 T189)
    refine mr_lvS (lv' := [(0, .ref 106), (1, iv p1), (2, iv p2), (3, iv 0), (4, iv 0)]) (List.forall_mem_cons.mpr ⟨rfl, List.forall_mem_cons.mpr ⟨rfl, List.forall_mem_cons.mpr ⟨rfl, List.forall_mem_cons.mpr ⟨rfl, List.forall_mem_cons.mpr ⟨rfl, fun _ h => absurd h List.not_mem_nil⟩⟩⟩⟩⟩) ?_
    exact L151 10 0 0 μ hT mF.refl mG.refl (rW (c := 0) (d := 8) (rR (x := 0)) rfl) (rW (c := 0) (d := 8) (rR (x := 0)) rfl) vc_X12_dropMark_20 vc_X12_dropMark_21 vc_X12_marked_10 ((h4.2.1 h4.1).1 h6)
  have h190 : 0 ≤ z5 ∧ z5 ≤ 0 := (vc_X12_ring_22 h6 h4.1)
  exact mr_vret dX12_dropMark_9 rfl (le_t rfl) (le_t rfl) hT mF.refl ⟨mG.refl, ((h4.2.1 h4.1).2 h6), trivial⟩
def WL_X12_front_W_1 (w : mW) (μ : mM) (p1 : Int) (p2 : Int) (Q : Int → mM → Prop) (rec1 : (Int × mM) → Prop) (s : (Int × mM)) : Prop := ∀ z45 : Int, ∀ μ46 : mM, s = (z45, μ46) → (0 ≤ z45 ∧ z45 ≤ 19) → mT w μ46 → mF [126999] w μ μ46 → ∀ f_n : Int, μ46 126 (((40 * p1) + 4).toNat) = f_n → ((-2147483648 ≤ f_n ∧ f_n ≤ 2147483647) ∧ (((40 * p1) + 4) % 40 = 0 → -1 ≤ f_n ∧ f_n ≤ 9) ∧ (((40 * p1) + 4) % 40 = 4 → 0 ≤ f_n ∧ f_n ≤ 20) ∧ (((40 * p1) + 4) % 40 = 5 → 0 ≤ f_n ∧ f_n ≤ 8)) → ((z45 ≤ 0) → ∀ μ69 : mM, mU μ46 126 (((40 * p1) + 6).toNat) p2 μ69 → mT w μ69 → ∀ μ72 : mM, mU μ69 126 (((40 * p1) + 4).toNat) (f_n + 1) μ72 → mT w μ72 → Q (1 : Int) μ72) ∧ ((0 < z45) → ∀ z76 : Int, μ46 126 ((((40 * p1) + 5) + z45).toNat) = z76 → ((-2147483648 ≤ z76 ∧ z76 ≤ 2147483647) ∧ ((((40 * p1) + 5) + z45) % 40 = 0 → -1 ≤ z76 ∧ z76 ≤ 9) ∧ ((((40 * p1) + 5) + z45) % 40 = 4 → 0 ≤ z76 ∧ z76 ≤ 20) ∧ ((((40 * p1) + 5) + z45) % 40 = 5 → 0 ≤ z76 ∧ z76 ≤ 8)) → ∀ μ79 : mM, mU μ46 126 ((((40 * p1) + 6) + z45).toNat) z76 μ79 → mT w μ79 → rec1 ((z45 + (-1)), μ79))
def WP_X12_front_W (w : mW) (μ : mM) (p1 : Int) (p2 : Int) (Q : Int → mM → Prop) : Prop := ∀ z1 : Int, μ 126 (((40 * p1) + 4).toNat) = z1 → ((-2147483648 ≤ z1 ∧ z1 ≤ 2147483647) ∧ (((40 * p1) + 4) % 40 = 0 → -1 ≤ z1 ∧ z1 ≤ 9) ∧ (((40 * p1) + 4) % 40 = 4 → 0 ≤ z1 ∧ z1 ≤ 20) ∧ (((40 * p1) + 4) % 40 = 5 → 0 ≤ z1 ∧ z1 ≤ 8)) → ((¬ z1 = 20) → loopF (WL_X12_front_W_1 w μ p1 p2 Q) False 21 (z1, μ)) ∧ ((z1 = 20) → Q (0 : Int) μ)
set_option maxRecDepth 4000 in
set_option maxHeartbeats 4000000 in
theorem c_X12_front_W {l : Launch} {D : va_G} {c : Nat → ClassId} {H0 : Heap} {sa : Nat × Nat × (Nat → Int32)} {w : mW} {μ : mM} (hw : mWF w) (hT : mT w μ) {p1 : Int} (hp1 : 0 ≤ p1 ∧ p1 ≤ 2099) {p2 : Int} (hp2 : (-2147483648) ≤ p2 ∧ p2 ≤ 2147483647) {Q : Int → mM → Prop} (hQ : WP_X12_front_W w μ p1 p2 Q) : sC (gG l D c H0 sa) mX12_front 1 0 0 [.ref 106, iv p1, iv p2] (mk w μ) (qI w [126999] μ (fun z μ1 => (0 ≤ z ∧ z ≤ 1) ∧ mG [(((40 * p1) + 1), ((40 * p1) + 40))] μ μ1 ∧ Q z μ1 ∧ True)) := by
  refine sC.of rfl (by decide) (le_t rfl) ?_
  refine mr_lvE (lv' := [(0, .ref 106), (1, iv p1), (2, iv p2)]) rfl ?_
  refine sv_aload_n (pc := 0) dX12_front_0 rfl rfl ?_
  refine gf_X12_32 (pc := 1) dX12_front_1 wF_X12_148 (A_106 hw) hT ?_
  refine mr_bipush (pc := 4) (z := 40) dX12_front_4 (by decide) ?_
  refine mr_iload_n (pc := 6) (z := p1) dX12_front_6 rfl rfl ?_
  refine mr_imul (pc := 7) (x := 40) (y := p1) dX12_front_7 ?_
  refine mr_iconst (pc := 8) (z := 4) dX12_front_8 ?_
  refine mr_iadd (pc := 9) (x := (40 * p1)) (y := 4) dX12_front_9 ?_
  refine la_126 (pc := 10) dX12_front_10 (A_126 hw) hT (rIx (n := 84000) (rAdd (e := 4) (f := 83964) (rMulL (n := 40) (e := 0) (f := 83960) hp1 rfl) (rR (x := 4)) rfl) rfl) fun z1 q2 h3 => ?_
  have h4 : 0 ≤ z1 ∧ z1 ≤ 20 := h3.2.2.1 (vc_X12_front_1 hp1)
  refine mr_istore_n (pc := 11) (lv' := [(3, iv z1), (0, .ref 106), (1, iv p1), (2, iv p2)]) dX12_front_11 rfl (by decide) rfl ?_
  refine mr_iload_n (pc := 12) (z := z1) dX12_front_12 rfl rfl ?_
  refine mr_bipush (pc := 13) (z := 20) dX12_front_13 (by decide) ?_
  refine mr_icmp_ne (pc := 15) (tgt := 20) dX12_front_15 (by decide) (r32 h4 rfl) (r32 (rR (x := 20)) rfl) (fun h5 => ?_) (fun h5 => ?_)
  · have h6 : 0 ≤ z1 ∧ z1 ≤ 19 := (vc_X12_front_2 h5 h4)
    refine mr_iload_n (pc := 20) (z := z1) dX12_front_20 rfl rfl ?_
    refine mr_istore (pc := 21) (lv' := [(4, iv z1), (3, iv z1), (0, .ref 106), (1, iv p1), (2, iv p2)]) dX12_front_21 (by decide) rfl ?_
    have L47 : ∀ (nL47 : Nat) (z45 : Int) (μ46 : mM) (f_n : Int), mT w μ46 → mF [126999] w μ μ46 → mG [(((40 * p1) + 1), ((40 * p1) + 40))] μ μ46 → μ46 126 (((40 * p1) + 4).toNat) = f_n → (0 ≤ z45 ∧ z45 ≤ 19) → (f_n ≤ 19) → (z45 - (-1)) < (nL47 : Int) → loopF (WL_X12_front_W_1 w μ p1 p2 Q) False nL47 (z45, μ46) → sV (gG l D c H0 sa) mX12_front (sRm 1 0 0) (sZ (gG l D c H0 sa) 0 0 (qI w [126999] μ (fun z μ1 => (0 ≤ z ∧ z ≤ 1) ∧ mG [(((40 * p1) + 1), ((40 * p1) + 40))] μ μ1 ∧ Q z μ1 ∧ True))) 23 [(0, .ref 106), (1, iv p1), (2, iv p2), (4, iv z45)] [] (mk w μ46) 0 0 := by
      intro nL47
      induction nL47 with
      | zero => intro z45 μ46 f_n T49 F50 G51 q55 h48 h52 h53 W54; exact ((vc_X12_front_3 h53 h48)).elim
      | succ nL47 ih56 =>
        intro z45 μ46 f_n T49 F50 G51 q55 h48 h52 h53 W54
        have h57 := rt7 T49 (A_126 hw) (vc_X12_front_4 hp1) q55
        have h58 : 0 ≤ f_n ∧ f_n ≤ 20 := h57.2.2.1 (vc_X12_front_1 hp1)
        refine mr_iload (pc := 23) (z := z45) dX12_front_23 rfl ?_
        refine mr_if_le (pc := 25) (tgt := 63) dX12_front_25 (by decide) (r32 h48 rfl) (fun h67 => ?_) (fun h67 => ?_)
        · have h68 : 0 ≤ z45 ∧ z45 ≤ 0 := (vc_X12_front_5 h67 h48)
          refine sv_aload_n (pc := 63) dX12_front_63 rfl rfl ?_
          refine gf_X12_32 (pc := 64) dX12_front_64 wF_X12_148 (A_106 hw) T49 ?_
          refine mr_bipush (pc := 67) (z := 40) dX12_front_67 (by decide) ?_
          refine mr_iload_n (pc := 69) (z := p1) dX12_front_69 rfl rfl ?_
          refine mr_imul (pc := 70) (x := 40) (y := p1) dX12_front_70 ?_
          refine mr_bipush (pc := 71) (z := 6) dX12_front_71 (by decide) ?_
          refine mr_iadd (pc := 73) (x := (40 * p1)) (y := 6) dX12_front_73 ?_
          refine mr_iload_n (pc := 74) (z := p2) dX12_front_74 rfl rfl ?_
          refine ss_126 (pc := 75) dX12_front_75 (A_126 hw) T49 (rIx (n := 84000) (rAdd (e := 6) (f := 83966) (rMulL (n := 40) (e := 0) (f := 83960) hp1 rfl) (rR (x := 6)) rfl) rfl) (vc_X12_front_6 hp1 hp2) fun μ69 u70 T71 => ?_
          refine sv_aload_n (pc := 76) dX12_front_76 rfl rfl ?_
          refine gf_X12_32 (pc := 77) dX12_front_77 wF_X12_148 (A_106 hw) T71 ?_
          refine mr_bipush (pc := 80) (z := 40) dX12_front_80 (by decide) ?_
          refine mr_iload_n (pc := 82) (z := p1) dX12_front_82 rfl rfl ?_
          refine mr_imul (pc := 83) (x := 40) (y := p1) dX12_front_83 ?_
          refine mr_iconst (pc := 84) (z := 4) dX12_front_84 ?_
          refine mr_iadd (pc := 85) (x := (40 * p1)) (y := 4) dX12_front_85 ?_
          refine sv_dup2 (pc := 86) dX12_front_86 rfl rfl ?_
          refine lk_126 (pc := 87) dX12_front_87 (A_126 hw) (rIx (n := 84000) (rAdd (e := 4) (f := 83964) (rMulL (n := 40) (e := 0) (f := 83960) hp1 rfl) (rR (x := 4)) rfl) rfl) (u70.f (Or.inr (vc_X12_front_7 hp1)) q55) ?_
          refine mr_iconst (pc := 88) (z := 1) dX12_front_88 ?_
          refine mr_iadd (pc := 89) (x := f_n) (y := 1) dX12_front_89 ?_
          refine ss_126 (pc := 90) dX12_front_90 (A_126 hw) T71 (rIx (n := 84000) (rAdd (e := 4) (f := 83964) (rMulL (n := 40) (e := 0) (f := 83960) hp1 rfl) (rR (x := 4)) rfl) rfl) (vc_X12_front_8 h52 h58 hp1) fun μ72 u73 T74 => ?_
          refine mr_iconst (pc := 91) (z := 1) dX12_front_91 ?_
          exact mr_zret dX12_front_92 rfl (rW (c := 0) (d := 1) (rR (x := 1)) rfl) (le_t rfl) (le_t rfl) T74 (mF.up (mF.up (mF.call mF.refl F50 rfl) (A_126 hw) u70 rfl) (A_126 hw) u73 rfl) ⟨(rW (c := 0) (d := 1) (rR (x := 1)) rfl), (mG.up (mG.up (mG.call mG.refl G51 (List.forall_mem_cons.mpr ⟨⟨_, List.mem_cons_self, (vc_X12_dropMark_5 hp1)⟩, (fun _ h => absurd h List.not_mem_nil)⟩)) u70 List.mem_cons_self (vc_X12_front_10 hp1)) u73 List.mem_cons_self (vc_X12_front_11 hp1)), (((((W54 z45 μ46 rfl h48 T49 F50) f_n q55 h57).1 h67) μ69 u70 T71) μ72 u73 T74), trivial⟩
        have h75 : 1 ≤ z45 ∧ z45 ≤ 19 := (vc_X12_front_12 h67 h48)
        refine sv_aload_n (pc := 28) dX12_front_28 rfl rfl ?_
        refine gf_X12_32 (pc := 29) dX12_front_29 wF_X12_148 (A_106 hw) T49 ?_
        refine mr_bipush (pc := 32) (z := 40) dX12_front_32 (by decide) ?_
        refine mr_iload_n (pc := 34) (z := p1) dX12_front_34 rfl rfl ?_
        refine mr_imul (pc := 35) (x := 40) (y := p1) dX12_front_35 ?_
        refine mr_bipush (pc := 36) (z := 6) dX12_front_36 (by decide) ?_
        refine mr_iadd (pc := 38) (x := (40 * p1)) (y := 6) dX12_front_38 ?_
        refine mr_iload (pc := 39) (z := z45) dX12_front_39 rfl ?_
        refine mr_iadd (pc := 41) (x := ((40 * p1) + 6)) (y := z45) dX12_front_41 ?_
        refine sv_aload_n (pc := 42) dX12_front_42 rfl rfl ?_
        refine gf_X12_32 (pc := 43) dX12_front_43 wF_X12_148 (A_106 hw) T49 ?_
        refine mr_bipush (pc := 46) (z := 40) dX12_front_46 (by decide) ?_
        refine mr_iload_n (pc := 48) (z := p1) dX12_front_48 rfl rfl ?_
        refine mr_imul (pc := 49) (x := 40) (y := p1) dX12_front_49 ?_
        refine mr_iconst (pc := 50) (z := 5) dX12_front_50 ?_
        refine mr_iadd (pc := 51) (x := (40 * p1)) (y := 5) dX12_front_51 ?_
        refine mr_iload (pc := 52) (z := z45) dX12_front_52 rfl ?_
        refine mr_iadd (pc := 54) (x := ((40 * p1) + 5)) (y := z45) dX12_front_54 ?_
        refine la_126 (pc := 55) dX12_front_55 (A_126 hw) T49 (rIx (n := 84000) (rAdd (e := 6) (f := 83984) (rAdd (e := 5) (f := 83965) (rMulL (n := 40) (e := 0) (f := 83960) hp1 rfl) (rR (x := 5)) rfl) h75 rfl) rfl) fun z76 q77 h78 => ?_
        refine ss_126 (pc := 56) dX12_front_56 (A_126 hw) T49 (rIx (n := 84000) (rAdd (e := 7) (f := 83985) (rAdd (e := 6) (f := 83966) (rMulL (n := 40) (e := 0) (f := 83960) hp1 rfl) (rR (x := 6)) rfl) h75 rfl) rfl) (vc_X12_front_13 h67 h78.2.1 h78.2.2.1 h78.2.2.2 hp1 h75 h78.1) fun μ79 u80 T81 => ?_
        refine mr_iinc (pc := 57) (lv' := [(4, iv (z45 + (-1))), (0, .ref 106), (1, iv p1), (2, iv p2)]) dX12_front_57 rfl (by decide) rfl ?_
        refine sv_goto (pc := 60) (tgt := 23) dX12_front_60 (by decide) ?_
        refine mr_lvS (lv' := [(0, .ref 106), (1, iv p1), (2, iv p2), (4, iv (z45 + (-1)))]) (List.forall_mem_cons.mpr ⟨rfl, List.forall_mem_cons.mpr ⟨rfl, List.forall_mem_cons.mpr ⟨rfl, List.forall_mem_cons.mpr ⟨rfl, fun _ h => absurd h List.not_mem_nil⟩⟩⟩⟩) ?_
        exact ih56 (z45 + (-1)) μ79 f_n T81 (mF.up (mF.call mF.refl F50 rfl) (A_126 hw) u80 rfl) (mG.up (mG.call mG.refl G51 (List.forall_mem_cons.mpr ⟨⟨_, List.mem_cons_self, (vc_X12_front_17 h78.2.1 h78.2.2.1 h78.2.2.2 h67 hp1 h75 h78.1)⟩, (fun _ h => absurd h List.not_mem_nil)⟩)) u80 List.mem_cons_self (vc_X12_front_18 h67 h78.2.1 h78.2.2.1 h78.2.2.2 hp1 h75 h78.1)) (u80.f (Or.inr (vc_X12_front_14 h67 h78.2.1 h78.2.2.1 h78.2.2.2 hp1 h75 h78.1)) q55) (rW (c := 0) (d := 19) (rAdd (e := 0) (f := 18) h75 (rR (x := (-1))) rfl) rfl) (vc_X12_front_15 h52 h58) (vc_X12_front_16 (nS h53) h67 h78.2.1 h78.2.2.1 h78.2.2.2 hp1 h75 h78.1) (((((W54 z45 μ46 rfl h48 T49 F50) f_n q55 h57).2 h67) z76 q77 h78) μ79 u80 T81)
    refine mr_lvS (lv' := [(0, .ref 106), (1, iv p1), (2, iv p2), (4, iv z1)]) (List.forall_mem_cons.mpr ⟨rfl, List.forall_mem_cons.mpr ⟨rfl, List.forall_mem_cons.mpr ⟨rfl, List.forall_mem_cons.mpr ⟨rfl, fun _ h => absurd h List.not_mem_nil⟩⟩⟩⟩) ?_
    exact L47 21 z1 μ z1 hT mF.refl mG.refl q2 h6 (vc_X12_front_19 h5 h6) (vc_X12_front_20 h5 h6) ((hQ z1 q2 h3).1 h5)
  have h82 : 20 ≤ z1 ∧ z1 ≤ 20 := (vc_X12_front_21 h5 h4)
  refine mr_iconst (pc := 18) (z := 0) dX12_front_18 ?_
  exact mr_zret dX12_front_19 rfl (rW (c := 0) (d := 1) (rR (x := 0)) rfl) (le_t rfl) (le_t rfl) hT mF.refl ⟨(rW (c := 0) (d := 1) (rR (x := 0)) rfl), mG.refl, ((hQ z1 q2 h3).2 h5), trivial⟩
def WL_X12_isIn_W_1 (μ : mM) (p1 : Int) (p2 : Int) (Q : Int → mM → Prop) (rec1 : (Int × Int) → Prop) (s : (Int × Int)) : Prop := ∀ z182 : Int, ∀ z181 : Int, s = (z182, z181) → (0 ≤ z182 ∧ z182 ≤ 1) → (0 ≤ z181 ∧ z181 ≤ 20) → ∀ z192 : Int, μ 126 (((40 * p1) + 4).toNat) = z192 → ((-2147483648 ≤ z192 ∧ z192 ≤ 2147483647) ∧ (((40 * p1) + 4) % 40 = 0 → -1 ≤ z192 ∧ z192 ≤ 9) ∧ (((40 * p1) + 4) % 40 = 4 → 0 ≤ z192 ∧ z192 ≤ 20) ∧ (((40 * p1) + 4) % 40 = 5 → 0 ≤ z192 ∧ z192 ≤ 8)) → ((z192 ≤ z181) → Q z182 μ) ∧ ((z181 < z192) → ((¬ z182 = 0) → rec1 ((1 : Int), (z181 + 1))) ∧ ((z182 = 0) → ∀ z214 : Int, μ 126 ((((40 * p1) + 6) + z181).toNat) = z214 → ((-2147483648 ≤ z214 ∧ z214 ≤ 2147483647) ∧ ((((40 * p1) + 6) + z181) % 40 = 0 → -1 ≤ z214 ∧ z214 ≤ 9) ∧ ((((40 * p1) + 6) + z181) % 40 = 4 → 0 ≤ z214 ∧ z214 ≤ 20) ∧ ((((40 * p1) + 6) + z181) % 40 = 5 → 0 ≤ z214 ∧ z214 ≤ 8)) → ((¬ z214 = p2) → rec1 ((0 : Int), (z181 + 1))) ∧ ((z214 = p2) → rec1 ((1 : Int), (z181 + 1)))))
def WP_X12_isIn_W (w : mW) (μ : mM) (p1 : Int) (p2 : Int) (Q : Int → mM → Prop) : Prop := loopF (WL_X12_isIn_W_1 μ p1 p2 Q) False 22 ((0 : Int), (0 : Int))
set_option maxRecDepth 4000 in
set_option maxHeartbeats 4000000 in
theorem c_X12_isIn_W {l : Launch} {D : va_G} {c : Nat → ClassId} {H0 : Heap} {sa : Nat × Nat × (Nat → Int32)} {w : mW} {μ : mM} (hw : mWF w) (hT : mT w μ) {p1 : Int} (hp1 : 0 ≤ p1 ∧ p1 ≤ 2099) {p2 : Int} (hp2 : (-2147483648) ≤ p2 ∧ p2 ≤ 2147483647) {Q : Int → mM → Prop} (hQ : WP_X12_isIn_W w μ p1 p2 Q) : sC (gG l D c H0 sa) mX12_isIn 1 0 0 [.ref 106, iv p1, iv p2] (mk w μ) (qP w μ (fun z => (0 ≤ z ∧ z ≤ 1) ∧ Q z μ ∧ True)) := by
  refine sC.of rfl (by decide) (le_t rfl) ?_
  refine mr_lvE (lv' := [(0, .ref 106), (1, iv p1), (2, iv p2)]) rfl ?_
  refine mr_iconst (pc := 0) (z := 0) dX12_isIn_0 ?_
  refine mr_istore_n (pc := 1) (lv' := [(3, iv 0), (0, .ref 106), (1, iv p1), (2, iv p2)]) dX12_isIn_1 rfl (by decide) rfl ?_
  refine mr_iconst (pc := 2) (z := 0) dX12_isIn_2 ?_
  refine mr_istore (pc := 3) (lv' := [(4, iv 0), (3, iv 0), (0, .ref 106), (1, iv p1), (2, iv p2)]) dX12_isIn_3 (by decide) rfl ?_
  have L183 : ∀ (nL183 : Nat) (z182 z181 : Int), True → (0 ≤ z182 ∧ z182 ≤ 1) → (0 ≤ z181 ∧ z181 ≤ 20) → (21 - z181) < (nL183 : Int) → loopF (WL_X12_isIn_W_1 μ p1 p2 Q) False nL183 (z182, z181) → sV (gG l D c H0 sa) mX12_isIn (sRm 1 0 0) (sZ (gG l D c H0 sa) 0 0 (qP w μ (fun z => (0 ≤ z ∧ z ≤ 1) ∧ Q z μ ∧ True))) 5 [(0, .ref 106), (1, iv p1), (2, iv p2), (3, iv z182), (4, iv z181)] [] (mk w μ) 0 0 := by
    intro nL183
    induction nL183 with
    | zero => intro z182 z181 _ h184 h185 h189 W190; exact ((vc_X12_tieOf_1 h189 h185)).elim
    | succ nL183 ih191 =>
      intro z182 z181 _ h184 h185 h189 W190
      refine mr_iload (pc := 5) (z := z181) dX12_isIn_5 rfl ?_
      refine sv_aload_n (pc := 7) dX12_isIn_7 rfl rfl ?_
      refine gf_X12_32 (pc := 8) dX12_isIn_8 wF_X12_148 (A_106 hw) hT ?_
      refine mr_bipush (pc := 11) (z := 40) dX12_isIn_11 (by decide) ?_
      refine mr_iload_n (pc := 13) (z := p1) dX12_isIn_13 rfl rfl ?_
      refine mr_imul (pc := 14) (x := 40) (y := p1) dX12_isIn_14 ?_
      refine mr_iconst (pc := 15) (z := 4) dX12_isIn_15 ?_
      refine mr_iadd (pc := 16) (x := (40 * p1)) (y := 4) dX12_isIn_16 ?_
      refine la_126 (pc := 17) dX12_isIn_17 (A_126 hw) hT (rIx (n := 84000) (rAdd (e := 4) (f := 83964) (rMulL (n := 40) (e := 0) (f := 83960) hp1 rfl) (rR (x := 4)) rfl) rfl) fun z192 q193 h194 => ?_
      have h195 : 0 ≤ z192 ∧ z192 ≤ 20 := h194.2.2.1 (vc_X12_front_1 hp1)
      refine mr_icmp_ge (pc := 18) (tgt := 56) dX12_isIn_18 (by decide) (r32 h185 rfl) (r32 h195 rfl) (fun h203 => ?_) (fun h203 => ?_)
      · refine mr_iload_n (pc := 56) (z := z182) dX12_isIn_56 rfl rfl ?_
        exact mr_zretP dX12_isIn_57 rfl h184 (le_t rfl) (le_t rfl) ⟨h184, (((W190 z182 z181 rfl h184 h185) z192 q193 h194).1 h203), trivial⟩
      have h204 : 0 ≤ z181 ∧ z181 ≤ 19 := (vc_X12_tieOf_3 h203 h185 h195)
      have h205 : 1 ≤ z192 ∧ z192 ≤ 20 := (vc_X12_tieOf_4 h203 h204 h195)
      refine mr_iload_n (pc := 21) (z := z182) dX12_isIn_21 rfl rfl ?_
      refine mr_if_ne (pc := 22) (tgt := 44) dX12_isIn_22 (by decide) (r32 h184 rfl) (fun h211 => ?_) (fun h211 => ?_)
      · have h212 : 1 ≤ z182 ∧ z182 ≤ 1 := (vc_X12_ring_24 h211 h184)
        refine mr_iconst (pc := 44) (z := 1) dX12_isIn_44 ?_
        refine sv_goto (pc := 45) (tgt := 49) dX12_isIn_45 (by decide) ?_
        refine mr_istore_n (pc := 49) (lv' := [(3, iv 1), (0, .ref 106), (1, iv p1), (2, iv p2), (4, iv z181)]) dX12_isIn_49 rfl (by decide) rfl ?_
        refine mr_iinc (pc := 50) (lv' := [(4, iv (z181 + 1)), (3, iv 1), (0, .ref 106), (1, iv p1), (2, iv p2)]) dX12_isIn_50 rfl (by decide) rfl ?_
        refine sv_goto (pc := 53) (tgt := 5) dX12_isIn_53 (by decide) ?_
        refine mr_lvS (lv' := [(0, .ref 106), (1, iv p1), (2, iv p2), (3, iv 1), (4, iv (z181 + 1))]) (List.forall_mem_cons.mpr ⟨rfl, List.forall_mem_cons.mpr ⟨rfl, List.forall_mem_cons.mpr ⟨rfl, List.forall_mem_cons.mpr ⟨rfl, List.forall_mem_cons.mpr ⟨rfl, fun _ h => absurd h List.not_mem_nil⟩⟩⟩⟩⟩) ?_
        exact ih191 1 (z181 + 1) trivial (rW (c := 0) (d := 1) (rR (x := 1)) rfl) (rW (c := 0) (d := 20) (rAdd (e := 1) (f := 20) h204 (rR (x := 1)) rfl) rfl) (vc_X12_tieOf_5 (nS h189) h203 h204 h205) ((((W190 z182 z181 rfl h184 h185) z192 q193 h194).2 h203).1 h211)
      have h213 : 0 ≤ z182 ∧ z182 ≤ 0 := (vc_X12_ring_22 h211 h184)
      refine sv_aload_n (pc := 25) dX12_isIn_25 rfl rfl ?_
      refine gf_X12_32 (pc := 26) dX12_isIn_26 wF_X12_148 (A_106 hw) hT ?_
      refine mr_bipush (pc := 29) (z := 40) dX12_isIn_29 (by decide) ?_
      refine mr_iload_n (pc := 31) (z := p1) dX12_isIn_31 rfl rfl ?_
      refine mr_imul (pc := 32) (x := 40) (y := p1) dX12_isIn_32 ?_
      refine mr_bipush (pc := 33) (z := 6) dX12_isIn_33 (by decide) ?_
      refine mr_iadd (pc := 35) (x := (40 * p1)) (y := 6) dX12_isIn_35 ?_
      refine mr_iload (pc := 36) (z := z181) dX12_isIn_36 rfl ?_
      refine mr_iadd (pc := 38) (x := ((40 * p1) + 6)) (y := z181) dX12_isIn_38 ?_
      refine la_126 (pc := 39) dX12_isIn_39 (A_126 hw) hT (rIx (n := 84000) (rAdd (e := 6) (f := 83985) (rAdd (e := 6) (f := 83966) (rMulL (n := 40) (e := 0) (f := 83960) hp1 rfl) (rR (x := 6)) rfl) h204 rfl) rfl) fun z214 q215 h216 => ?_
      refine mr_iload_n (pc := 40) (z := p2) dX12_isIn_40 rfl rfl ?_
      refine mr_icmp_ne (pc := 41) (tgt := 48) dX12_isIn_41 (by decide) h216.1 hp2 (fun h217 => ?_) (fun h217 => ?_)
      · refine mr_iconst (pc := 48) (z := 0) dX12_isIn_48 ?_
        refine mr_istore_n (pc := 49) (lv' := [(3, iv 0), (0, .ref 106), (1, iv p1), (2, iv p2), (4, iv z181)]) dX12_isIn_49 rfl (by decide) rfl ?_
        refine mr_iinc (pc := 50) (lv' := [(4, iv (z181 + 1)), (3, iv 0), (0, .ref 106), (1, iv p1), (2, iv p2)]) dX12_isIn_50 rfl (by decide) rfl ?_
        refine sv_goto (pc := 53) (tgt := 5) dX12_isIn_53 (by decide) ?_
        refine mr_lvS (lv' := [(0, .ref 106), (1, iv p1), (2, iv p2), (3, iv 0), (4, iv (z181 + 1))]) (List.forall_mem_cons.mpr ⟨rfl, List.forall_mem_cons.mpr ⟨rfl, List.forall_mem_cons.mpr ⟨rfl, List.forall_mem_cons.mpr ⟨rfl, List.forall_mem_cons.mpr ⟨rfl, fun _ h => absurd h List.not_mem_nil⟩⟩⟩⟩⟩) ?_
        exact ih191 0 (z181 + 1) trivial (rW (c := 0) (d := 1) (rR (x := 0)) rfl) (rW (c := 0) (d := 20) (rAdd (e := 1) (f := 20) h204 (rR (x := 1)) rfl) rfl) (vc_X12_isIn_8 (nS h189) h203 h216.2.1 h216.2.2.1 h216.2.2.2 h217 hp1 hp2 h204 h205 h216.1) ((((((W190 z182 z181 rfl h184 h185) z192 q193 h194).2 h203).2 h211) z214 q215 h216).1 h217)
      refine mr_iconst (pc := 44) (z := 1) dX12_isIn_44 ?_
      refine sv_goto (pc := 45) (tgt := 49) dX12_isIn_45 (by decide) ?_
      refine mr_istore_n (pc := 49) (lv' := [(3, iv 1), (0, .ref 106), (1, iv p1), (2, iv p2), (4, iv z181)]) dX12_isIn_49 rfl (by decide) rfl ?_
      refine mr_iinc (pc := 50) (lv' := [(4, iv (z181 + 1)), (3, iv 1), (0, .ref 106), (1, iv p1), (2, iv p2)]) dX12_isIn_50 rfl (by decide) rfl ?_
      refine sv_goto (pc := 53) (tgt := 5) dX12_isIn_53 (by decide) ?_
      refine mr_lvS (lv' := [(0, .ref 106), (1, iv p1), (2, iv p2), (3, iv 1), (4, iv (z181 + 1))]) (List.forall_mem_cons.mpr ⟨rfl, List.forall_mem_cons.mpr ⟨rfl, List.forall_mem_cons.mpr ⟨rfl, List.forall_mem_cons.mpr ⟨rfl, List.forall_mem_cons.mpr ⟨rfl, fun _ h => absurd h List.not_mem_nil⟩⟩⟩⟩⟩) ?_
      exact ih191 1 (z181 + 1) trivial (rW (c := 0) (d := 1) (rR (x := 1)) rfl) (rW (c := 0) (d := 20) (rAdd (e := 1) (f := 20) h204 (rR (x := 1)) rfl) rfl) (vc_X12_isIn_9 (nS h189) h203 h216.2.1 h216.2.2.1 h216.2.2.2 h217 hp1 hp2 h204 h205 h216.1) ((((((W190 z182 z181 rfl h184 h185) z192 q193 h194).2 h203).2 h211) z214 q215 h216).2 h217)
  refine mr_lvS (lv' := [(0, .ref 106), (1, iv p1), (2, iv p2), (3, iv 0), (4, iv 0)]) (List.forall_mem_cons.mpr ⟨rfl, List.forall_mem_cons.mpr ⟨rfl, List.forall_mem_cons.mpr ⟨rfl, List.forall_mem_cons.mpr ⟨rfl, List.forall_mem_cons.mpr ⟨rfl, fun _ h => absurd h List.not_mem_nil⟩⟩⟩⟩⟩) ?_
  exact L183 22 0 0 trivial (rW (c := 0) (d := 1) (rR (x := 0)) rfl) (rW (c := 0) (d := 20) (rR (x := 0)) rfl) vc_X12_tieOf_12 hQ
def WP_X12_nothing_W (w : mW) (μ : mM) (p1 : Int) (Q : mM → Prop) : Prop := ∀ μ1 : mM, mU μ 126 ((40 * p1).toNat) ((-1) : Int) μ1 → mT w μ1 → Q μ1
set_option maxRecDepth 4000 in
set_option maxHeartbeats 4000000 in
theorem c_X12_nothing_W {l : Launch} {D : va_G} {c : Nat → ClassId} {H0 : Heap} {sa : Nat × Nat × (Nat → Int32)} {w : mW} {μ : mM} (hw : mWF w) (hT : mT w μ) {p1 : Int} (hp1 : 0 ≤ p1 ∧ p1 ≤ 2099) {Q : mM → Prop} (hQ : WP_X12_nothing_W w μ p1 Q) : sC (gG l D c H0 sa) mX12_nothing 1 0 0 [.ref 106, iv p1] (mk w μ) (qV w [126999] μ (fun μ1 => ∃ o_x : Int, μ1 126 ((40 * p1).toNat) = o_x ∧ mG [((40 * p1), ((40 * p1) + 1))] μ μ1 ∧ (o_x = -1) ∧ Q μ1 ∧ True)) := by
  refine sC.of rfl (by decide) (le_t rfl) ?_
  refine mr_lvE (lv' := [(0, .ref 106), (1, iv p1)]) rfl ?_
  refine sv_aload_n (pc := 0) dX12_nothing_0 rfl rfl ?_
  refine gf_X12_32 (pc := 1) dX12_nothing_1 wF_X12_148 (A_106 hw) hT ?_
  refine mr_bipush (pc := 4) (z := 40) dX12_nothing_4 (by decide) ?_
  refine mr_iload_n (pc := 6) (z := p1) dX12_nothing_6 rfl rfl ?_
  refine mr_imul (pc := 7) (x := 40) (y := p1) dX12_nothing_7 ?_
  refine mr_iconst (pc := 8) (z := (-1)) dX12_nothing_8 ?_
  refine ss_126 (pc := 9) dX12_nothing_9 (A_126 hw) hT (rIx (n := 84000) (rMulL (n := 40) (e := 0) (f := 83960) hp1 rfl) rfl) (vc_X12_nothing_1 hp1) fun μ1 u2 T3 => ?_
  exact mr_vret dX12_nothing_10 rfl (le_t rfl) (le_t rfl) T3 (mF.up mF.refl (A_126 hw) u2 rfl) ⟨(-1), u2.1, (mG.up mG.refl u2 List.mem_cons_self (vc_X12_nothing_2 hp1)), vc_X12_nothing_3, (hQ μ1 u2 T3), trivial⟩
def WL_X12_copy_W_1 (w : mW) (p1 : Int) (p2 : Int) (Q : mM → Prop) (μ177 : mM) (rec1 : (Int × mM) → Prop) (s : (Int × mM)) : Prop := ∀ z294 : Int, ∀ μ295 : mM, s = (z294, μ295) → (1 ≤ z294 ∧ z294 ≤ 40) → mT w μ295 → mF [126999] w μ177 μ295 → ∀ f_y : Int, μ295 126 ((40 * p2).toNat) = f_y → ((-2147483648 ≤ f_y ∧ f_y ≤ 2147483647) ∧ ((40 * p2) % 40 = 0 → -1 ≤ f_y ∧ f_y ≤ 9) ∧ ((40 * p2) % 40 = 4 → 0 ≤ f_y ∧ f_y ≤ 20) ∧ ((40 * p2) % 40 = 5 → 0 ≤ f_y ∧ f_y ≤ 8)) → ((40 ≤ z294) → Q μ295) ∧ ((z294 < 40) → ∀ z319 : Int, μ295 126 (((40 * p1) + z294).toNat) = z319 → ((-2147483648 ≤ z319 ∧ z319 ≤ 2147483647) ∧ (((40 * p1) + z294) % 40 = 0 → -1 ≤ z319 ∧ z319 ≤ 9) ∧ (((40 * p1) + z294) % 40 = 4 → 0 ≤ z319 ∧ z319 ≤ 20) ∧ (((40 * p1) + z294) % 40 = 5 → 0 ≤ z319 ∧ z319 ≤ 8)) → ∀ μ322 : mM, mU μ295 126 (((40 * p2) + z294).toNat) z319 μ322 → mT w μ322 → rec1 ((z294 + 1), μ322))
def WP_X12_copy_W (w : mW) (μ : mM) (p1 : Int) (p2 : Int) (Q : mM → Prop) : Prop := ∀ f_x : Int, μ 126 ((40 * p1).toNat) = f_x → ((-2147483648 ≤ f_x ∧ f_x ≤ 2147483647) ∧ ((40 * p1) % 40 = 0 → -1 ≤ f_x ∧ f_x ≤ 9) ∧ ((40 * p1) % 40 = 4 → 0 ≤ f_x ∧ f_x ≤ 20) ∧ ((40 * p1) % 40 = 5 → 0 ≤ f_x ∧ f_x ≤ 8)) → ∀ μ177 : mM, mU μ 126 (((40 * p2) + 0).toNat) f_x μ177 → mT w μ177 → loopF (WL_X12_copy_W_1 w p1 p2 Q μ177) False 41 ((1 : Int), μ177)
set_option maxRecDepth 4000 in
set_option maxHeartbeats 4000000 in
theorem c_X12_copy_W {l : Launch} {D : va_G} {c : Nat → ClassId} {H0 : Heap} {sa : Nat × Nat × (Nat → Int32)} {w : mW} {μ : mM} (hw : mWF w) (hT : mT w μ) {p1 : Int} (hp1 : 0 ≤ p1 ∧ p1 ≤ 2099) {p2 : Int} (hp2 : 0 ≤ p2 ∧ p2 ≤ 2099) {f_x : Int} (q_f_x : μ 126 ((40 * p1).toNat) = f_x) (hq0 : p1 < p2 ∨ p2 < p1) {Q : mM → Prop} (hQ : WP_X12_copy_W w μ p1 p2 Q) : sC (gG l D c H0 sa) mX12_copy 1 0 0 [.ref 106, iv p1, iv p2] (mk w μ) (qV w [126999] μ (fun μ1 => ∃ o_x : Int, μ1 126 ((40 * p2).toNat) = o_x ∧ mG [((40 * p2), ((40 * p2) + 40))] μ μ1 ∧ (o_x = f_x) ∧ Q μ1 ∧ True)) := by
  refine sC.of rfl (by decide) (le_t rfl) ?_
  have ht_f_x := rt7 hT (A_126 hw) (vc_X12_copy_1 hp1) q_f_x
  have h1 : (-1) ≤ f_x ∧ f_x ≤ 9 := ht_f_x.2.1 (vc_X12_copy_2 hp1)
  refine mr_lvE (lv' := [(0, .ref 106), (1, iv p1), (2, iv p2)]) rfl ?_
  refine mr_iconst (pc := 0) (z := 0) dX12_copy_0 ?_
  refine mr_istore_n (pc := 1) (lv' := [(3, iv 0), (0, .ref 106), (1, iv p1), (2, iv p2)]) dX12_copy_1 rfl (by decide) rfl ?_
  refine mr_iload_n (pc := 2) (z := 0) dX12_copy_2 rfl rfl ?_
  refine mr_bipush (pc := 3) (z := 40) dX12_copy_3 (by decide) ?_
  refine mr_icmp_ge (pc := 5) (tgt := 36) dX12_copy_5 (by decide) (r32 (rR (x := 0)) rfl) (r32 (rR (x := 40)) rfl) (fun h => ((vc_X12_copy_3 h)).elim) (fun _ => ?_)
  refine sv_aload_n (pc := 8) dX12_copy_8 rfl rfl ?_
  refine gf_X12_32 (pc := 9) dX12_copy_9 wF_X12_148 (A_106 hw) hT ?_
  refine mr_bipush (pc := 12) (z := 40) dX12_copy_12 (by decide) ?_
  refine mr_iload_n (pc := 14) (z := p2) dX12_copy_14 rfl rfl ?_
  refine mr_imul (pc := 15) (x := 40) (y := p2) dX12_copy_15 ?_
  refine mr_iload_n (pc := 16) (z := 0) dX12_copy_16 rfl rfl ?_
  refine mr_iadd (pc := 17) (x := (40 * p2)) (y := 0) dX12_copy_17 ?_
  refine sv_aload_n (pc := 18) dX12_copy_18 rfl rfl ?_
  refine gf_X12_32 (pc := 19) dX12_copy_19 wF_X12_148 (A_106 hw) hT ?_
  refine mr_bipush (pc := 22) (z := 40) dX12_copy_22 (by decide) ?_
  refine mr_iload_n (pc := 24) (z := p1) dX12_copy_24 rfl rfl ?_
  refine mr_imul (pc := 25) (x := 40) (y := p1) dX12_copy_25 ?_
  refine mr_iload_n (pc := 26) (z := 0) dX12_copy_26 rfl rfl ?_
  refine mr_iadd (pc := 27) (x := (40 * p1)) (y := 0) dX12_copy_27 ?_
  refine lk_126 (pc := 28) dX12_copy_28 (A_126 hw) (rIx (n := 84000) (rAdd (e := 0) (f := 83960) (rMulL (n := 40) (e := 0) (f := 83960) hp1 rfl) (rR (x := 0)) rfl) rfl) (eqIx (vc_X12_copy_4 hp1) q_f_x) ?_
  refine ss_126 (pc := 29) dX12_copy_29 (A_126 hw) hT (rIx (n := 84000) (rAdd (e := 0) (f := 83960) (rMulL (n := 40) (e := 0) (f := 83960) hp2 rfl) (rR (x := 0)) rfl) rfl) (vc_X12_copy_5 hq0 h1 hp1 hp2) fun μ177 u178 T179 => ?_
  refine mr_iinc (pc := 30) (lv' := [(3, iv 1), (0, .ref 106), (1, iv p1), (2, iv p2)]) dX12_copy_30 rfl (by decide) rfl ?_
  refine sv_goto (pc := 33) (tgt := 2) dX12_copy_33 (by decide) ?_
  have L296 : ∀ (nL296 : Nat) (z294 : Int) (μ295 : mM) (f_y : Int), mT w μ295 → mF [126999] w μ177 μ295 → mG [((40 * p2), ((40 * p2) + 40))] μ177 μ295 → μ295 126 ((40 * p2).toNat) = f_y → (1 ≤ z294 ∧ z294 ≤ 40) → (f_y = f_x) → (41 - z294) < (nL296 : Int) → loopF (WL_X12_copy_W_1 w p1 p2 Q μ177) False nL296 (z294, μ295) → sV (gG l D c H0 sa) mX12_copy (sRm 1 0 0) (sZ (gG l D c H0 sa) 0 0 (qV w [126999] μ (fun μ1 => ∃ o_x : Int, μ1 126 ((40 * p2).toNat) = o_x ∧ mG [((40 * p2), ((40 * p2) + 40))] μ μ1 ∧ (o_x = f_x) ∧ Q μ1 ∧ True))) 2 [(0, .ref 106), (1, iv p1), (2, iv p2), (3, iv z294)] [] (mk w μ295) 0 0 := by
    intro nL296
    induction nL296 with
    | zero => intro z294 μ295 f_y T298 F299 G300 q304 h297 h301 h302 W303; exact ((vc_X12_copy_6 h302 h297)).elim
    | succ nL296 ih305 =>
      intro z294 μ295 f_y T298 F299 G300 q304 h297 h301 h302 W303
      have h306 := rt7 T298 (A_126 hw) (vc_X12_copy_7 hq0 hp1 hp2) q304
      have h307 : (-1) ≤ f_y ∧ f_y ≤ 9 := h306.2.1 (vc_X12_copy_8 hq0 hp1 hp2)
      refine mr_iload_n (pc := 2) (z := z294) dX12_copy_2 rfl rfl ?_
      refine mr_bipush (pc := 3) (z := 40) dX12_copy_3 (by decide) ?_
      refine mr_icmp_ge (pc := 5) (tgt := 36) dX12_copy_5 (by decide) (r32 h297 rfl) (r32 (rR (x := 40)) rfl) (fun h316 => ?_) (fun h316 => ?_)
      · have h317 : 40 ≤ z294 ∧ z294 ≤ 40 := (vc_X12_copy_9 h316 h297)
        exact mr_vret dX12_copy_36 rfl (le_t rfl) (le_t rfl) T298 (mF.call (mF.up mF.refl (A_126 hw) u178 rfl) F299 rfl) ⟨f_y, q304, (mG.call (mG.up mG.refl u178 List.mem_cons_self (vc_X12_copy_10 hq0 hp1 hp2)) G300 (List.forall_mem_cons.mpr ⟨⟨_, List.mem_cons_self, (vc_X12_copy_11 hq0 hp1 hp2)⟩, (fun _ h => absurd h List.not_mem_nil)⟩)), (vc_X12_copy_12 h301 h1 h307), (((W303 z294 μ295 rfl h297 T298 F299) f_y q304 h306).1 h316), trivial⟩
      have h318 : 1 ≤ z294 ∧ z294 ≤ 39 := (vc_X12_copy_13 h316 h297)
      refine sv_aload_n (pc := 8) dX12_copy_8 rfl rfl ?_
      refine gf_X12_32 (pc := 9) dX12_copy_9 wF_X12_148 (A_106 hw) T298 ?_
      refine mr_bipush (pc := 12) (z := 40) dX12_copy_12 (by decide) ?_
      refine mr_iload_n (pc := 14) (z := p2) dX12_copy_14 rfl rfl ?_
      refine mr_imul (pc := 15) (x := 40) (y := p2) dX12_copy_15 ?_
      refine mr_iload_n (pc := 16) (z := z294) dX12_copy_16 rfl rfl ?_
      refine mr_iadd (pc := 17) (x := (40 * p2)) (y := z294) dX12_copy_17 ?_
      refine sv_aload_n (pc := 18) dX12_copy_18 rfl rfl ?_
      refine gf_X12_32 (pc := 19) dX12_copy_19 wF_X12_148 (A_106 hw) T298 ?_
      refine mr_bipush (pc := 22) (z := 40) dX12_copy_22 (by decide) ?_
      refine mr_iload_n (pc := 24) (z := p1) dX12_copy_24 rfl rfl ?_
      refine mr_imul (pc := 25) (x := 40) (y := p1) dX12_copy_25 ?_
      refine mr_iload_n (pc := 26) (z := z294) dX12_copy_26 rfl rfl ?_
      refine mr_iadd (pc := 27) (x := (40 * p1)) (y := z294) dX12_copy_27 ?_
      refine la_126 (pc := 28) dX12_copy_28 (A_126 hw) T298 (rIx (n := 84000) (rAdd (e := 1) (f := 83999) (rMulL (n := 40) (e := 0) (f := 83960) hp1 rfl) h318 rfl) rfl) fun z319 q320 h321 => ?_
      refine ss_126 (pc := 29) dX12_copy_29 (A_126 hw) T298 (rIx (n := 84000) (rAdd (e := 1) (f := 83999) (rMulL (n := 40) (e := 0) (f := 83960) hp2 rfl) h318 rfl) rfl) (vc_X12_copy_14 hq0 h316 h321.2.1 h321.2.2.1 h321.2.2.2 hp1 hp2 h318 h321.1) fun μ322 u323 T324 => ?_
      refine mr_iinc (pc := 30) (lv' := [(3, iv (z294 + 1)), (0, .ref 106), (1, iv p1), (2, iv p2)]) dX12_copy_30 rfl (by decide) rfl ?_
      refine sv_goto (pc := 33) (tgt := 2) dX12_copy_33 (by decide) ?_
      refine mr_lvS (lv' := [(0, .ref 106), (1, iv p1), (2, iv p2), (3, iv (z294 + 1))]) (List.forall_mem_cons.mpr ⟨rfl, List.forall_mem_cons.mpr ⟨rfl, List.forall_mem_cons.mpr ⟨rfl, List.forall_mem_cons.mpr ⟨rfl, fun _ h => absurd h List.not_mem_nil⟩⟩⟩⟩) ?_
      exact ih305 (z294 + 1) μ322 f_y T324 (mF.up (mF.call mF.refl F299 rfl) (A_126 hw) u323 rfl) (mG.up (mG.call mG.refl G300 (List.forall_mem_cons.mpr ⟨⟨_, List.mem_cons_self, (vc_X12_copy_17 hq0 h321.2.1 h321.2.2.1 h321.2.2.2 hp1 hp2 h318 h321.1)⟩, (fun _ h => absurd h List.not_mem_nil)⟩)) u323 List.mem_cons_self (vc_X12_copy_18 hq0 h316 h321.2.1 h321.2.2.1 h321.2.2.2 hp1 hp2 h318 h321.1)) (u323.f (Or.inr (vc_X12_copy_15 hq0 h316 h321.2.1 h321.2.2.1 h321.2.2.2 hp1 hp2 h318 h321.1)) q304) (rW (c := 1) (d := 40) (rAdd (e := 2) (f := 40) h318 (rR (x := 1)) rfl) rfl) (vc_X12_copy_12 h301 h1 h307) (vc_X12_copy_16 (nS h302) h316 h321.2.1 h321.2.2.1 h321.2.2.2 hq0 hp1 hp2 h318 h321.1) (((((W303 z294 μ295 rfl h297 T298 F299) f_y q304 h306).2 h316) z319 q320 h321) μ322 u323 T324)
  refine mr_lvS (lv' := [(0, .ref 106), (1, iv p1), (2, iv p2), (3, iv 1)]) (List.forall_mem_cons.mpr ⟨rfl, List.forall_mem_cons.mpr ⟨rfl, List.forall_mem_cons.mpr ⟨rfl, List.forall_mem_cons.mpr ⟨rfl, fun _ h => absurd h List.not_mem_nil⟩⟩⟩⟩) ?_
  exact L296 41 1 μ177 f_x T179 mF.refl mG.refl (eqIx (vc_X12_copy_19 hp2) u178.1) (rW (c := 1) (d := 40) (rR (x := 1)) rfl) (vc_X12_copy_20 h1) vc_X12_copy_21 ((hQ f_x q_f_x ht_f_x) μ177 u178 T179)
def WJ_X8_cancel_W_2 (w : mW) (Q : mM → Prop) (μ6 : mM) (z249 : Int) (z258 : Int) : Prop := ((z258 ≤ z249) → Q μ6) ∧ ((z249 < z258) → ∀ μ282 : mM, mU μ6 32 (10) (z258 - 1) μ282 → mT w μ282 → ∀ μ285 : mM, mQ μ282 33 33 (z249 + 1) z249 ((z258 - 1) - z249) μ285 → mT w μ285 → Q μ285)
def WL_X8_cancel_W_1 (w : mW) (p1 : Int) (Q : mM → Prop) (μ6 : mM) (rec1 : (Int) → Prop) (s : (Int)) : Prop := ∀ z249 : Int, s = (z249) → (0 ≤ z249 ∧ z249 ≤ 800) → ∀ z258 : Int, μ6 32 10 = z258 → (0 ≤ z258 ∧ z258 ≤ 800 ∧ (z258 = 0 ∨ 0 < w.2.2.2 1)) → ((z258 ≤ z249) → (WJ_X8_cancel_W_2 w Q μ6 z249 z258) ) ∧ ((z249 < z258) → ∀ z292 : Int, μ6 33 (z249.toNat) = z292 → (0 ≤ z292 ∧ z292 ≤ 799 ∧ (z292 = 0 ∨ z292 < 40 * w.2.2.2 1)) → ((z292 = p1) → (WJ_X8_cancel_W_2 w Q μ6 z249 z258) ) ∧ ((¬ z292 = p1) → rec1 ((z249 + 1))))
def WP_X8_cancel_W (w : mW) (μ : mM) (p1 : Int) (Q : mM → Prop) : Prop := ∀ z1 : Int, μ 34 (p1.toNat) = z1 → ((-1) ≤ z1 ∧ z1 ≤ 2000001000) → ((¬ z1 = (-1)) → ∀ μ6 : mM, mU μ 34 (p1.toNat) ((-1) : Int) μ6 → mT w μ6 → loopF (WL_X8_cancel_W_1 w p1 Q μ6) False 802 ((0 : Int))) ∧ ((z1 = (-1)) → Q μ)
theorem vc_X8_cancel_W_1 {z1 : Int} (h0 : ¬ z1 = (-1)) (h1 : (-1) ≤ z1 ∧ z1 ≤ 2000001000) : 0 ≤ z1 ∧ z1 ≤ 2000001000 := by omega
theorem vc_X8_cancel_W_2 {z249 : Int} (h0 : (801 - z249) < ((0 : Nat) : Int)) (h1 : 0 ≤ z249 ∧ z249 ≤ 800) : False := by omega
theorem vc_X8_cancel_W_3 {n1 z249 z258 : Int} (h0 : z249 < z258) (h1 : (z258 = 0 ∨ 0 < n1)) (h2 : 0 ≤ z249 ∧ z249 ≤ 800) (h3 : 0 ≤ z258 ∧ z258 ≤ 800) : 0 ≤ z249 ∧ z249 ≤ 799 := by omega
theorem vc_X8_cancel_W_4 {n1 z249 z258 : Int} (h0 : z249 < z258) (h1 : (z258 = 0 ∨ 0 < n1)) (h2 : 0 ≤ z249 ∧ z249 ≤ 799) (h3 : 0 ≤ z258 ∧ z258 ≤ 800) : 1 ≤ z258 ∧ z258 ≤ 800 := by omega
theorem vc_X8_cancel_W_5 {n1 z249 z258 : Int} (h0 : (z258 = 0 ∨ 0 < n1)) (h1 : z249 < z258) (h2 : 0 ≤ z249 ∧ z249 ≤ 799) (h3 : 1 ≤ z258 ∧ z258 ≤ 800) : 0 ≤ (z258 - 1) ∧ (z258 - 1) ≤ 800 ∧ ((z258 - 1) = 0 ∨ 0 < n1) := by omega
theorem vc_X8_cancel_W_6 {n1 z249 z258 : Int} (h0 : z249 < z258) (h1 : (z258 = 0 ∨ 0 < n1)) (h2 : 0 ≤ z249 ∧ z249 ≤ 799) (h3 : 1 ≤ z258 ∧ z258 ≤ 800) : 0 ≤ (z249 + 1) := by omega
theorem vc_X8_cancel_W_7 {n1 z249 z258 : Int} (h0 : z249 < z258) (h1 : (z258 = 0 ∨ 0 < n1)) (h2 : 0 ≤ z249 ∧ z249 ≤ 799) (h3 : 1 ≤ z258 ∧ z258 ≤ 800) : 0 ≤ z249 := by omega
theorem vc_X8_cancel_W_8 {n1 z249 z258 : Int} (h0 : (z258 = 0 ∨ 0 < n1)) (h1 : z249 < z258) (h2 : 0 ≤ z249 ∧ z249 ≤ 799) (h3 : 1 ≤ z258 ∧ z258 ≤ 800) : 0 ≤ ((z258 - 1) - z249) := by omega
theorem vc_X8_cancel_W_9 {n1 z249 z258 : Int} (h0 : (z258 = 0 ∨ 0 < n1)) (h1 : z249 < z258) (h2 : 0 ≤ z249 ∧ z249 ≤ 799) (h3 : 1 ≤ z258 ∧ z258 ≤ 800) : (z249 + 1) + ((z258 - 1) - z249) ≤ ((800 : Nat) : Int) := by omega
theorem vc_X8_cancel_W_10 {n1 z249 z258 : Int} (h0 : (z258 = 0 ∨ 0 < n1)) (h1 : z249 < z258) (h2 : 0 ≤ z249 ∧ z249 ≤ 799) (h3 : 1 ≤ z258 ∧ z258 ≤ 800) : z249 + ((z258 - 1) - z249) ≤ ((800 : Nat) : Int) := by omega
theorem vc_X8_cancel_W_11 {N n1 z249 z258 : Int} (h0 : (801 - z249) < N + 1) (h1 : z249 < z258) (h2 : (z258 = 0 ∨ 0 < n1)) (h3 : 0 ≤ z249 ∧ z249 ≤ 799) (h4 : 1 ≤ z258 ∧ z258 ≤ 800) : (801 - (z249 + 1)) < N := by omega
theorem vc_X8_cancel_W_12  : (801 - 0) < ((802 : Nat) : Int) := by omega
theorem vc_X8_cancel_W_13 {z1 : Int} (h0 : z1 = (-1)) (h1 : (-1) ≤ z1 ∧ z1 ≤ 2000001000) : (-1) ≤ z1 ∧ z1 ≤ (-1) := by omega
set_option maxRecDepth 4000 in
set_option maxHeartbeats 4000000 in
theorem c_X8_cancel_W {l : Launch} {D : va_G} {c : Nat → ClassId} {H0 : Heap} {sa : Nat × Nat × (Nat → Int32)} {w : mW} {μ : mM} (hw : mWF w) (hT : mT w μ) {p1 : Int} (hp1 : 0 ≤ p1 ∧ p1 ≤ 799) {Q : mM → Prop} (hQ : WP_X8_cancel_W w μ p1 Q) : sC (gG l D c H0 sa) mX8_cancel 3 0 0 [.ref 32, iv p1] (mk w μ) (qV w [32010, 33999, 34999] μ (fun μ1 => Q μ1 ∧ True)) := by
  refine sC.of rfl (by decide) (le_t rfl) ?_
  refine mr_lvE (lv' := [(0, .ref 32), (1, iv p1)]) rfl ?_
  refine sv_aload_n (pc := 0) dX8_cancel_0 rfl rfl ?_
  refine gf_X8_3 (pc := 1) dX8_cancel_1 wF_X8_23 (A_32 hw) hT ?_
  refine mr_iload_n (pc := 4) (z := p1) dX8_cancel_4 rfl rfl ?_
  refine la_34 (pc := 5) dX8_cancel_5 (A_34 hw) hT (rIx (n := 800) hp1 rfl) fun z1 q2 h3 => ?_
  refine mr_iconst (pc := 6) (z := (-1)) dX8_cancel_6 ?_
  refine mr_icmp_ne (pc := 7) (tgt := 11) dX8_cancel_7 (by decide) (r32 h3 rfl) (r32 (rR (x := (-1))) rfl) (fun h4 => ?_) (fun h4 => ?_)
  · have h5 : 0 ≤ z1 ∧ z1 ≤ 2000001000 := (vc_X8_cancel_W_1 h4 h3)
    refine sv_aload_n (pc := 11) dX8_cancel_11 rfl rfl ?_
    refine gf_X8_3 (pc := 12) dX8_cancel_12 wF_X8_23 (A_32 hw) hT ?_
    refine mr_iload_n (pc := 15) (z := p1) dX8_cancel_15 rfl rfl ?_
    refine mr_iconst (pc := 16) (z := (-1)) dX8_cancel_16 ?_
    refine ss_34 (pc := 17) dX8_cancel_17 (A_34 hw) hT (rIx (n := 800) hp1 rfl) (rW (c := (-1)) (d := 2000001000) (rR (x := (-1))) rfl) fun μ6 u7 T8 => ?_
    refine mr_iconst (pc := 18) (z := 0) dX8_cancel_18 ?_
    refine mr_istore_n (pc := 19) (lv' := [(2, iv 0), (0, .ref 32), (1, iv p1)]) dX8_cancel_19 rfl (by decide) rfl ?_
    have L250 : ∀ (nL250 : Nat) (z249 : Int), True → (0 ≤ z249 ∧ z249 ≤ 800) → (801 - z249) < (nL250 : Int) → loopF (WL_X8_cancel_W_1 w p1 Q μ6) False nL250 (z249) → sV (gG l D c H0 sa) mX8_cancel (sRm 3 0 0) (sZ (gG l D c H0 sa) 0 0 (qV w [32010, 33999, 34999] μ (fun μ1 => Q μ1 ∧ True))) 20 [(0, .ref 32), (1, iv p1), (2, iv z249)] [] (mk w μ6) 0 0 := by
      intro nL250
      induction nL250 with
      | zero => intro z249 _ h251 h255 W256; exact ((vc_X8_cancel_W_2 h255 h251)).elim
      | succ nL250 ih257 =>
        intro z249 _ h251 h255 W256
        refine mr_iload_n (pc := 20) (z := z249) dX8_cancel_20 rfl rfl ?_
        refine sv_aload_n (pc := 21) dX8_cancel_21 rfl rfl ?_
        refine gf_X8_10 (pc := 22) dX8_cancel_22 wF_X8_52 (A_32 hw) T8 fun z258 q259 h260 => ?_
        have h261 : 0 ≤ z258 ∧ z258 ≤ 800 := ⟨h260.1, h260.2.1⟩
        have J268 : ((WJ_X8_cancel_W_2 w Q μ6 z249 z258) ) → sV (gG l D c H0 sa) mX8_cancel (sRm 3 0 0) (sZ (gG l D c H0 sa) 0 0 (qV w [32010, 33999, 34999] μ (fun μ1 => Q μ1 ∧ True))) 44 [(0, .ref 32), (2, iv z249)] [] (mk w μ6) 0 0 := by
          intro W269
          refine mr_iload_n (pc := 44) (z := z249) dX8_cancel_44 rfl rfl ?_
          refine sv_aload_n (pc := 45) dX8_cancel_45 rfl rfl ?_
          refine gk_X8_10 (pc := 46) dX8_cancel_46 wF_X8_52 (A_32 hw) q259 ?_
          refine mr_icmp_ge (pc := 49) (tgt := 83) dX8_cancel_49 (by decide) (r32 h251 rfl) (r32 h261 rfl) (fun h279 => ?_) (fun h279 => ?_)
          · exact mr_vret dX8_cancel_83 rfl (le_t rfl) (le_t rfl) T8 (mF.up mF.refl (A_34 hw) u7 rfl) ⟨((W269).1 h279), trivial⟩
          have h280 : 0 ≤ z249 ∧ z249 ≤ 799 := (vc_X8_cancel_W_3 h279 h260.2.2 h251 h261)
          have h281 : 1 ≤ z258 ∧ z258 ≤ 800 := (vc_X8_cancel_W_4 h279 h260.2.2 h280 h261)
          refine sv_aload_n (pc := 52) dX8_cancel_52 rfl rfl ?_
          refine sv_dup (pc := 53) dX8_cancel_53 rfl ?_
          refine gk_X8_10 (pc := 54) dX8_cancel_54 wF_X8_52 (A_32 hw) q259 ?_
          refine mr_iconst (pc := 57) (z := 1) dX8_cancel_57 ?_
          refine mr_isub (pc := 58) (x := z258) (y := 1) dX8_cancel_58 ?_
          refine pf_X8_10 (pc := 59) dX8_cancel_59 wF_X8_52 (A_32 hw) T8 (vc_X8_cancel_W_5 h260.2.2 h279 h280 h281) fun μ282 u283 T284 => ?_
          refine sv_aload_n (pc := 62) dX8_cancel_62 rfl rfl ?_
          refine gf_X8_2 (pc := 63) dX8_cancel_63 wF_X8_19 (A_32 hw) T284 ?_
          refine mr_iload_n (pc := 66) (z := z249) dX8_cancel_66 rfl rfl ?_
          refine mr_iconst (pc := 67) (z := 1) dX8_cancel_67 ?_
          refine mr_iadd (pc := 68) (x := z249) (y := 1) dX8_cancel_68 ?_
          refine sv_aload_n (pc := 69) dX8_cancel_69 rfl rfl ?_
          refine gf_X8_2 (pc := 70) dX8_cancel_70 wF_X8_19 (A_32 hw) T284 ?_
          refine mr_iload_n (pc := 73) (z := z249) dX8_cancel_73 rfl rfl ?_
          refine sv_aload_n (pc := 74) dX8_cancel_74 rfl rfl ?_
          refine gk_X8_10 (pc := 75) dX8_cancel_75 wF_X8_52 (A_32 hw) u283.1 ?_
          refine mr_iload_n (pc := 78) (z := z249) dX8_cancel_78 rfl rfl ?_
          refine mr_isub (pc := 79) (x := (z258 - 1)) (y := z249) dX8_cancel_79 ?_
          refine mr_ac (pc := 80) (sp := (z249 + 1)) (dp := z249) (n := ((z258 - 1) - z249)) dX8_cancel_80 wM_X8_56 wN_J_ac wS_J_ac wI_J_sys rfl (A_33 hw) rfl (A_33 hw) rfl (vc_X8_cancel_W_6 h279 h260.2.2 h280 h281) (vc_X8_cancel_W_7 h279 h260.2.2 h280 h281) (vc_X8_cancel_W_8 h260.2.2 h279 h280 h281) (by have h := (A_33 hw).2.2.2 rfl; rw [h]; exact (vc_X8_cancel_W_9 h260.2.2 h279 h280 h281)) (by have h := (A_33 hw).2.2.2 rfl; rw [h]; exact (vc_X8_cancel_W_10 h260.2.2 h279 h280 h281)) (Nat.le_trans (A_33 hw).2.2.1 (le_t rfl)) (Nat.le_trans (A_33 hw).2.2.1 (le_t rfl)) (le_t rfl) (le_t rfl) (le_t rfl) T284 (fun i j _ _ => (show (0 ≤ (μ282 33 i) ∧ (μ282 33 i) ≤ 799 ∧ ((μ282 33 i) = 0 ∨ (μ282 33 i) < 40 * w.2.2.2 1)) from T284 _ _ (A_33 hw) i)) fun μ285 q286 T287 => ?_
          have F288 : mF [33999] w μ282 μ285 := mF.cell q286.1 (A_33 hw) rfl
          exact mr_vret dX8_cancel_83 rfl (le_t rfl) (le_t rfl) T287 (mF.call (mF.up (mF.up mF.refl (A_34 hw) u7 rfl) (A_32 hw) u283 rfl) F288 rfl) ⟨((((W269).2 h279) μ282 u283 T284) μ285 q286 T287), trivial⟩
        refine mr_icmp_ge (pc := 25) (tgt := 44) dX8_cancel_25 (by decide) (r32 h251 rfl) (r32 h261 rfl) (fun h289 => ?_) (fun h289 => ?_)
        · refine mr_lvS (lv' := [(0, .ref 32), (2, iv z249)]) (List.forall_mem_cons.mpr ⟨rfl, List.forall_mem_cons.mpr ⟨rfl, fun _ h => absurd h List.not_mem_nil⟩⟩) ?_
          exact J268 (((W256 z249 rfl h251) z258 q259 h260).1 h289)
        have h290 : 0 ≤ z249 ∧ z249 ≤ 799 := (vc_X8_cancel_W_3 h289 h260.2.2 h251 h261)
        have h291 : 1 ≤ z258 ∧ z258 ≤ 800 := (vc_X8_cancel_W_4 h289 h260.2.2 h290 h261)
        refine sv_aload_n (pc := 28) dX8_cancel_28 rfl rfl ?_
        refine gf_X8_2 (pc := 29) dX8_cancel_29 wF_X8_19 (A_32 hw) T8 ?_
        refine mr_iload_n (pc := 32) (z := z249) dX8_cancel_32 rfl rfl ?_
        refine la_33 (pc := 33) dX8_cancel_33 (A_33 hw) T8 (rIx (n := 800) h290 rfl) fun z292 q293 h294 => ?_
        have h295 : 0 ≤ z292 ∧ z292 ≤ 799 := ⟨h294.1, h294.2.1⟩
        refine mr_iload_n (pc := 34) (z := p1) dX8_cancel_34 rfl rfl ?_
        refine mr_icmp_eq (pc := 35) (tgt := 44) dX8_cancel_35 (by decide) (r32 h295 rfl) (r32 hp1 rfl) (fun h296 => ?_) (fun h296 => ?_)
        · refine mr_lvS (lv' := [(0, .ref 32), (2, iv z249)]) (List.forall_mem_cons.mpr ⟨rfl, List.forall_mem_cons.mpr ⟨rfl, fun _ h => absurd h List.not_mem_nil⟩⟩) ?_
          exact J268 (((((W256 z249 rfl h251) z258 q259 h260).2 h289) z292 q293 h294).1 h296)
        refine mr_iinc (pc := 38) (lv' := [(2, iv (z249 + 1)), (0, .ref 32), (1, iv p1)]) dX8_cancel_38 rfl (by decide) rfl ?_
        refine sv_goto (pc := 41) (tgt := 20) dX8_cancel_41 (by decide) ?_
        refine mr_lvS (lv' := [(0, .ref 32), (1, iv p1), (2, iv (z249 + 1))]) (List.forall_mem_cons.mpr ⟨rfl, List.forall_mem_cons.mpr ⟨rfl, List.forall_mem_cons.mpr ⟨rfl, fun _ h => absurd h List.not_mem_nil⟩⟩⟩) ?_
        exact ih257 (z249 + 1) trivial (rW (c := 0) (d := 800) (rAdd (e := 1) (f := 800) h290 (rR (x := 1)) rfl) rfl) (vc_X8_cancel_W_11 (nS h255) h289 h260.2.2 h290 h291) (((((W256 z249 rfl h251) z258 q259 h260).2 h289) z292 q293 h294).2 h296)
    refine mr_lvS (lv' := [(0, .ref 32), (1, iv p1), (2, iv 0)]) (List.forall_mem_cons.mpr ⟨rfl, List.forall_mem_cons.mpr ⟨rfl, List.forall_mem_cons.mpr ⟨rfl, fun _ h => absurd h List.not_mem_nil⟩⟩⟩) ?_
    exact L250 802 0 trivial (rW (c := 0) (d := 800) (rR (x := 0)) rfl) vc_X8_cancel_W_12 (((hQ z1 q2 h3).1 h4) μ6 u7 T8)
  have h297 : (-1) ≤ z1 ∧ z1 ≤ (-1) := (vc_X8_cancel_W_13 h4 h3)
  exact mr_vret dX8_cancel_10 rfl (le_t rfl) (le_t rfl) hT mF.refl ⟨((hQ z1 q2 h3).2 h4), trivial⟩
def WJ_X8_schedule_W_2 (w : mW) (μ : mM) (p1 : Int) (p2 : Int) (Q : mM → Prop) (z1 : Int) (z221 : Int) : Prop := ∀ μ244 : mM, mQ μ 33 33 z221 (z221 + 1) (z1 - z221) μ244 → mT w μ244 → ∀ μ248 : mM, mU μ244 33 (z221.toNat) p1 μ248 → mT w μ248 → ∀ μ251 : mM, mU μ248 34 (p1.toNat) p2 μ251 → mT w μ251 → ∀ μ254 : mM, mU μ251 32 (10) (z1 + 1) μ254 → mT w μ254 → Q μ254
def WL_X8_schedule_W_1 (w : mW) (μ : mM) (p1 : Int) (p2 : Int) (Q : mM → Prop) (z1 : Int) (rec1 : (Int) → Prop) (s : (Int)) : Prop := ∀ z221 : Int, s = (z221) → (0 ≤ z221 ∧ z221 ≤ 799) → ((z221 ≤ 0) → (WJ_X8_schedule_W_2 w μ p1 p2 Q z1 z221) ) ∧ ((0 < z221) → ∀ z260 : Int, μ 33 ((z221 - 1).toNat) = z260 → (0 ≤ z260 ∧ z260 ≤ 799 ∧ (z260 = 0 ∨ z260 < 40 * w.2.2.2 1)) → ∀ z264 : Int, μ 34 (z260.toNat) = z264 → ((-1) ≤ z264 ∧ z264 ≤ 2000001000) → ((z264 ≤ p2) → (WJ_X8_schedule_W_2 w μ p1 p2 Q z1 z221) ) ∧ ((p2 < z264) → rec1 ((z221 + (-1)))))
def WP_X8_schedule_W (w : mW) (μ : mM) (p1 : Int) (p2 : Int) (Q : mM → Prop) : Prop := ∀ z1 : Int, μ 32 10 = z1 → (0 ≤ z1 ∧ z1 ≤ 800 ∧ (z1 = 0 ∨ 0 < w.2.2.2 1)) → ((z1 < 800) → loopF (WL_X8_schedule_W_1 w μ p1 p2 Q z1) False 801 (z1)) ∧ ((800 ≤ z1) → Q μ)
theorem vc_X8_schedule_W_1 {n1 z1 : Int} (h0 : z1 < 800) (h1 : (z1 = 0 ∨ 0 < n1)) (h2 : 0 ≤ z1 ∧ z1 ≤ 800) : 0 ≤ z1 ∧ z1 ≤ 799 := by omega
theorem vc_X8_schedule_W_2 {n1 z1 z221 : Int} (h0 : (z221 - (-1)) < ((0 : Nat) : Int)) (h1 : z221 ≤ z1) (h2 : (z1 = 0 ∨ 0 < n1)) (h3 : z1 < 800) (h4 : 0 ≤ z1 ∧ z1 ≤ 799) (h5 : 0 ≤ z221 ∧ z221 ≤ 799) : False := by omega
theorem vc_X8_schedule_W_3 {n1 z1 z221 : Int} (h0 : z221 ≤ z1) (h1 : (z1 = 0 ∨ 0 < n1)) (h2 : z1 < 800) (h3 : 0 ≤ z1 ∧ z1 ≤ 799) (h4 : 0 ≤ z221 ∧ z221 ≤ 799) : 0 ≤ z221 := by omega
theorem vc_X8_schedule_W_4 {n1 z1 z221 : Int} (h0 : z221 ≤ z1) (h1 : (z1 = 0 ∨ 0 < n1)) (h2 : z1 < 800) (h3 : 0 ≤ z1 ∧ z1 ≤ 799) (h4 : 0 ≤ z221 ∧ z221 ≤ 799) : 0 ≤ (z221 + 1) := by omega
theorem vc_X8_schedule_W_5 {n1 p1 z1 z221 : Int} (h0 : (z1 = 0 ∨ 0 < n1)) (h1 : z1 < 800) (h2 : z221 ≤ z1) (h3 : p1 < 40 * n1) (h4 : 0 ≤ p1 ∧ p1 ≤ 799) (h5 : 0 ≤ z1 ∧ z1 ≤ 799) (h6 : 0 ≤ z221 ∧ z221 ≤ 799) : 0 ≤ (z1 - z221) := by omega
theorem vc_X8_schedule_W_6 {n1 p1 z1 z221 : Int} (h0 : (z1 = 0 ∨ 0 < n1)) (h1 : z1 < 800) (h2 : z221 ≤ z1) (h3 : p1 < 40 * n1) (h4 : 0 ≤ p1 ∧ p1 ≤ 799) (h5 : 0 ≤ z1 ∧ z1 ≤ 799) (h6 : 0 ≤ z221 ∧ z221 ≤ 799) : z221 + (z1 - z221) ≤ ((800 : Nat) : Int) := by omega
theorem vc_X8_schedule_W_7 {n1 p1 z1 z221 : Int} (h0 : (z1 = 0 ∨ 0 < n1)) (h1 : z1 < 800) (h2 : z221 ≤ z1) (h3 : p1 < 40 * n1) (h4 : 0 ≤ p1 ∧ p1 ≤ 799) (h5 : 0 ≤ z1 ∧ z1 ≤ 799) (h6 : 0 ≤ z221 ∧ z221 ≤ 799) : (z221 + 1) + (z1 - z221) ≤ ((800 : Nat) : Int) := by omega
theorem vc_X8_schedule_W_8 {n1 p1 z1 z221 : Int} (h0 : (z1 = 0 ∨ 0 < n1)) (h1 : p1 < 40 * n1) (h2 : z1 < 800) (h3 : z221 ≤ z1) (h4 : 0 ≤ p1 ∧ p1 ≤ 799) (h5 : 0 ≤ z1 ∧ z1 ≤ 799) (h6 : 0 ≤ z221 ∧ z221 ≤ 799) : 0 ≤ p1 ∧ p1 ≤ 799 ∧ (p1 = 0 ∨ p1 < 40 * n1) := by omega
theorem vc_X8_schedule_W_9 {n1 p1 z1 z221 : Int} (h0 : (z1 = 0 ∨ 0 < n1)) (h1 : p1 < 40 * n1) (h2 : z1 < 800) (h3 : z221 ≤ z1) (h4 : 0 ≤ p1 ∧ p1 ≤ 799) (h5 : 0 ≤ z1 ∧ z1 ≤ 799) (h6 : 0 ≤ z221 ∧ z221 ≤ 799) : 0 ≤ (z1 + 1) ∧ (z1 + 1) ≤ 800 ∧ ((z1 + 1) = 0 ∨ 0 < n1) := by omega
theorem vc_X8_schedule_W_10 {z1 z221 : Int} (h0 : z221 ≤ 0) (h1 : z221 ≤ z1) (h2 : 0 ≤ z1 ∧ z1 ≤ 799) (h3 : 0 ≤ z221 ∧ z221 ≤ 799) : 0 ≤ z221 ∧ z221 ≤ 0 := by omega
theorem vc_X8_schedule_W_11 {z1 z221 : Int} (h0 : 0 < z221) (h1 : z221 ≤ z1) (h2 : 0 ≤ z1 ∧ z1 ≤ 799) (h3 : 0 ≤ z221 ∧ z221 ≤ 799) : 1 ≤ z221 ∧ z221 ≤ 799 := by omega
theorem vc_X8_schedule_W_12 {p2 z264 : Int} (h0 : p2 < z264) (h1 : (-1) ≤ p2 ∧ p2 ≤ 2000001000) (h2 : (-1) ≤ z264 ∧ z264 ≤ 2000001000) : 0 ≤ z264 ∧ z264 ≤ 2000001000 := by omega
theorem vc_X8_schedule_W_13 {p2 z264 : Int} (h0 : p2 < z264) (h1 : (-1) ≤ p2 ∧ p2 ≤ 2000001000) (h2 : 0 ≤ z264 ∧ z264 ≤ 2000001000) : (-1) ≤ p2 ∧ p2 ≤ 2000000999 := by omega
theorem vc_X8_schedule_W_14 {n1 p1 z1 z221 z260 : Int} (h0 : (z1 = 0 ∨ 0 < n1)) (h1 : z1 < 800) (h2 : z221 ≤ z1) (h3 : 0 < z221) (h4 : p1 < 40 * n1) (h5 : (z260 = 0 ∨ z260 < 40 * n1)) (h6 : 0 ≤ p1 ∧ p1 ≤ 799) (h7 : 0 ≤ z1 ∧ z1 ≤ 799) (h8 : 1 ≤ z221 ∧ z221 ≤ 799) (h9 : 0 ≤ z260 ∧ z260 ≤ 799) : (z221 + (-1)) ≤ z1 := by omega
theorem vc_X8_schedule_W_15 {N n1 z1 z221 : Int} (h0 : (z221 - (-1)) < N + 1) (h1 : z221 ≤ z1) (h2 : 0 < z221) (h3 : (z1 = 0 ∨ 0 < n1)) (h4 : z1 < 800) (h5 : 0 ≤ z1 ∧ z1 ≤ 799) (h6 : 1 ≤ z221 ∧ z221 ≤ 799) : ((z221 + (-1)) - (-1)) < N := by omega
theorem vc_X8_schedule_W_16 {n1 p1 z1 : Int} (h0 : (z1 = 0 ∨ 0 < n1)) (h1 : z1 < 800) (h2 : p1 < 40 * n1) (h3 : 0 ≤ p1 ∧ p1 ≤ 799) (h4 : 0 ≤ z1 ∧ z1 ≤ 799) : z1 ≤ z1 := by omega
theorem vc_X8_schedule_W_17 {n1 p1 z1 : Int} (h0 : (z1 = 0 ∨ 0 < n1)) (h1 : z1 < 800) (h2 : p1 < 40 * n1) (h3 : 0 ≤ p1 ∧ p1 ≤ 799) (h4 : 0 ≤ z1 ∧ z1 ≤ 799) : (z1 - (-1)) < ((801 : Nat) : Int) := by omega
theorem vc_X8_schedule_W_18 {n1 z1 : Int} (h0 : 800 ≤ z1) (h1 : (z1 = 0 ∨ 0 < n1)) (h2 : 0 ≤ z1 ∧ z1 ≤ 800) : 800 ≤ z1 ∧ z1 ≤ 800 := by omega
set_option maxRecDepth 4000 in
set_option maxHeartbeats 4000000 in
theorem c_X8_schedule_W {l : Launch} {D : va_G} {c : Nat → ClassId} {H0 : Heap} {sa : Nat × Nat × (Nat → Int32)} {w : mW} {μ : mM} (hw : mWF w) (hT : mT w μ) {p1 : Int} (hp1 : 0 ≤ p1 ∧ p1 ≤ 799) {p2 : Int} (hp2 : (-1) ≤ p2 ∧ p2 ≤ 2000001000) (hq0 : p1 < 40 * w.2.2.2 1) {Q : mM → Prop} (hQ : WP_X8_schedule_W w μ p1 p2 Q) : sC (gG l D c H0 sa) mX8_schedule 3 0 0 [.ref 32, iv p1, iv p2] (mk w μ) (qV w [32010, 33999, 34999] μ (fun μ1 => Q μ1 ∧ True)) := by
  refine sC.of rfl (by decide) (le_t rfl) ?_
  obtain ⟨z1, q2⟩ : ∃ z, μ 32 10 = z := ⟨_, rfl⟩
  have h3 : (0 ≤ z1 ∧ z1 ≤ 800 ∧ (z1 = 0 ∨ 0 < w.2.2.2 1)) := by rw [← q2]; exact hT 32 32 (A_32 hw) 10
  have h4 : 0 ≤ z1 ∧ z1 ≤ 800 := ⟨h3.1, h3.2.1⟩
  refine mr_lvE (lv' := [(0, .ref 32), (1, iv p1), (2, iv p2)]) rfl ?_
  refine sv_aload_n (pc := 0) dX8_schedule_0 rfl rfl ?_
  refine gk_X8_10 (pc := 1) dX8_schedule_1 wF_X8_52 (A_32 hw) q2 ?_
  refine mr_sipush (pc := 4) (z := 800) dX8_schedule_4 (by decide) ?_
  refine mr_icmp_lt (pc := 7) (tgt := 11) dX8_schedule_7 (by decide) (r32 h4 rfl) (r32 (rR (x := 800)) rfl) (fun h167 => ?_) (fun h167 => ?_)
  · have h168 : 0 ≤ z1 ∧ z1 ≤ 799 := (vc_X8_schedule_W_1 h167 h3.2.2 h4)
    refine sv_aload_n (pc := 11) dX8_schedule_11 rfl rfl ?_
    refine gk_X8_10 (pc := 12) dX8_schedule_12 wF_X8_52 (A_32 hw) q2 ?_
    refine mr_istore_n (pc := 15) (lv' := [(3, iv z1), (0, .ref 32), (1, iv p1), (2, iv p2)]) dX8_schedule_15 rfl (by decide) rfl ?_
    have L222 : ∀ (nL222 : Nat) (z221 : Int), True → (0 ≤ z221 ∧ z221 ≤ 799) → (z221 ≤ z1) → (z221 - (-1)) < (nL222 : Int) → loopF (WL_X8_schedule_W_1 w μ p1 p2 Q z1) False nL222 (z221) → sV (gG l D c H0 sa) mX8_schedule (sRm 3 0 0) (sZ (gG l D c H0 sa) 0 0 (qV w [32010, 33999, 34999] μ (fun μ1 => Q μ1 ∧ True))) 16 [(0, .ref 32), (1, iv p1), (2, iv p2), (3, iv z221)] [] (mk w μ) 0 0 := by
      intro nL222
      induction nL222 with
      | zero => intro z221 _ h223 h227 h228 W229; exact ((vc_X8_schedule_W_2 h228 h227 h3.2.2 h167 h168 h223)).elim
      | succ nL222 ih230 =>
        intro z221 _ h223 h227 h228 W229
        refine mr_iload_n (pc := 16) (z := z221) dX8_schedule_16 rfl rfl ?_
        have J242 : ((WJ_X8_schedule_W_2 w μ p1 p2 Q z1 z221) ) → sV (gG l D c H0 sa) mX8_schedule (sRm 3 0 0) (sZ (gG l D c H0 sa) 0 0 (qV w [32010, 33999, 34999] μ (fun μ1 => Q μ1 ∧ True))) 43 [(0, .ref 32), (1, iv p1), (2, iv p2), (3, iv z221)] [] (mk w μ) 0 0 := by
          intro W243
          refine sv_aload_n (pc := 43) dX8_schedule_43 rfl rfl ?_
          refine gf_X8_2 (pc := 44) dX8_schedule_44 wF_X8_19 (A_32 hw) hT ?_
          refine mr_iload_n (pc := 47) (z := z221) dX8_schedule_47 rfl rfl ?_
          refine sv_aload_n (pc := 48) dX8_schedule_48 rfl rfl ?_
          refine gf_X8_2 (pc := 49) dX8_schedule_49 wF_X8_19 (A_32 hw) hT ?_
          refine mr_iload_n (pc := 52) (z := z221) dX8_schedule_52 rfl rfl ?_
          refine mr_iconst (pc := 53) (z := 1) dX8_schedule_53 ?_
          refine mr_iadd (pc := 54) (x := z221) (y := 1) dX8_schedule_54 ?_
          refine sv_aload_n (pc := 55) dX8_schedule_55 rfl rfl ?_
          refine gk_X8_10 (pc := 56) dX8_schedule_56 wF_X8_52 (A_32 hw) q2 ?_
          refine mr_iload_n (pc := 59) (z := z221) dX8_schedule_59 rfl rfl ?_
          refine mr_isub (pc := 60) (x := z1) (y := z221) dX8_schedule_60 ?_
          refine mr_ac (pc := 61) (sp := z221) (dp := (z221 + 1)) (n := (z1 - z221)) dX8_schedule_61 wM_X8_56 wN_J_ac wS_J_ac wI_J_sys rfl (A_33 hw) rfl (A_33 hw) rfl (vc_X8_schedule_W_3 h227 h3.2.2 h167 h168 h223) (vc_X8_schedule_W_4 h227 h3.2.2 h167 h168 h223) (vc_X8_schedule_W_5 h3.2.2 h167 h227 hq0 hp1 h168 h223) (by have h := (A_33 hw).2.2.2 rfl; rw [h]; exact (vc_X8_schedule_W_6 h3.2.2 h167 h227 hq0 hp1 h168 h223)) (by have h := (A_33 hw).2.2.2 rfl; rw [h]; exact (vc_X8_schedule_W_7 h3.2.2 h167 h227 hq0 hp1 h168 h223)) (Nat.le_trans (A_33 hw).2.2.1 (le_t rfl)) (Nat.le_trans (A_33 hw).2.2.1 (le_t rfl)) (le_t rfl) (le_t rfl) (le_t rfl) hT (fun i j _ _ => (show (0 ≤ (μ 33 i) ∧ (μ 33 i) ≤ 799 ∧ ((μ 33 i) = 0 ∨ (μ 33 i) < 40 * w.2.2.2 1)) from hT _ _ (A_33 hw) i)) fun μ244 q245 T246 => ?_
          have F247 : mF [33999] w μ μ244 := mF.cell q245.1 (A_33 hw) rfl
          refine sv_aload_n (pc := 64) dX8_schedule_64 rfl rfl ?_
          refine gf_X8_2 (pc := 65) dX8_schedule_65 wF_X8_19 (A_32 hw) T246 ?_
          refine mr_iload_n (pc := 68) (z := z221) dX8_schedule_68 rfl rfl ?_
          refine mr_iload_n (pc := 69) (z := p1) dX8_schedule_69 rfl rfl ?_
          refine ss_33 (pc := 70) dX8_schedule_70 (A_33 hw) T246 (rIx (n := 800) h223 rfl) (vc_X8_schedule_W_8 h3.2.2 hq0 h167 h227 hp1 h168 h223) fun μ248 u249 T250 => ?_
          refine sv_aload_n (pc := 71) dX8_schedule_71 rfl rfl ?_
          refine gf_X8_3 (pc := 72) dX8_schedule_72 wF_X8_23 (A_32 hw) T250 ?_
          refine mr_iload_n (pc := 75) (z := p1) dX8_schedule_75 rfl rfl ?_
          refine mr_iload_n (pc := 76) (z := p2) dX8_schedule_76 rfl rfl ?_
          refine ss_34 (pc := 77) dX8_schedule_77 (A_34 hw) T250 (rIx (n := 800) hp1 rfl) hp2 fun μ251 u252 T253 => ?_
          refine sv_aload_n (pc := 78) dX8_schedule_78 rfl rfl ?_
          refine sv_dup (pc := 79) dX8_schedule_79 rfl ?_
          refine gk_X8_10 (pc := 80) dX8_schedule_80 wF_X8_52 (A_32 hw) (u252.f (Or.inl (mAt.ne (A_34 hw) (A_32 hw) rfl)) (u249.f (Or.inl (mAt.ne (A_33 hw) (A_32 hw) rfl)) (F247.f (A_32 hw) rfl q2))) ?_
          refine mr_iconst (pc := 83) (z := 1) dX8_schedule_83 ?_
          refine mr_iadd (pc := 84) (x := z1) (y := 1) dX8_schedule_84 ?_
          refine pf_X8_10 (pc := 85) dX8_schedule_85 wF_X8_52 (A_32 hw) T253 (vc_X8_schedule_W_9 h3.2.2 hq0 h167 h227 hp1 h168 h223) fun μ254 u255 T256 => ?_
          exact mr_vret dX8_schedule_88 rfl (le_t rfl) (le_t rfl) T256 (mF.up (mF.up (mF.up (mF.call mF.refl F247 rfl) (A_33 hw) u249 rfl) (A_34 hw) u252 rfl) (A_32 hw) u255 rfl) ⟨(((((W243) μ244 q245 T246) μ248 u249 T250) μ251 u252 T253) μ254 u255 T256), trivial⟩
        refine mr_if_le (pc := 17) (tgt := 43) dX8_schedule_17 (by decide) (r32 h223 rfl) (fun h257 => ?_) (fun h257 => ?_)
        · have h258 : 0 ≤ z221 ∧ z221 ≤ 0 := (vc_X8_schedule_W_10 h257 h227 h168 h223)
          exact J242 ((W229 z221 rfl h223).1 h257)
        have h259 : 1 ≤ z221 ∧ z221 ≤ 799 := (vc_X8_schedule_W_11 h257 h227 h168 h223)
        refine sv_aload_n (pc := 20) dX8_schedule_20 rfl rfl ?_
        refine gf_X8_3 (pc := 21) dX8_schedule_21 wF_X8_23 (A_32 hw) hT ?_
        refine sv_aload_n (pc := 24) dX8_schedule_24 rfl rfl ?_
        refine gf_X8_2 (pc := 25) dX8_schedule_25 wF_X8_19 (A_32 hw) hT ?_
        refine mr_iload_n (pc := 28) (z := z221) dX8_schedule_28 rfl rfl ?_
        refine mr_iconst (pc := 29) (z := 1) dX8_schedule_29 ?_
        refine mr_isub (pc := 30) (x := z221) (y := 1) dX8_schedule_30 ?_
        refine la_33 (pc := 31) dX8_schedule_31 (A_33 hw) hT (rIx (n := 800) (rSub (e := 0) (f := 798) h259 (rR (x := 1)) rfl) rfl) fun z260 q261 h262 => ?_
        have h263 : 0 ≤ z260 ∧ z260 ≤ 799 := ⟨h262.1, h262.2.1⟩
        refine la_34 (pc := 32) dX8_schedule_32 (A_34 hw) hT (rIx (n := 800) h263 rfl) fun z264 q265 h266 => ?_
        refine mr_iload_n (pc := 33) (z := p2) dX8_schedule_33 rfl rfl ?_
        refine mr_icmp_le (pc := 34) (tgt := 43) dX8_schedule_34 (by decide) (r32 h266 rfl) (r32 hp2 rfl) (fun h267 => ?_) (fun h267 => ?_)
        · exact J242 (((((W229 z221 rfl h223).2 h257) z260 q261 h262) z264 q265 h266).1 h267)
        have h268 : 0 ≤ z264 ∧ z264 ≤ 2000001000 := (vc_X8_schedule_W_12 h267 hp2 h266)
        have h269 : (-1) ≤ p2 ∧ p2 ≤ 2000000999 := (vc_X8_schedule_W_13 h267 hp2 h268)
        refine mr_iinc (pc := 37) (lv' := [(3, iv (z221 + (-1))), (0, .ref 32), (1, iv p1), (2, iv p2)]) dX8_schedule_37 rfl (by decide) rfl ?_
        refine sv_goto (pc := 40) (tgt := 16) dX8_schedule_40 (by decide) ?_
        refine mr_lvS (lv' := [(0, .ref 32), (1, iv p1), (2, iv p2), (3, iv (z221 + (-1)))]) (List.forall_mem_cons.mpr ⟨rfl, List.forall_mem_cons.mpr ⟨rfl, List.forall_mem_cons.mpr ⟨rfl, List.forall_mem_cons.mpr ⟨rfl, fun _ h => absurd h List.not_mem_nil⟩⟩⟩⟩) ?_
        exact ih230 (z221 + (-1)) trivial (rW (c := 0) (d := 799) (rAdd (e := 0) (f := 798) h259 (rR (x := (-1))) rfl) rfl) (vc_X8_schedule_W_14 h3.2.2 h167 h227 h257 hq0 h262.2.2 hp1 h168 h259 h263) (vc_X8_schedule_W_15 (nS h228) h227 h257 h3.2.2 h167 h168 h259) (((((W229 z221 rfl h223).2 h257) z260 q261 h262) z264 q265 h266).2 h267)
    refine mr_lvS (lv' := [(0, .ref 32), (1, iv p1), (2, iv p2), (3, iv z1)]) (List.forall_mem_cons.mpr ⟨rfl, List.forall_mem_cons.mpr ⟨rfl, List.forall_mem_cons.mpr ⟨rfl, List.forall_mem_cons.mpr ⟨rfl, fun _ h => absurd h List.not_mem_nil⟩⟩⟩⟩) ?_
    exact L222 801 z1 trivial h168 (vc_X8_schedule_W_16 h3.2.2 h167 hq0 hp1 h168) (vc_X8_schedule_W_17 h3.2.2 h167 hq0 hp1 h168) ((hQ z1 q2 h3).1 h167)
  have h270 : 800 ≤ z1 ∧ z1 ≤ 800 := (vc_X8_schedule_W_18 h167 h3.2.2 h4)
  exact mr_vret dX8_schedule_10 rfl (le_t rfl) (le_t rfl) hT mF.refl ⟨((hQ z1 q2 h3).2 h167), trivial⟩
def WP_X0_compareAt_W (w : mW) (μ : mM) (p1 : Int) (a2 : Nat) (a3 : Nat) (Q : Int → mM → Prop) : Prop := (p1 = 1 → ∀ z3 : Int, μ a3 4 = z3 → ((-2147483648) ≤ z3 ∧ z3 ≤ 2147483647) → ∀ z6 : Int, μ a2 4 = z6 → ((-2147483648) ≤ z6 ∧ z6 ≤ 2147483647) → ∀ z9 : Int, ((z3 < z6 → z9 = -1) ∧ (z3 = z6 → z9 = 0) ∧ (z6 < z3 → z9 = 1)) → Q z9 μ) ∧ (¬ p1 = 1 → (p1 = 2 → ∀ z13 : Int, μ a2 7 = z13 → (0 ≤ z13 ∧ z13 ≤ 20) → ∀ z16 : Int, μ a3 7 = z16 → (0 ≤ z16 ∧ z16 ≤ 20) → ∀ z19 : Int, ((z13 < z16 → z19 = -1) ∧ (z13 = z16 → z19 = 0) ∧ (z16 < z13 → z19 = 1)) → Q z19 μ) ∧ (¬ p1 = 2 → (p1 = 3 → ∀ z23 : Int, μ a2 5 = z23 → ((-2147483648) ≤ z23 ∧ z23 ≤ 2147483647) → ∀ z26 : Int, μ a3 5 = z26 → ((-2147483648) ≤ z26 ∧ z26 ≤ 2147483647) → ∀ z29 : Int, ((z23 < z26 → z29 = -1) ∧ (z23 = z26 → z29 = 0) ∧ (z26 < z23 → z29 = 1)) → Q z29 μ) ∧ (¬ p1 = 3 → (p1 = 4 → WP_X7_sharesFirst_W w μ a2 a3 (fun z37 _ => (0 ≤ z37 ∧ z37 ≤ 1) → ((z37 = 0) → Q (0 : Int) μ) ∧ ((¬ z37 = 0) → ∀ z51 : Int, μ a2 6 = z51 → ((-2147483648) ≤ z51 ∧ z51 ≤ 2147483647) → ∀ z54 : Int, μ a3 6 = z54 → ((-2147483648) ≤ z54 ∧ z54 ≤ 2147483647) → ∀ z57 : Int, ((z51 < z54 → z57 = -1) ∧ (z51 = z54 → z57 = 0) ∧ (z54 < z51 → z57 = 1)) → Q z57 μ))) ∧ (¬ p1 = 4 → (p1 = 5 → ∀ z61 : Int, μ a2 9 = z61 → ((-1) ≤ z61 ∧ z61 ≤ 2000000000) → ∀ z64 : Int, μ a3 9 = z64 → ((-1) ≤ z64 ∧ z64 ≤ 2000000000) → ∀ z67 : Int, ((z61 < z64 → z67 = -1) ∧ (z61 = z64 → z67 = 0) ∧ (z64 < z61 → z67 = 1)) → Q z67 μ) ∧ (¬ p1 = 5 → (p1 = 6 → ∀ z71 : Int, μ a2 6 = z71 → ((-2147483648) ≤ z71 ∧ z71 ≤ 2147483647) → ∀ z74 : Int, μ a3 6 = z74 → ((-2147483648) ≤ z74 ∧ z74 ≤ 2147483647) → ∀ z77 : Int, ((z71 < z74 → z77 = -1) ∧ (z71 = z74 → z77 = 0) ∧ (z74 < z71 → z77 = 1)) → Q z77 μ) ∧ (¬ p1 = 6 → Q (0 : Int) μ))))))
theorem vc_X0_compareAt_W_9 {p1 : Int} (h0 : ¬ p1 = 1) (h1 : ¬ p1 = 2) (h2 : ¬ p1 = 3) (h3 : ¬ p1 = 4) (h4 : ¬ p1 = 5) (h5 : ¬ p1 = 6) (h6 : (-2147483648) ≤ p1 ∧ p1 ≤ 2147483647) : p1 < 1 ∨ 6 < p1 := by omega
set_option maxRecDepth 4000 in
set_option maxHeartbeats 4000000 in
theorem c_X0_compareAt_W {l : Launch} {D : va_G} {c : Nat → ClassId} {H0 : Heap} {sa : Nat × Nat × (Nat → Int32)} {w : mW} {μ : mM} (hw : mWF w) (hT : mT w μ) {p1 : Int} (hp1 : (-2147483648) ≤ p1 ∧ p1 ≤ 2147483647) {a2 : Nat} (hA2 : mAt w a2 200) {a3 : Nat} (hA3 : mAt w a3 200) {Q : Int → mM → Prop} (hQ : WP_X0_compareAt_W w μ p1 a2 a3 Q) : sC (gG l D c H0 sa) mX0_compareAt 2 0 0 [iv p1, .ref a2, .ref a3] (mk w μ) (qP w μ (fun z => ((-1) ≤ z ∧ z ≤ 1) ∧ Q z μ ∧ True)) := by
  refine sC.of rfl (by decide) (le_t rfl) ?_
  refine mr_lvE (lv' := [(0, iv p1), (1, .ref a2), (2, .ref a3)]) rfl ?_
  refine mr_iload_n (pc := 0) (z := p1) dX0_compareAt_0 rfl rfl ?_
  by_cases h1 : p1 = 1
  · refine mr_tableIn (pc := 1) (v := 1) (tgt := 40) dX0_compareAt_1 h1 rfl rfl (by decide) ?_
    have h2 : 1 ≤ p1 ∧ p1 ≤ 1 := (vc_X3_toldInAll_1 h1 hp1)
    refine sv_aload_n (pc := 40) dX0_compareAt_40 rfl rfl ?_
    refine gf_X7_4 (pc := 41) dX0_compareAt_41 wF_X0_48 hA3 hT fun z3 q4 h5 => ?_
    refine sv_aload_n (pc := 44) dX0_compareAt_44 rfl rfl ?_
    refine gf_X7_4 (pc := 45) dX0_compareAt_45 wF_X0_48 hA2 hT fun z6 q7 h8 => ?_
    refine mr_cSP (pc := 48) (c_J_cmp h5 h8) (gOk _ _ _ _ _) dX0_compareAt_48 (tJ_cmp _ _ _ _ _) wS_J_cmp wM_X0_51 ⟨le_t rfl, le_t rfl⟩ ⟨le_t rfl, le_t rfl⟩ rfl (le_t rfl) fun z9 h10 => ?_
    exact mr_iretP dX0_compareAt_51 rfl (le_t rfl) (le_t rfl) ⟨h10.1, ((((hQ.1 h1) z3 q4 h5) z6 q7 h8) z9 h10.2), trivial⟩
  by_cases h11 : p1 = 2
  · refine mr_tableIn (pc := 1) (v := 2) (tgt := 52) dX0_compareAt_1 h11 rfl rfl (by decide) ?_
    have h12 : 2 ≤ p1 ∧ p1 ≤ 2 := (vc_X3_toldInAll_2 h11 h1 hp1)
    refine sv_aload_n (pc := 52) dX0_compareAt_52 rfl rfl ?_
    refine gf_X7_7 (pc := 53) dX0_compareAt_53 wF_X0_57 hA2 hT fun z13 q14 h15 => ?_
    refine sv_aload_n (pc := 56) dX0_compareAt_56 rfl rfl ?_
    refine gf_X7_7 (pc := 57) dX0_compareAt_57 wF_X0_57 hA3 hT fun z16 q17 h18 => ?_
    refine mr_cSP (pc := 60) (c_J_cmp (r32 h15 rfl) (r32 h18 rfl)) (gOk _ _ _ _ _) dX0_compareAt_60 (tJ_cmp _ _ _ _ _) wS_J_cmp wM_X0_51 ⟨le_t rfl, le_t rfl⟩ ⟨le_t rfl, le_t rfl⟩ rfl (le_t rfl) fun z19 h20 => ?_
    exact mr_iretP dX0_compareAt_63 rfl (le_t rfl) (le_t rfl) ⟨h20.1, (((((hQ.2 h1).1 h11) z13 q14 h15) z16 q17 h18) z19 h20.2), trivial⟩
  by_cases h21 : p1 = 3
  · refine mr_tableIn (pc := 1) (v := 3) (tgt := 64) dX0_compareAt_1 h21 rfl rfl (by decide) ?_
    have h22 : 3 ≤ p1 ∧ p1 ≤ 3 := (vc_X3_toldInAll_3 h21 h1 h11 hp1)
    refine sv_aload_n (pc := 64) dX0_compareAt_64 rfl rfl ?_
    refine gf_X7_5 (pc := 65) dX0_compareAt_65 wF_X0_60 hA2 hT fun z23 q24 h25 => ?_
    refine sv_aload_n (pc := 68) dX0_compareAt_68 rfl rfl ?_
    refine gf_X7_5 (pc := 69) dX0_compareAt_69 wF_X0_60 hA3 hT fun z26 q27 h28 => ?_
    refine mr_cSP (pc := 72) (c_J_cmp h25 h28) (gOk _ _ _ _ _) dX0_compareAt_72 (tJ_cmp _ _ _ _ _) wS_J_cmp wM_X0_51 ⟨le_t rfl, le_t rfl⟩ ⟨le_t rfl, le_t rfl⟩ rfl (le_t rfl) fun z29 h30 => ?_
    exact mr_iretP dX0_compareAt_75 rfl (le_t rfl) (le_t rfl) ⟨h30.1, ((((((hQ.2 h1).2 h11).1 h21) z23 q24 h25) z26 q27 h28) z29 h30.2), trivial⟩
  by_cases h31 : p1 = 4
  · refine mr_tableIn (pc := 1) (v := 4) (tgt := 76) dX0_compareAt_1 h31 rfl rfl (by decide) ?_
    have h32 : 4 ≤ p1 ∧ p1 ≤ 4 := (vc_X3_toldInAll_4 h31 h1 h11 h21 hp1)
    refine sv_aload_n (pc := 76) dX0_compareAt_76 rfl rfl ?_
    refine sv_aload_n (pc := 77) dX0_compareAt_77 rfl rfl ?_
    refine mr_cVP (pc := 78) (c_X7_sharesFirst_W hw hT hA2 hA3 ((((hQ.2 h1).2 h11).2 h21).1 h31)) (gOk _ _ _ _ _) dX0_compareAt_78 (tX7_sharesFirst _ _ _ _ _) ⟨wV_X7_sharesFirst, wL_X7_sharesFirst⟩ wM_X0_63 (gCX7 _ _ _ _ _) rfl hA2 rfl ⟨le_t rfl, le_t rfl⟩ ⟨le_t rfl, le_t rfl⟩ rfl (le_t rfl) fun z37 h36 => ?_
    refine mr_if_eq (pc := 81) (tgt := 98) dX0_compareAt_81 (by decide) (r32 h36.1 rfl) (fun h48 => ?_) (fun h48 => ?_)
    · have h49 : 0 ≤ z37 ∧ z37 ≤ 0 := (vc_X12_ring_22 h48 h36.1)
      refine mr_iconst (pc := 98) (z := 0) dX0_compareAt_98 ?_
      exact mr_iretP dX0_compareAt_99 rfl (le_t rfl) (le_t rfl) ⟨(rW (c := (-1)) (d := 1) (rR (x := 0)) rfl), ((h36.2.1 h36.1).1 h48), trivial⟩
    have h50 : 1 ≤ z37 ∧ z37 ≤ 1 := (vc_X12_ring_24 h48 h36.1)
    refine sv_aload_n (pc := 84) dX0_compareAt_84 rfl rfl ?_
    refine gf_X7_6 (pc := 85) dX0_compareAt_85 wF_X0_67 hA2 hT fun z51 q52 h53 => ?_
    refine sv_aload_n (pc := 88) dX0_compareAt_88 rfl rfl ?_
    refine gf_X7_6 (pc := 89) dX0_compareAt_89 wF_X0_67 hA3 hT fun z54 q55 h56 => ?_
    refine mr_cSP (pc := 92) (c_J_cmp h53 h56) (gOk _ _ _ _ _) dX0_compareAt_92 (tJ_cmp _ _ _ _ _) wS_J_cmp wM_X0_51 ⟨le_t rfl, le_t rfl⟩ ⟨le_t rfl, le_t rfl⟩ rfl (le_t rfl) fun z57 h58 => ?_
    refine sv_goto (pc := 95) (tgt := 99) dX0_compareAt_95 (by decide) ?_
    exact mr_iretP dX0_compareAt_99 rfl (le_t rfl) (le_t rfl) ⟨h58.1, (((((h36.2.1 h36.1).2 h48) z51 q52 h53) z54 q55 h56) z57 h58.2), trivial⟩
  by_cases h59 : p1 = 5
  · refine mr_tableIn (pc := 1) (v := 5) (tgt := 100) dX0_compareAt_1 h59 rfl rfl (by decide) ?_
    have h60 : 5 ≤ p1 ∧ p1 ≤ 5 := (vc_X3_toldInAll_5 h59 h1 h11 h21 h31 hp1)
    refine sv_aload_n (pc := 100) dX0_compareAt_100 rfl rfl ?_
    refine gf_X7_9 (pc := 101) dX0_compareAt_101 wF_X0_70 hA2 hT fun z61 q62 h63 => ?_
    refine sv_aload_n (pc := 104) dX0_compareAt_104 rfl rfl ?_
    refine gf_X7_9 (pc := 105) dX0_compareAt_105 wF_X0_70 hA3 hT fun z64 q65 h66 => ?_
    refine mr_cSP (pc := 108) (c_J_cmp (r32 h63 rfl) (r32 h66 rfl)) (gOk _ _ _ _ _) dX0_compareAt_108 (tJ_cmp _ _ _ _ _) wS_J_cmp wM_X0_51 ⟨le_t rfl, le_t rfl⟩ ⟨le_t rfl, le_t rfl⟩ rfl (le_t rfl) fun z67 h68 => ?_
    exact mr_iretP dX0_compareAt_111 rfl (le_t rfl) (le_t rfl) ⟨h68.1, ((((((((hQ.2 h1).2 h11).2 h21).2 h31).1 h59) z61 q62 h63) z64 q65 h66) z67 h68.2), trivial⟩
  by_cases h69 : p1 = 6
  · refine mr_tableIn (pc := 1) (v := 6) (tgt := 112) dX0_compareAt_1 h69 rfl rfl (by decide) ?_
    have h70 : 6 ≤ p1 ∧ p1 ≤ 6 := (vc_X3_toldInAll_6 h69 h1 h11 h21 h31 h59 hp1)
    refine sv_aload_n (pc := 112) dX0_compareAt_112 rfl rfl ?_
    refine gf_X7_6 (pc := 113) dX0_compareAt_113 wF_X0_67 hA2 hT fun z71 q72 h73 => ?_
    refine sv_aload_n (pc := 116) dX0_compareAt_116 rfl rfl ?_
    refine gf_X7_6 (pc := 117) dX0_compareAt_117 wF_X0_67 hA3 hT fun z74 q75 h76 => ?_
    refine mr_cSP (pc := 120) (c_J_cmp h73 h76) (gOk _ _ _ _ _) dX0_compareAt_120 (tJ_cmp _ _ _ _ _) wS_J_cmp wM_X0_51 ⟨le_t rfl, le_t rfl⟩ ⟨le_t rfl, le_t rfl⟩ rfl (le_t rfl) fun z77 h78 => ?_
    exact mr_iretP dX0_compareAt_123 rfl (le_t rfl) (le_t rfl) ⟨h78.1, (((((((((hQ.2 h1).2 h11).2 h21).2 h31).2 h59).1 h69) z71 q72 h73) z74 q75 h76) z77 h78.2), trivial⟩
  refine mr_tableOut (pc := 1) (tgt := 124) dX0_compareAt_1 hp1 (vc_X0_compareAt_W_9 h1 h11 h21 h31 h59 h69 hp1) (by decide) ?_
  refine mr_iconst (pc := 124) (z := 0) dX0_compareAt_124 ?_
  exact mr_iretP dX0_compareAt_125 rfl (le_t rfl) (le_t rfl) ⟨(rW (c := (-1)) (d := 1) (rR (x := 0)) rfl), ((((((hQ.2 h1).2 h11).2 h21).2 h31).2 h59).2 h69), trivial⟩
def WL_X0_prefers_W_1 (w : mW) (μ : mM) (a0 : Nat) (a1 : Nat) (a2 : Nat) (Q : Int → mM → Prop) (rec1 : (Int) → Prop) (s : (Int)) : Prop := ∀ z131 : Int, s = (z131) → (0 ≤ z131 ∧ z131 ≤ 6) → ∀ z140 : Int, μ a0 4 = z140 → (0 ≤ z140 ∧ z140 ≤ 6) → ((z140 ≤ z131) → ∀ z144 : Int, μ a1 11 = z144 → ((-2147483648) ≤ z144 ∧ z144 ≤ 2147483647) → ∀ z147 : Int, μ a2 11 = z147 → ((-2147483648) ≤ z147 ∧ z147 ≤ 2147483647) → ((z147 ≤ z144) → Q (0 : Int) μ) ∧ ((z144 < z147) → Q (1 : Int) μ)) ∧ ((z131 < z140) → ∀ z158 : Int, μ (a0 + 1) (z131.toNat) = z158 → (0 ≤ z158 ∧ z158 ≤ 9) → WP_X0_compareAt_W w μ z158 a1 a2 (fun z165 _ => ((-1) ≤ z165 ∧ z165 ≤ 1) → ((z165 = 0) → rec1 ((z131 + 1))) ∧ ((¬ z165 = 0) → ((0 ≤ z165) → Q (0 : Int) μ) ∧ ((z165 < 0) → Q (1 : Int) μ))))
def WP_X0_prefers_W (w : mW) (μ : mM) (a0 : Nat) (a1 : Nat) (a2 : Nat) (Q : Int → mM → Prop) : Prop := loopF (WL_X0_prefers_W_1 w μ a0 a1 a2 Q) False 8 ((0 : Int))
theorem vc_X0_prefers_W_4 {z131 z140 : Int} (h0 : z131 < z140) (h1 : 0 ≤ z131 ∧ z131 ≤ 6) (h2 : 0 ≤ z140 ∧ z140 ≤ 6) : 0 ≤ z131 ∧ z131 ≤ 5 := by omega
theorem vc_X0_prefers_W_5 {z131 z140 : Int} (h0 : z131 < z140) (h1 : 0 ≤ z131 ∧ z131 ≤ 5) (h2 : 0 ≤ z140 ∧ z140 ≤ 6) : 1 ≤ z140 ∧ z140 ≤ 6 := by omega
theorem vc_X0_prefers_W_7 {N z131 z140 : Int} (h0 : (7 - z131) < N + 1) (h1 : z131 < z140) (h2 : 0 ≤ z131 ∧ z131 ≤ 5) (h3 : 1 ≤ z140 ∧ z140 ≤ 6) : (7 - (z131 + 1)) < N := by omega
theorem vc_X0_prefers_W_8 {z165 : Int} (h0 : 0 ≤ z165) (h1 : ¬ z165 = 0) (h2 : (-1) ≤ z165 ∧ z165 ≤ 1) : 0 ≤ z165 ∧ z165 ≤ 1 := by omega
theorem vc_X0_prefers_W_9 {z165 : Int} (h0 : z165 < 0) (h1 : ¬ z165 = 0) (h2 : (-1) ≤ z165 ∧ z165 ≤ 1) : (-1) ≤ z165 ∧ z165 ≤ (-1) := by omega
set_option maxRecDepth 4000 in
set_option maxHeartbeats 4000000 in
theorem c_X0_prefers_W {l : Launch} {D : va_G} {c : Nat → ClassId} {H0 : Heap} {sa : Nat × Nat × (Nat → Int32)} {w : mW} {μ : mM} (hw : mWF w) (hT : mT w μ) {a0 : Nat} (hA0 : mAt w a0 210) {a1 : Nat} (hA1 : mAt w a1 200) {a2 : Nat} (hA2 : mAt w a2 200) {Q : Int → mM → Prop} (hQ : WP_X0_prefers_W w μ a0 a1 a2 Q) : sC (gG l D c H0 sa) mX0_prefers 3 0 0 [.ref a0, .ref a1, .ref a2] (mk w μ) (qP w μ (fun z => (0 ≤ z ∧ z ≤ 1) ∧ Q z μ ∧ True)) := by
  refine sC.of rfl (by decide) (le_t rfl) ?_
  refine mr_lvE (lv' := [(0, .ref a0), (1, .ref a1), (2, .ref a2)]) rfl ?_
  refine mr_iconst (pc := 0) (z := 0) dX0_prefers_0 ?_
  refine mr_istore_n (pc := 1) (lv' := [(3, iv 0), (0, .ref a0), (1, .ref a1), (2, .ref a2)]) dX0_prefers_1 rfl (by decide) rfl ?_
  have L132 : ∀ (nL132 : Nat) (z131 : Int), True → (0 ≤ z131 ∧ z131 ≤ 6) → (7 - z131) < (nL132 : Int) → loopF (WL_X0_prefers_W_1 w μ a0 a1 a2 Q) False nL132 (z131) → sV (gG l D c H0 sa) mX0_prefers (sRm 3 0 0) (sZ (gG l D c H0 sa) 0 0 (qP w μ (fun z => (0 ≤ z ∧ z ≤ 1) ∧ Q z μ ∧ True))) 2 [(0, .ref a0), (1, .ref a1), (2, .ref a2), (3, iv z131)] [] (mk w μ) 0 0 := by
    intro nL132
    induction nL132 with
    | zero => intro z131 _ h133 h137 W138; exact ((vc_X12_wish_49 h137 h133)).elim
    | succ nL132 ih139 =>
      intro z131 _ h133 h137 W138
      refine mr_iload_n (pc := 2) (z := z131) dX0_prefers_2 rfl rfl ?_
      refine sv_aload_n (pc := 3) dX0_prefers_3 rfl rfl ?_
      refine gf_X0_4 (pc := 4) dX0_prefers_4 wF_X0_37 hA0 hT fun z140 q141 h142 => ?_
      refine mr_icmp_ge (pc := 7) (tgt := 45) dX0_prefers_7 (by decide) (r32 h133 rfl) (r32 h142 rfl) (fun h143 => ?_) (fun h143 => ?_)
      · refine sv_aload_n (pc := 45) dX0_prefers_45 rfl rfl ?_
        refine gf_X7_11 (pc := 46) dX0_prefers_46 wF_X0_45 hA1 hT fun z144 q145 h146 => ?_
        refine sv_aload_n (pc := 49) dX0_prefers_49 rfl rfl ?_
        refine gf_X7_11 (pc := 50) dX0_prefers_50 wF_X0_45 hA2 hT fun z147 q148 h149 => ?_
        refine mr_icmp_ge (pc := 53) (tgt := 60) dX0_prefers_53 (by decide) h146 h149 (fun h152 => ?_) (fun h152 => ?_)
        · refine mr_iconst (pc := 60) (z := 0) dX0_prefers_60 ?_
          exact mr_zretP dX0_prefers_61 rfl (rW (c := 0) (d := 1) (rR (x := 0)) rfl) (le_t rfl) (le_t rfl) ⟨(rW (c := 0) (d := 1) (rR (x := 0)) rfl), ((((((W138 z131 rfl h133) z140 q141 h142).1 h143) z144 q145 h146) z147 q148 h149).1 h152), trivial⟩
        have h153 : (-2147483648) ≤ z144 ∧ z144 ≤ 2147483646 := (vc_X12_in_1 h152 h146 h149)
        have h154 : (-2147483647) ≤ z147 ∧ z147 ≤ 2147483647 := (vc_X12_in_2 h152 h153 h149)
        refine mr_iconst (pc := 56) (z := 1) dX0_prefers_56 ?_
        refine sv_goto (pc := 57) (tgt := 61) dX0_prefers_57 (by decide) ?_
        exact mr_zretP dX0_prefers_61 rfl (rW (c := 0) (d := 1) (rR (x := 1)) rfl) (le_t rfl) (le_t rfl) ⟨(rW (c := 0) (d := 1) (rR (x := 1)) rfl), ((((((W138 z131 rfl h133) z140 q141 h142).1 h143) z144 q145 h146) z147 q148 h149).2 h152), trivial⟩
      have h155 : 0 ≤ z131 ∧ z131 ≤ 5 := (vc_X0_prefers_W_4 h143 h133 h142)
      have h156 : 1 ≤ z140 ∧ z140 ≤ 6 := (vc_X0_prefers_W_5 h143 h155 h142)
      refine sv_aload_n (pc := 10) dX0_prefers_10 rfl rfl ?_
      refine gf_X0_0 (pc := 11) dX0_prefers_11 wF_X0_9 hA0 hT fun A157 => ?_
      refine mr_iload_n (pc := 14) (z := z131) dX0_prefers_14 rfl rfl ?_
      refine la_211 (pc := 15) dX0_prefers_15 A157 hT (rIx (n := 6) h155 rfl) fun z158 q159 h160 => ?_
      refine sv_aload_n (pc := 16) dX0_prefers_16 rfl rfl ?_
      refine sv_aload_n (pc := 17) dX0_prefers_17 rfl rfl ?_
      refine mr_cSP (pc := 18) (c_X0_compareAt_W hw hT (rW (c := (-2147483648)) (d := 2147483647) h160 rfl) hA1 hA2 ((((W138 z131 rfl h133) z140 q141 h142).2 h143) z158 q159 h160)) (gOk _ _ _ _ _) dX0_prefers_18 (tX0_compareAt _ _ _ _ _) wS_X0_compareAt wM_X0_41 ⟨le_t rfl, le_t rfl⟩ ⟨le_t rfl, le_t rfl⟩ rfl (le_t rfl) fun z165 h164 => ?_
      refine mr_istore (pc := 21) (lv' := [(4, iv z165), (0, .ref a0), (1, .ref a1), (2, .ref a2), (3, iv z131)]) dX0_prefers_21 (by decide) rfl ?_
      refine mr_iload (pc := 23) (z := z165) dX0_prefers_23 rfl ?_
      refine mr_if_eq (pc := 25) (tgt := 39) dX0_prefers_25 (by decide) (r32 h164.1 rfl) (fun h166 => ?_) (fun h166 => ?_)
      · have h167 : 0 ≤ z165 ∧ z165 ≤ 0 := (vc_X12_waysMatch_5 h166 h164.1)
        refine mr_iinc (pc := 39) (lv' := [(3, iv (z131 + 1)), (4, iv z165), (0, .ref a0), (1, .ref a1), (2, .ref a2)]) dX0_prefers_39 rfl (by decide) rfl ?_
        refine sv_goto (pc := 42) (tgt := 2) dX0_prefers_42 (by decide) ?_
        refine mr_lvS (lv' := [(0, .ref a0), (1, .ref a1), (2, .ref a2), (3, iv (z131 + 1))]) (List.forall_mem_cons.mpr ⟨rfl, List.forall_mem_cons.mpr ⟨rfl, List.forall_mem_cons.mpr ⟨rfl, List.forall_mem_cons.mpr ⟨rfl, fun _ h => absurd h List.not_mem_nil⟩⟩⟩⟩) ?_
        exact ih139 (z131 + 1) trivial (rW (c := 0) (d := 6) (rAdd (e := 1) (f := 6) h155 (rR (x := 1)) rfl) rfl) (vc_X0_prefers_W_7 (nS h137) h143 h155 h156) ((h164.2.1 h164.1).1 h166)
      refine mr_iload (pc := 28) (z := z165) dX0_prefers_28 rfl ?_
      refine mr_if_ge (pc := 30) (tgt := 37) dX0_prefers_30 (by decide) (r32 h164.1 rfl) (fun h170 => ?_) (fun h170 => ?_)
      · have h171 : 0 ≤ z165 ∧ z165 ≤ 1 := (vc_X0_prefers_W_8 h170 h166 h164.1)
        refine mr_iconst (pc := 37) (z := 0) dX0_prefers_37 ?_
        exact mr_zretP dX0_prefers_38 rfl (rW (c := 0) (d := 1) (rR (x := 0)) rfl) (le_t rfl) (le_t rfl) ⟨(rW (c := 0) (d := 1) (rR (x := 0)) rfl), (((h164.2.1 h164.1).2 h166).1 h170), trivial⟩
      have h172 : (-1) ≤ z165 ∧ z165 ≤ (-1) := (vc_X0_prefers_W_9 h170 h166 h164.1)
      refine mr_iconst (pc := 33) (z := 1) dX0_prefers_33 ?_
      refine sv_goto (pc := 34) (tgt := 38) dX0_prefers_34 (by decide) ?_
      exact mr_zretP dX0_prefers_38 rfl (rW (c := 0) (d := 1) (rR (x := 1)) rfl) (le_t rfl) (le_t rfl) ⟨(rW (c := 0) (d := 1) (rR (x := 1)) rfl), (((h164.2.1 h164.1).2 h166).2 h170), trivial⟩
  refine mr_lvS (lv' := [(0, .ref a0), (1, .ref a1), (2, .ref a2), (3, iv 0)]) (List.forall_mem_cons.mpr ⟨rfl, List.forall_mem_cons.mpr ⟨rfl, List.forall_mem_cons.mpr ⟨rfl, List.forall_mem_cons.mpr ⟨rfl, fun _ h => absurd h List.not_mem_nil⟩⟩⟩⟩) ?_
  exact L132 8 0 trivial (rW (c := 0) (d := 6) (rR (x := 0)) rfl) vc_X12_wish_56 hQ
def WL_X8_lastStanding_W_1 (μ : mM) (Q : Int → mM → Prop) (rec1 : (Int × Int) → Prop) (s : (Int × Int)) : Prop := ∀ z17 : Int, ∀ z16 : Int, s = (z17, z16) → ((-1) ≤ z17 ∧ z17 ≤ (-1)) → (1 ≤ z16 ∧ z16 ≤ 1) → Q z17 μ
def WL_X8_lastStanding_W_2 (w : mW) (μ : mM) (a1 : Nat) (p2 : Int) (Q : Int → mM → Prop) (rec2 : (Int × Int) → Prop) (s : (Int × Int)) : Prop := ∀ z166 : Int, ∀ z165 : Int, s = (z166, z165) → (0 ≤ z166 ∧ z166 ≤ 9) → (1 ≤ z165 ∧ z165 ≤ 10) → ((p2 ≤ z165) → Q z166 μ) ∧ ((z165 < p2) → ∀ z199 : Int, μ 66 (z165.toNat) = z199 → (0 ≤ z199 ∧ z199 ≤ 9) → ∀ b202 : Nat, μ 35 (z199.toNat) = (b202 : Int) → mAt w b202 200 → ∀ b205 : Nat, μ 35 (z166.toNat) = (b205 : Int) → mAt w b205 200 → WP_X0_prefers_W w μ a1 b202 b205 (fun z212 _ => (0 ≤ z212 ∧ z212 ≤ 1) → ((z212 = 0) → rec2 (z166, (z165 + 1))) ∧ ((¬ z212 = 0) → rec2 (z199, (z165 + 1)))))
def WP_X8_lastStanding_W (w : mW) (μ : mM) (a1 : Nat) (p2 : Int) (Q : Int → mM → Prop) : Prop := ((p2 ≤ 0) → loopF (WL_X8_lastStanding_W_1 μ Q) False 2 (((-1) : Int), (1 : Int))) ∧ ((0 < p2) → ∀ z30 : Int, μ 66 ((0 : Int).toNat) = z30 → (0 ≤ z30 ∧ z30 ≤ 9) → loopF (WL_X8_lastStanding_W_2 w μ a1 p2 Q) False 11 (z30, (1 : Int)))
theorem vc_X8_lastStanding_W_3 {p2 z16 : Int} (h0 : z16 < p2) (h1 : 0 ≤ p2 ∧ p2 ≤ 0) (h2 : 1 ≤ z16 ∧ z16 ≤ 1) : False := by omega
theorem vc_X8_lastStanding_W_4 {p2 z17 : Int} (h0 : p2 ≤ 0) (h1 : 0 ≤ z17 ∨ p2 ≤ 0) (h2 : z17 < 0 ∨ 0 < p2) (h3 : 0 ≤ p2 ∧ p2 ≤ 0) (h4 : (-1) ≤ z17 ∧ z17 ≤ (-1)) : z17 < 0 ∨ 0 < p2 := by omega
theorem vc_X8_lastStanding_W_5 {p2 : Int} (h0 : p2 ≤ 0) (h1 : 0 ≤ p2 ∧ p2 ≤ 0) : 0 ≤ ((-1) : Int) ∨ p2 ≤ 0 := by omega
theorem vc_X8_lastStanding_W_6 {p2 : Int} (h0 : p2 ≤ 0) (h1 : 0 ≤ p2 ∧ p2 ≤ 0) : ((-1) : Int) < 0 ∨ 0 < p2 := by omega
theorem vc_X8_lastStanding_W_10 {p2 z165 z166 : Int} (h0 : 0 < p2) (h1 : 0 ≤ z166 ∨ p2 ≤ 0) (h2 : z166 < 0 ∨ 0 < p2) (h3 : p2 ≤ z165) (h4 : 1 ≤ p2 ∧ p2 ≤ 10) (h5 : 1 ≤ z165 ∧ z165 ≤ 10) (h6 : 0 ≤ z166 ∧ z166 ≤ 9) : z166 < 0 ∨ 0 < p2 := by omega
theorem vc_X8_lastStanding_W_11 {p2 z165 z166 : Int} (h0 : z165 < p2) (h1 : 0 < p2) (h2 : 0 ≤ z166 ∨ p2 ≤ 0) (h3 : z166 < 0 ∨ 0 < p2) (h4 : 1 ≤ p2 ∧ p2 ≤ 10) (h5 : 1 ≤ z165 ∧ z165 ≤ 10) (h6 : 0 ≤ z166 ∧ z166 ≤ 9) : 1 ≤ z165 ∧ z165 ≤ 9 := by omega
theorem vc_X8_lastStanding_W_12 {p2 z165 z166 : Int} (h0 : z165 < p2) (h1 : 0 < p2) (h2 : 0 ≤ z166 ∨ p2 ≤ 0) (h3 : z166 < 0 ∨ 0 < p2) (h4 : 1 ≤ p2 ∧ p2 ≤ 10) (h5 : 1 ≤ z165 ∧ z165 ≤ 9) (h6 : 0 ≤ z166 ∧ z166 ≤ 9) : 2 ≤ p2 ∧ p2 ≤ 10 := by omega
theorem vc_X8_lastStanding_W_14 {p2 z165 z166 : Int} (h0 : 0 < p2) (h1 : 0 ≤ z166 ∨ p2 ≤ 0) (h2 : z166 < 0 ∨ 0 < p2) (h3 : z165 < p2) (h4 : 2 ≤ p2 ∧ p2 ≤ 10) (h5 : 1 ≤ z165 ∧ z165 ≤ 9) (h6 : 0 ≤ z166 ∧ z166 ≤ 9) : 0 ≤ z166 ∨ p2 ≤ 0 := by omega
theorem vc_X8_lastStanding_W_15 {p2 z165 z166 : Int} (h0 : 0 < p2) (h1 : 0 ≤ z166 ∨ p2 ≤ 0) (h2 : z166 < 0 ∨ 0 < p2) (h3 : z165 < p2) (h4 : 2 ≤ p2 ∧ p2 ≤ 10) (h5 : 1 ≤ z165 ∧ z165 ≤ 9) (h6 : 0 ≤ z166 ∧ z166 ≤ 9) : z166 < 0 ∨ 0 < p2 := by omega
theorem vc_X8_lastStanding_W_16 {N p2 z165 z166 : Int} (h0 : (11 - z165) < N + 1) (h1 : z165 < p2) (h2 : 0 < p2) (h3 : 0 ≤ z166 ∨ p2 ≤ 0) (h4 : z166 < 0 ∨ 0 < p2) (h5 : 2 ≤ p2 ∧ p2 ≤ 10) (h6 : 1 ≤ z165 ∧ z165 ≤ 9) (h7 : 0 ≤ z166 ∧ z166 ≤ 9) : (11 - (z165 + 1)) < N := by omega
theorem vc_X8_lastStanding_W_18 {p2 z165 z166 z199 : Int} (h0 : 0 < p2) (h1 : 0 ≤ z166 ∨ p2 ≤ 0) (h2 : z166 < 0 ∨ 0 < p2) (h3 : z165 < p2) (h4 : 2 ≤ p2 ∧ p2 ≤ 10) (h5 : 1 ≤ z165 ∧ z165 ≤ 9) (h6 : 0 ≤ z166 ∧ z166 ≤ 9) (h7 : 0 ≤ z199 ∧ z199 ≤ 9) : 0 ≤ z199 ∨ p2 ≤ 0 := by omega
theorem vc_X8_lastStanding_W_19 {p2 z165 z166 z199 : Int} (h0 : 0 < p2) (h1 : 0 ≤ z166 ∨ p2 ≤ 0) (h2 : z166 < 0 ∨ 0 < p2) (h3 : z165 < p2) (h4 : 2 ≤ p2 ∧ p2 ≤ 10) (h5 : 1 ≤ z165 ∧ z165 ≤ 9) (h6 : 0 ≤ z166 ∧ z166 ≤ 9) (h7 : 0 ≤ z199 ∧ z199 ≤ 9) : z199 < 0 ∨ 0 < p2 := by omega
theorem vc_X8_lastStanding_W_20 {p2 z30 : Int} (h0 : 0 < p2) (h1 : 1 ≤ p2 ∧ p2 ≤ 10) (h2 : 0 ≤ z30 ∧ z30 ≤ 9) : 0 ≤ z30 ∨ p2 ≤ 0 := by omega
theorem vc_X8_lastStanding_W_21 {p2 z30 : Int} (h0 : 0 < p2) (h1 : 1 ≤ p2 ∧ p2 ≤ 10) (h2 : 0 ≤ z30 ∧ z30 ≤ 9) : z30 < 0 ∨ 0 < p2 := by omega
set_option maxRecDepth 4000 in
set_option maxHeartbeats 4000000 in
theorem c_X8_lastStanding_W {l : Launch} {D : va_G} {c : Nat → ClassId} {H0 : Heap} {sa : Nat × Nat × (Nat → Int32)} {w : mW} {μ : mM} (hw : mWF w) (hT : mT w μ) {a1 : Nat} (hA1 : mAt w a1 210) {p2 : Int} (hp2 : 0 ≤ p2 ∧ p2 ≤ 10) {Q : Int → mM → Prop} (hQ : WP_X8_lastStanding_W w μ a1 p2 Q) : sC (gG l D c H0 sa) mX8_lastStanding 4 0 0 [.ref 32, .ref a1, iv p2] (mk w μ) (qP w μ (fun z => ((-1) ≤ z ∧ z ≤ 9) ∧ (z < 0 ∨ 0 < p2) ∧ Q z μ ∧ True)) := by
  refine sC.of rfl (by decide) (le_t rfl) ?_
  refine mr_lvE (lv' := [(0, .ref 32), (1, .ref a1), (2, iv p2)]) rfl ?_
  refine mr_iload_n (pc := 0) (z := p2) dX8_lastStanding_0 rfl rfl ?_
  refine mr_if_le (pc := 1) (tgt := 13) dX8_lastStanding_1 (by decide) (r32 hp2 rfl) (fun h6 => ?_) (fun h6 => ?_)
  · have h7 : 0 ≤ p2 ∧ p2 ≤ 0 := (vc_X10_findRing_4 h6 hp2)
    refine mr_iconst (pc := 13) (z := (-1)) dX8_lastStanding_13 ?_
    refine mr_istore_n (pc := 14) (lv' := [(3, iv (-1)), (0, .ref 32), (1, .ref a1), (2, iv p2)]) dX8_lastStanding_14 rfl (by decide) rfl ?_
    refine mr_iconst (pc := 15) (z := 1) dX8_lastStanding_15 ?_
    refine mr_istore (pc := 16) (lv' := [(4, iv 1), (3, iv (-1)), (0, .ref 32), (1, .ref a1), (2, iv p2)]) dX8_lastStanding_16 (by decide) rfl ?_
    have L18 : ∀ (nL18 : Nat) (z17 z16 : Int), True → ((-1) ≤ z17 ∧ z17 ≤ (-1)) → (1 ≤ z16 ∧ z16 ≤ 1) → (0 ≤ z17 ∨ p2 ≤ 0) → (z17 < 0 ∨ 0 < p2) → 1 < (nL18 : Int) → loopF (WL_X8_lastStanding_W_1 μ Q) False nL18 (z17, z16) → sV (gG l D c H0 sa) mX8_lastStanding (sRm 4 0 0) (sZ (gG l D c H0 sa) 0 0 (qP w μ (fun z => ((-1) ≤ z ∧ z ≤ 9) ∧ (z < 0 ∨ 0 < p2) ∧ Q z μ ∧ True))) 18 [(0, .ref 32), (1, .ref a1), (2, iv p2), (3, iv z17), (4, iv z16)] [] (mk w μ) 0 0 := by
      intro nL18
      induction nL18 with
      | zero => intro z17 z16 _ h19 h20 h24 h25 h26 W27; exact ((vc_X12_wish_2 h26)).elim
      | succ nL18 ih28 =>
        intro z17 z16 _ h19 h20 h24 h25 h26 W27
        refine mr_iload (pc := 18) (z := z16) dX8_lastStanding_18 rfl ?_
        refine mr_iload_n (pc := 20) (z := p2) dX8_lastStanding_20 rfl rfl ?_
        refine mr_icmp_ge (pc := 21) (tgt := 63) dX8_lastStanding_21 (by decide) (r32 h20 rfl) (r32 h7 rfl) (fun _ => ?_) (fun h => ((vc_X8_lastStanding_W_3 h h7 h20)).elim)
        refine mr_iload_n (pc := 63) (z := z17) dX8_lastStanding_63 rfl rfl ?_
        exact mr_iretP dX8_lastStanding_64 rfl (le_t rfl) (le_t rfl) ⟨(rW (c := (-1)) (d := 9) h19 rfl), (vc_X8_lastStanding_W_4 h6 h24 h25 h7 h19), (W27 z17 z16 rfl h19 h20), trivial⟩
    refine mr_lvS (lv' := [(0, .ref 32), (1, .ref a1), (2, iv p2), (3, iv (-1)), (4, iv 1)]) (List.forall_mem_cons.mpr ⟨rfl, List.forall_mem_cons.mpr ⟨rfl, List.forall_mem_cons.mpr ⟨rfl, List.forall_mem_cons.mpr ⟨rfl, List.forall_mem_cons.mpr ⟨rfl, fun _ h => absurd h List.not_mem_nil⟩⟩⟩⟩⟩) ?_
    exact L18 2 (-1) 1 trivial (rR (x := (-1))) (rR (x := 1)) (vc_X8_lastStanding_W_5 h6 h7) (vc_X8_lastStanding_W_6 h6 h7) vc_X12_wish_6 (hQ.1 h6)
  have h29 : 1 ≤ p2 ∧ p2 ≤ 10 := (vc_X10_findRing_6 h6 hp2)
  refine sv_aload_n (pc := 4) dX8_lastStanding_4 rfl rfl ?_
  refine gf_X8_5 (pc := 5) dX8_lastStanding_5 wF_X8_39 (A_32 hw) hT ?_
  refine mr_iconst (pc := 8) (z := 0) dX8_lastStanding_8 ?_
  refine la_66 (pc := 9) dX8_lastStanding_9 (A_66 hw) hT (rIx (n := 10) (rR (x := 0)) rfl) fun z30 q31 h32 => ?_
  refine sv_goto (pc := 10) (tgt := 14) dX8_lastStanding_10 (by decide) ?_
  refine mr_istore_n (pc := 14) (lv' := [(3, iv z30), (0, .ref 32), (1, .ref a1), (2, iv p2)]) dX8_lastStanding_14 rfl (by decide) rfl ?_
  refine mr_iconst (pc := 15) (z := 1) dX8_lastStanding_15 ?_
  refine mr_istore (pc := 16) (lv' := [(4, iv 1), (3, iv z30), (0, .ref 32), (1, .ref a1), (2, iv p2)]) dX8_lastStanding_16 (by decide) rfl ?_
  have L167 : ∀ (nL167 : Nat) (z166 z165 : Int), True → (0 ≤ z166 ∧ z166 ≤ 9) → (1 ≤ z165 ∧ z165 ≤ 10) → (0 ≤ z166 ∨ p2 ≤ 0) → (z166 < 0 ∨ 0 < p2) → (11 - z165) < (nL167 : Int) → loopF (WL_X8_lastStanding_W_2 w μ a1 p2 Q) False nL167 (z166, z165) → sV (gG l D c H0 sa) mX8_lastStanding (sRm 4 0 0) (sZ (gG l D c H0 sa) 0 0 (qP w μ (fun z => ((-1) ≤ z ∧ z ≤ 9) ∧ (z < 0 ∨ 0 < p2) ∧ Q z μ ∧ True))) 18 [(0, .ref 32), (1, .ref a1), (2, iv p2), (3, iv z166), (4, iv z165)] [] (mk w μ) 0 0 := by
    intro nL167
    induction nL167 with
    | zero => intro z166 z165 _ h168 h169 h173 h174 h175 W176; exact ((vc_X10_fillRing_1 h175 h169)).elim
    | succ nL167 ih177 =>
      intro z166 z165 _ h168 h169 h173 h174 h175 W176
      refine mr_iload (pc := 18) (z := z165) dX8_lastStanding_18 rfl ?_
      refine mr_iload_n (pc := 20) (z := p2) dX8_lastStanding_20 rfl rfl ?_
      refine mr_icmp_ge (pc := 21) (tgt := 63) dX8_lastStanding_21 (by decide) (r32 h169 rfl) (r32 h29 rfl) (fun h196 => ?_) (fun h196 => ?_)
      · refine mr_iload_n (pc := 63) (z := z166) dX8_lastStanding_63 rfl rfl ?_
        exact mr_iretP dX8_lastStanding_64 rfl (le_t rfl) (le_t rfl) ⟨(rW (c := (-1)) (d := 9) h168 rfl), (vc_X8_lastStanding_W_10 h6 h173 h174 h196 h29 h169 h168), ((W176 z166 z165 rfl h168 h169).1 h196), trivial⟩
      have h197 : 1 ≤ z165 ∧ z165 ≤ 9 := (vc_X8_lastStanding_W_11 h196 h6 h173 h174 h29 h169 h168)
      have h198 : 2 ≤ p2 ∧ p2 ≤ 10 := (vc_X8_lastStanding_W_12 h196 h6 h173 h174 h29 h197 h168)
      refine sv_aload_n (pc := 24) dX8_lastStanding_24 rfl rfl ?_
      refine sv_aload_n (pc := 25) dX8_lastStanding_25 rfl rfl ?_
      refine gf_X8_4 (pc := 26) dX8_lastStanding_26 wF_X8_34 (A_32 hw) hT ?_
      refine sv_aload_n (pc := 29) dX8_lastStanding_29 rfl rfl ?_
      refine gf_X8_5 (pc := 30) dX8_lastStanding_30 wF_X8_39 (A_32 hw) hT ?_
      refine mr_iload (pc := 33) (z := z165) dX8_lastStanding_33 rfl ?_
      refine la_66 (pc := 35) dX8_lastStanding_35 (A_66 hw) hT (rIx (n := 10) h197 rfl) fun z199 q200 h201 => ?_
      refine la_35 (pc := 36) dX8_lastStanding_36 (A_35 hw) hT (rIx (n := 10) h201 rfl) fun b202 q203 A204 => ?_
      refine sv_aload_n (pc := 37) dX8_lastStanding_37 rfl rfl ?_
      refine gf_X8_4 (pc := 38) dX8_lastStanding_38 wF_X8_34 (A_32 hw) hT ?_
      refine mr_iload_n (pc := 41) (z := z166) dX8_lastStanding_41 rfl rfl ?_
      refine la_35 (pc := 42) dX8_lastStanding_42 (A_35 hw) hT (rIx (n := 10) h168 rfl) fun b205 q206 A207 => ?_
      refine mr_cVP (pc := 43) (c_X0_prefers_W hw hT hA1 A204 A207 (((((W176 z166 z165 rfl h168 h169).2 h196) z199 q200 h201) b202 q203 A204) b205 q206 A207)) (gOk _ _ _ _ _) dX8_lastStanding_43 (tX0_prefers _ _ _ _ _) ⟨wV_X0_prefers, wL_X0_prefers⟩ wM_X8_235 (gCX0 _ _ _ _ _) rfl hA1 rfl ⟨le_t rfl, le_t rfl⟩ ⟨le_t rfl, le_t rfl⟩ rfl (le_t rfl) fun z212 h211 => ?_
      refine mr_if_eq (pc := 46) (tgt := 57) dX8_lastStanding_46 (by decide) (r32 h211.1 rfl) (fun h215 => ?_) (fun h215 => ?_)
      · have h216 : 0 ≤ z212 ∧ z212 ≤ 0 := (vc_X12_ring_22 h215 h211.1)
        refine mr_iinc (pc := 57) (lv' := [(4, iv (z165 + 1)), (0, .ref 32), (1, .ref a1), (2, iv p2), (3, iv z166)]) dX8_lastStanding_57 rfl (by decide) rfl ?_
        refine sv_goto (pc := 60) (tgt := 18) dX8_lastStanding_60 (by decide) ?_
        refine mr_lvS (lv' := [(0, .ref 32), (1, .ref a1), (2, iv p2), (3, iv z166), (4, iv (z165 + 1))]) (List.forall_mem_cons.mpr ⟨rfl, List.forall_mem_cons.mpr ⟨rfl, List.forall_mem_cons.mpr ⟨rfl, List.forall_mem_cons.mpr ⟨rfl, List.forall_mem_cons.mpr ⟨rfl, fun _ h => absurd h List.not_mem_nil⟩⟩⟩⟩⟩) ?_
        exact ih177 z166 (z165 + 1) trivial h168 (rW (c := 1) (d := 10) (rAdd (e := 2) (f := 10) h197 (rR (x := 1)) rfl) rfl) (vc_X8_lastStanding_W_14 h6 h173 h174 h196 h198 h197 h168) (vc_X8_lastStanding_W_15 h6 h173 h174 h196 h198 h197 h168) (vc_X8_lastStanding_W_16 (nS h175) h196 h6 h173 h174 h198 h197 h168) ((h211.2.1 h211.1).1 h215)
      have h217 : 1 ≤ z212 ∧ z212 ≤ 1 := (vc_X12_ring_24 h215 h211.1)
      refine sv_aload_n (pc := 49) dX8_lastStanding_49 rfl rfl ?_
      refine gf_X8_5 (pc := 50) dX8_lastStanding_50 wF_X8_39 (A_32 hw) hT ?_
      refine mr_iload (pc := 53) (z := z165) dX8_lastStanding_53 rfl ?_
      refine lk_66 (pc := 55) dX8_lastStanding_55 (A_66 hw) (rIx (n := 10) h197 rfl) q200 ?_
      refine mr_istore_n (pc := 56) (lv' := [(3, iv z199), (0, .ref 32), (1, .ref a1), (2, iv p2), (4, iv z165)]) dX8_lastStanding_56 rfl (by decide) rfl ?_
      refine mr_iinc (pc := 57) (lv' := [(4, iv (z165 + 1)), (3, iv z199), (0, .ref 32), (1, .ref a1), (2, iv p2)]) dX8_lastStanding_57 rfl (by decide) rfl ?_
      refine sv_goto (pc := 60) (tgt := 18) dX8_lastStanding_60 (by decide) ?_
      refine mr_lvS (lv' := [(0, .ref 32), (1, .ref a1), (2, iv p2), (3, iv z199), (4, iv (z165 + 1))]) (List.forall_mem_cons.mpr ⟨rfl, List.forall_mem_cons.mpr ⟨rfl, List.forall_mem_cons.mpr ⟨rfl, List.forall_mem_cons.mpr ⟨rfl, List.forall_mem_cons.mpr ⟨rfl, fun _ h => absurd h List.not_mem_nil⟩⟩⟩⟩⟩) ?_
      exact ih177 z199 (z165 + 1) trivial h201 (rW (c := 1) (d := 10) (rAdd (e := 2) (f := 10) h197 (rR (x := 1)) rfl) rfl) (vc_X8_lastStanding_W_18 h6 h173 h174 h196 h198 h197 h168 h201) (vc_X8_lastStanding_W_19 h6 h173 h174 h196 h198 h197 h168 h201) (vc_X8_lastStanding_W_16 (nS h175) h196 h6 h173 h174 h198 h197 h168) ((h211.2.1 h211.1).2 h215)
  refine mr_lvS (lv' := [(0, .ref 32), (1, .ref a1), (2, iv p2), (3, iv z30), (4, iv 1)]) (List.forall_mem_cons.mpr ⟨rfl, List.forall_mem_cons.mpr ⟨rfl, List.forall_mem_cons.mpr ⟨rfl, List.forall_mem_cons.mpr ⟨rfl, List.forall_mem_cons.mpr ⟨rfl, fun _ h => absurd h List.not_mem_nil⟩⟩⟩⟩⟩) ?_
  exact L167 11 z30 1 trivial h32 (rW (c := 1) (d := 10) (rR (x := 1)) rfl) (vc_X8_lastStanding_W_20 h6 h29 h32) (vc_X8_lastStanding_W_21 h6 h29 h32) vc_X10_fillRing_5 ((hQ.2 h6) z30 q31 h32)
def WL_X8_pickPlain_W_1 (w : mW) (μ : mM) (a1 : Nat) (Q : Int → mM → Prop) (rec1 : (Int × mM) → Prop) (s : (Int × mM)) : Prop := ∀ z97 : Int, ∀ μ98 : mM, s = (z97, μ98) → (0 ≤ z97 ∧ z97 ≤ 10) → mT w μ98 → mF [66999] w μ μ98 → ∀ z107 : Int, μ98 32 9 = z107 → (0 ≤ z107 ∧ z107 ≤ 10 ∧ (z107 = 0 ∨ 0 < w.2.2.2 1)) → ((z107 ≤ z97) → WP_X8_lastStanding_W w μ98 a1 z107 (fun z121 _ => ((-1) ≤ z121 ∧ z121 ≤ 9) → Q z121 μ98)) ∧ ((z97 < z107) → ∀ μ124 : mM, mU μ98 66 (z97.toNat) z97 μ124 → mT w μ124 → rec1 ((z97 + 1), μ124))
def WP_X8_pickPlain_W (w : mW) (μ : mM) (a1 : Nat) (Q : Int → mM → Prop) : Prop := loopF (WL_X8_pickPlain_W_1 w μ a1 Q) False 12 ((0 : Int), μ)
theorem vc_X8_pickPlain_W_2 {n1 z107 z121 z97 : Int} (h0 : (z107 = 0 ∨ 0 < n1)) (h1 : z121 < 0 ∨ 0 < z107) (h2 : z107 ≤ z97) (h3 : 0 ≤ z107 ∧ z107 ≤ 10) (h4 : (-1) ≤ z121 ∧ z121 ≤ 9) (h5 : 0 ≤ z97 ∧ z97 ≤ 10) : z121 < 0 ∨ 0 < n1 := by omega
theorem vc_X8_pickPlain_W_3 {n1 z107 z97 : Int} (h0 : z97 < z107) (h1 : (z107 = 0 ∨ 0 < n1)) (h2 : 0 ≤ z107 ∧ z107 ≤ 10) (h3 : 0 ≤ z97 ∧ z97 ≤ 10) : 0 ≤ z97 ∧ z97 ≤ 9 := by omega
theorem vc_X8_pickPlain_W_4 {n1 z107 z97 : Int} (h0 : z97 < z107) (h1 : (z107 = 0 ∨ 0 < n1)) (h2 : 0 ≤ z107 ∧ z107 ≤ 10) (h3 : 0 ≤ z97 ∧ z97 ≤ 9) : 1 ≤ z107 ∧ z107 ≤ 10 := by omega
theorem vc_X8_pickPlain_W_5 {N n1 z107 z97 : Int} (h0 : (11 - z97) < N + 1) (h1 : z97 < z107) (h2 : (z107 = 0 ∨ 0 < n1)) (h3 : 1 ≤ z107 ∧ z107 ≤ 10) (h4 : 0 ≤ z97 ∧ z97 ≤ 9) : (11 - (z97 + 1)) < N := by omega
set_option maxRecDepth 4000 in
set_option maxHeartbeats 4000000 in
theorem c_X8_pickPlain_W {l : Launch} {D : va_G} {c : Nat → ClassId} {H0 : Heap} {sa : Nat × Nat × (Nat → Int32)} {w : mW} {μ : mM} (hw : mWF w) (hT : mT w μ) {a1 : Nat} (hA1 : mAt w a1 210) {Q : Int → mM → Prop} (hQ : WP_X8_pickPlain_W w μ a1 Q) : sC (gG l D c H0 sa) mX8_pickPlain 5 0 0 [.ref 32, .ref a1] (mk w μ) (qI w [66999] μ (fun z μ1 => ((-1) ≤ z ∧ z ≤ 9) ∧ (z < 0 ∨ 0 < w.2.2.2 1) ∧ Q z μ1 ∧ True)) := by
  refine sC.of rfl (by decide) (le_t rfl) ?_
  refine mr_lvE (lv' := [(0, .ref 32), (1, .ref a1)]) rfl ?_
  refine mr_iconst (pc := 0) (z := 0) dX8_pickPlain_0 ?_
  refine mr_istore_n (pc := 1) (lv' := [(2, iv 0), (0, .ref 32), (1, .ref a1)]) dX8_pickPlain_1 rfl (by decide) rfl ?_
  have L99 : ∀ (nL99 : Nat) (z97 : Int) (μ98 : mM), mT w μ98 → mF [66999] w μ μ98 → (0 ≤ z97 ∧ z97 ≤ 10) → (11 - z97) < (nL99 : Int) → loopF (WL_X8_pickPlain_W_1 w μ a1 Q) False nL99 (z97, μ98) → sV (gG l D c H0 sa) mX8_pickPlain (sRm 5 0 0) (sZ (gG l D c H0 sa) 0 0 (qI w [66999] μ (fun z μ1 => ((-1) ≤ z ∧ z ≤ 9) ∧ (z < 0 ∨ 0 < w.2.2.2 1) ∧ Q z μ1 ∧ True))) 2 [(0, .ref 32), (1, .ref a1), (2, iv z97)] [] (mk w μ98) 0 0 := by
    intro nL99
    induction nL99 with
    | zero => intro z97 μ98 T101 F102 h100 h104 W105; exact ((vc_X12_ring_2 h104 h100)).elim
    | succ nL99 ih106 =>
      intro z97 μ98 T101 F102 h100 h104 W105
      refine mr_iload_n (pc := 2) (z := z97) dX8_pickPlain_2 rfl rfl ?_
      refine sv_aload_n (pc := 3) dX8_pickPlain_3 rfl rfl ?_
      refine gf_X8_9 (pc := 4) dX8_pickPlain_4 wF_X8_200 (A_32 hw) T101 fun z107 q108 h109 => ?_
      have h110 : 0 ≤ z107 ∧ z107 ≤ 10 := ⟨h109.1, h109.2.1⟩
      refine mr_icmp_ge (pc := 7) (tgt := 23) dX8_pickPlain_7 (by decide) (r32 h100 rfl) (r32 h110 rfl) (fun h116 => ?_) (fun h116 => ?_)
      · refine sv_aload_n (pc := 23) dX8_pickPlain_23 rfl rfl ?_
        refine sv_aload_n (pc := 24) dX8_pickPlain_24 rfl rfl ?_
        refine sv_aload_n (pc := 25) dX8_pickPlain_25 rfl rfl ?_
        refine gk_X8_9 (pc := 26) dX8_pickPlain_26 wF_X8_200 (A_32 hw) q108 ?_
        refine mr_cVP (pc := 29) (c_X8_lastStanding_W hw T101 hA1 h110 (((W105 z97 μ98 rfl h100 T101 F102) z107 q108 h109).1 h116)) (gOk _ _ _ _ _) dX8_pickPlain_29 (tX8_lastStanding _ _ _ _ _) ⟨wV_X8_lastStanding, wL_X8_lastStanding⟩ wM_X8_222 (gCX8 _ _ _ _ _) rfl (A_32 hw) rfl ⟨le_t rfl, le_t rfl⟩ ⟨le_t rfl, le_t rfl⟩ rfl (le_t rfl) fun z121 h120 => ?_
        exact mr_iret dX8_pickPlain_32 rfl (le_t rfl) (le_t rfl) T101 (mF.call mF.refl F102 rfl) ⟨h120.1, (vc_X8_pickPlain_W_2 h109.2.2 h120.2.1 h116 h110 h120.1 h100), (h120.2.2.1 h120.1), trivial⟩
      have h122 : 0 ≤ z97 ∧ z97 ≤ 9 := (vc_X8_pickPlain_W_3 h116 h109.2.2 h110 h100)
      have h123 : 1 ≤ z107 ∧ z107 ≤ 10 := (vc_X8_pickPlain_W_4 h116 h109.2.2 h110 h122)
      refine sv_aload_n (pc := 10) dX8_pickPlain_10 rfl rfl ?_
      refine gf_X8_5 (pc := 11) dX8_pickPlain_11 wF_X8_39 (A_32 hw) T101 ?_
      refine mr_iload_n (pc := 14) (z := z97) dX8_pickPlain_14 rfl rfl ?_
      refine mr_iload_n (pc := 15) (z := z97) dX8_pickPlain_15 rfl rfl ?_
      refine ss_66 (pc := 16) dX8_pickPlain_16 (A_66 hw) T101 (rIx (n := 10) h122 rfl) h122 fun μ124 u125 T126 => ?_
      refine mr_iinc (pc := 17) (lv' := [(2, iv (z97 + 1)), (0, .ref 32), (1, .ref a1)]) dX8_pickPlain_17 rfl (by decide) rfl ?_
      refine sv_goto (pc := 20) (tgt := 2) dX8_pickPlain_20 (by decide) ?_
      refine mr_lvS (lv' := [(0, .ref 32), (1, .ref a1), (2, iv (z97 + 1))]) (List.forall_mem_cons.mpr ⟨rfl, List.forall_mem_cons.mpr ⟨rfl, List.forall_mem_cons.mpr ⟨rfl, fun _ h => absurd h List.not_mem_nil⟩⟩⟩) ?_
      exact ih106 (z97 + 1) μ124 T126 (mF.up (mF.call mF.refl F102 rfl) (A_66 hw) u125 rfl) (rW (c := 0) (d := 10) (rAdd (e := 1) (f := 10) h122 (rR (x := 1)) rfl) rfl) (vc_X8_pickPlain_W_5 (nS h104) h116 h109.2.2 h123 h122) ((((W105 z97 μ98 rfl h100 T101 F102) z107 q108 h109).2 h116) μ124 u125 T126)
  refine mr_lvS (lv' := [(0, .ref 32), (1, .ref a1), (2, iv 0)]) (List.forall_mem_cons.mpr ⟨rfl, List.forall_mem_cons.mpr ⟨rfl, List.forall_mem_cons.mpr ⟨rfl, fun _ h => absurd h List.not_mem_nil⟩⟩⟩) ?_
  exact L99 12 0 μ hT mF.refl (rW (c := 0) (d := 10) (rR (x := 0)) rfl) vc_X12_ring_27 hQ
def WL_X8_isFirstOfGroup_W_1 (w : mW) (μ : mM) (p1 : Int) (Q : Int → mM → Prop) (rec1 : (Int) → Prop) (s : (Int)) : Prop := ∀ z97 : Int, s = (z97) → (0 ≤ z97 ∧ z97 ≤ 9) → ((p1 ≤ z97) → Q (1 : Int) μ) ∧ ((z97 < p1) → ∀ b109 : Nat, μ 35 (z97.toNat) = (b109 : Int) → mAt w b109 200 → ∀ b112 : Nat, μ 35 (p1.toNat) = (b112 : Int) → mAt w b112 200 → WP_X7_sharesFirst_W w μ b109 b112 (fun z119 _ => (0 ≤ z119 ∧ z119 ≤ 1) → ((z119 = 0) → rec1 ((z97 + 1))) ∧ ((¬ z119 = 0) → Q (0 : Int) μ)))
def WP_X8_isFirstOfGroup_W (w : mW) (μ : mM) (p1 : Int) (Q : Int → mM → Prop) : Prop := loopF (WL_X8_isFirstOfGroup_W_1 w μ p1 Q) False 11 ((0 : Int))
theorem vc_X8_isFirstOfGroup_W_2 {p1 z97 : Int} (h0 : z97 < p1) (h1 : 0 ≤ p1 ∧ p1 ≤ 9) (h2 : 0 ≤ z97 ∧ z97 ≤ 9) : 0 ≤ z97 ∧ z97 ≤ 8 := by omega
theorem vc_X8_isFirstOfGroup_W_3 {p1 z97 : Int} (h0 : z97 < p1) (h1 : 0 ≤ p1 ∧ p1 ≤ 9) (h2 : 0 ≤ z97 ∧ z97 ≤ 8) : 1 ≤ p1 ∧ p1 ≤ 9 := by omega
theorem vc_X8_isFirstOfGroup_W_5 {N p1 z97 : Int} (h0 : (10 - z97) < N + 1) (h1 : z97 < p1) (h2 : 1 ≤ p1 ∧ p1 ≤ 9) (h3 : 0 ≤ z97 ∧ z97 ≤ 8) : (10 - (z97 + 1)) < N := by omega
set_option maxRecDepth 4000 in
set_option maxHeartbeats 4000000 in
theorem c_X8_isFirstOfGroup_W {l : Launch} {D : va_G} {c : Nat → ClassId} {H0 : Heap} {sa : Nat × Nat × (Nat → Int32)} {w : mW} {μ : mM} (hw : mWF w) (hT : mT w μ) {p1 : Int} (hp1 : 0 ≤ p1 ∧ p1 ≤ 9) {Q : Int → mM → Prop} (hQ : WP_X8_isFirstOfGroup_W w μ p1 Q) : sC (gG l D c H0 sa) mX8_isFirstOfGroup 2 0 0 [.ref 32, iv p1] (mk w μ) (qP w μ (fun z => (0 ≤ z ∧ z ≤ 1) ∧ Q z μ ∧ True)) := by
  refine sC.of rfl (by decide) (le_t rfl) ?_
  refine mr_lvE (lv' := [(0, .ref 32), (1, iv p1)]) rfl ?_
  refine mr_iconst (pc := 0) (z := 0) dX8_isFirstOfGroup_0 ?_
  refine mr_istore_n (pc := 1) (lv' := [(2, iv 0), (0, .ref 32), (1, iv p1)]) dX8_isFirstOfGroup_1 rfl (by decide) rfl ?_
  have L98 : ∀ (nL98 : Nat) (z97 : Int), True → (0 ≤ z97 ∧ z97 ≤ 9) → (10 - z97) < (nL98 : Int) → loopF (WL_X8_isFirstOfGroup_W_1 w μ p1 Q) False nL98 (z97) → sV (gG l D c H0 sa) mX8_isFirstOfGroup (sRm 2 0 0) (sZ (gG l D c H0 sa) 0 0 (qP w μ (fun z => (0 ≤ z ∧ z ≤ 1) ∧ Q z μ ∧ True))) 2 [(0, .ref 32), (1, iv p1), (2, iv z97)] [] (mk w μ) 0 0 := by
    intro nL98
    induction nL98 with
    | zero => intro z97 _ h99 h103 W104; exact ((vc_X12_ring_13 h103 h99)).elim
    | succ nL98 ih105 =>
      intro z97 _ h99 h103 W104
      refine mr_iload_n (pc := 2) (z := z97) dX8_isFirstOfGroup_2 rfl rfl ?_
      refine mr_iload_n (pc := 3) (z := p1) dX8_isFirstOfGroup_3 rfl rfl ?_
      refine mr_icmp_ge (pc := 4) (tgt := 33) dX8_isFirstOfGroup_4 (by decide) (r32 h99 rfl) (r32 hp1 rfl) (fun h106 => ?_) (fun h106 => ?_)
      · refine mr_iconst (pc := 33) (z := 1) dX8_isFirstOfGroup_33 ?_
        exact mr_zretP dX8_isFirstOfGroup_34 rfl (rW (c := 0) (d := 1) (rR (x := 1)) rfl) (le_t rfl) (le_t rfl) ⟨(rW (c := 0) (d := 1) (rR (x := 1)) rfl), ((W104 z97 rfl h99).1 h106), trivial⟩
      have h107 : 0 ≤ z97 ∧ z97 ≤ 8 := (vc_X8_isFirstOfGroup_W_2 h106 hp1 h99)
      have h108 : 1 ≤ p1 ∧ p1 ≤ 9 := (vc_X8_isFirstOfGroup_W_3 h106 hp1 h107)
      refine sv_aload_n (pc := 7) dX8_isFirstOfGroup_7 rfl rfl ?_
      refine gf_X8_4 (pc := 8) dX8_isFirstOfGroup_8 wF_X8_34 (A_32 hw) hT ?_
      refine mr_iload_n (pc := 11) (z := z97) dX8_isFirstOfGroup_11 rfl rfl ?_
      refine la_35 (pc := 12) dX8_isFirstOfGroup_12 (A_35 hw) hT (rIx (n := 10) h107 rfl) fun b109 q110 A111 => ?_
      refine sv_aload_n (pc := 13) dX8_isFirstOfGroup_13 rfl rfl ?_
      refine gf_X8_4 (pc := 14) dX8_isFirstOfGroup_14 wF_X8_34 (A_32 hw) hT ?_
      refine mr_iload_n (pc := 17) (z := p1) dX8_isFirstOfGroup_17 rfl rfl ?_
      refine la_35 (pc := 18) dX8_isFirstOfGroup_18 (A_35 hw) hT (rIx (n := 10) h108 rfl) fun b112 q113 A114 => ?_
      refine mr_cVP (pc := 19) (c_X7_sharesFirst_W hw hT A111 A114 ((((W104 z97 rfl h99).2 h106) b109 q110 A111) b112 q113 A114)) (gOk _ _ _ _ _) dX8_isFirstOfGroup_19 (tX7_sharesFirst _ _ _ _ _) ⟨wV_X7_sharesFirst, wL_X7_sharesFirst⟩ wM_X8_239 (gCX7 _ _ _ _ _) rfl A111 rfl ⟨le_t rfl, le_t rfl⟩ ⟨le_t rfl, le_t rfl⟩ rfl (le_t rfl) fun z119 h118 => ?_
      refine mr_if_eq (pc := 22) (tgt := 27) dX8_isFirstOfGroup_22 (by decide) (r32 h118.1 rfl) (fun h120 => ?_) (fun h120 => ?_)
      · have h121 : 0 ≤ z119 ∧ z119 ≤ 0 := (vc_X12_ring_22 h120 h118.1)
        refine mr_iinc (pc := 27) (lv' := [(2, iv (z97 + 1)), (0, .ref 32), (1, iv p1)]) dX8_isFirstOfGroup_27 rfl (by decide) rfl ?_
        refine sv_goto (pc := 30) (tgt := 2) dX8_isFirstOfGroup_30 (by decide) ?_
        refine mr_lvS (lv' := [(0, .ref 32), (1, iv p1), (2, iv (z97 + 1))]) (List.forall_mem_cons.mpr ⟨rfl, List.forall_mem_cons.mpr ⟨rfl, List.forall_mem_cons.mpr ⟨rfl, fun _ h => absurd h List.not_mem_nil⟩⟩⟩) ?_
        exact ih105 (z97 + 1) trivial (rW (c := 0) (d := 9) (rAdd (e := 1) (f := 9) h107 (rR (x := 1)) rfl) rfl) (vc_X8_isFirstOfGroup_W_5 (nS h103) h106 h108 h107) ((h118.2.1 h118.1).1 h120)
      have h122 : 1 ≤ z119 ∧ z119 ≤ 1 := (vc_X12_ring_24 h120 h118.1)
      refine mr_iconst (pc := 25) (z := 0) dX8_isFirstOfGroup_25 ?_
      exact mr_zretP dX8_isFirstOfGroup_26 rfl (rW (c := 0) (d := 1) (rR (x := 0)) rfl) (le_t rfl) (le_t rfl) ⟨(rW (c := 0) (d := 1) (rR (x := 0)) rfl), ((h118.2.1 h118.1).2 h120), trivial⟩
  refine mr_lvS (lv' := [(0, .ref 32), (1, iv p1), (2, iv 0)]) (List.forall_mem_cons.mpr ⟨rfl, List.forall_mem_cons.mpr ⟨rfl, List.forall_mem_cons.mpr ⟨rfl, fun _ h => absurd h List.not_mem_nil⟩⟩⟩) ?_
  exact L98 11 0 trivial (rW (c := 0) (d := 9) (rR (x := 0)) rfl) vc_X12_ring_28 hQ
def WL_X8_bestOfGroup_W_1 (w : mW) (μ : mM) (a1 : Nat) (p2 : Int) (Q : Int → mM → Prop) (rec1 : (Int × Int) → Prop) (s : (Int × Int)) : Prop := ∀ z64 : Int, ∀ z63 : Int, s = (z64, z63) → (0 ≤ z64 ∧ z64 ≤ 9) → (1 ≤ z63 ∧ z63 ≤ 10) → ∀ z74 : Int, μ 32 9 = z74 → (0 ≤ z74 ∧ z74 ≤ 10 ∧ (z74 = 0 ∨ 0 < w.2.2.2 1)) → ((z74 ≤ z63) → Q z64 μ) ∧ ((z63 < z74) → ∀ b106 : Nat, μ 35 (z63.toNat) = (b106 : Int) → mAt w b106 200 → ∀ b109 : Nat, μ 35 (p2.toNat) = (b109 : Int) → mAt w b109 200 → WP_X7_sharesFirst_W w μ b106 b109 (fun z116 _ => (0 ≤ z116 ∧ z116 ≤ 1) → ((z116 = 0) → rec1 (z64, (z63 + 1))) ∧ ((¬ z116 = 0) → ∀ b132 : Nat, μ 35 (z64.toNat) = (b132 : Int) → mAt w b132 200 → WP_X0_prefers_W w μ a1 b106 b132 (fun z139 _ => (0 ≤ z139 ∧ z139 ≤ 1) → ((z139 = 0) → rec1 (z64, (z63 + 1))) ∧ ((¬ z139 = 0) → rec1 (z63, (z63 + 1)))))))
def WP_X8_bestOfGroup_W (w : mW) (μ : mM) (a1 : Nat) (p2 : Int) (Q : Int → mM → Prop) : Prop := loopF (WL_X8_bestOfGroup_W_1 w μ a1 p2 Q) False 11 (p2, (p2 + 1))
theorem vc_X8_bestOfGroup_W_2 {n1 z63 z74 : Int} (h0 : z63 < z74) (h1 : (z74 = 0 ∨ 0 < n1)) (h2 : 1 ≤ z63 ∧ z63 ≤ 10) (h3 : 0 ≤ z74 ∧ z74 ≤ 10) : 1 ≤ z63 ∧ z63 ≤ 9 := by omega
theorem vc_X8_bestOfGroup_W_3 {n1 z63 z74 : Int} (h0 : z63 < z74) (h1 : (z74 = 0 ∨ 0 < n1)) (h2 : 1 ≤ z63 ∧ z63 ≤ 9) (h3 : 0 ≤ z74 ∧ z74 ≤ 10) : 2 ≤ z74 ∧ z74 ≤ 10 := by omega
theorem vc_X8_bestOfGroup_W_5 {N n1 z63 z74 : Int} (h0 : (11 - z63) < N + 1) (h1 : z63 < z74) (h2 : (z74 = 0 ∨ 0 < n1)) (h3 : 1 ≤ z63 ∧ z63 ≤ 9) (h4 : 2 ≤ z74 ∧ z74 ≤ 10) : (11 - (z63 + 1)) < N := by omega
theorem vc_X8_bestOfGroup_W_9 {p2 : Int} (h0 : 0 ≤ p2 ∧ p2 ≤ 9) : (11 - (p2 + 1)) < ((11 : Nat) : Int) := by omega
set_option maxRecDepth 4000 in
set_option maxHeartbeats 4000000 in
theorem c_X8_bestOfGroup_W {l : Launch} {D : va_G} {c : Nat → ClassId} {H0 : Heap} {sa : Nat × Nat × (Nat → Int32)} {w : mW} {μ : mM} (hw : mWF w) (hT : mT w μ) {a1 : Nat} (hA1 : mAt w a1 210) {p2 : Int} (hp2 : 0 ≤ p2 ∧ p2 ≤ 9) {Q : Int → mM → Prop} (hQ : WP_X8_bestOfGroup_W w μ a1 p2 Q) : sC (gG l D c H0 sa) mX8_bestOfGroup 4 0 0 [.ref 32, .ref a1, iv p2] (mk w μ) (qP w μ (fun z => (0 ≤ z ∧ z ≤ 9) ∧ Q z μ ∧ True)) := by
  refine sC.of rfl (by decide) (le_t rfl) ?_
  refine mr_lvE (lv' := [(0, .ref 32), (1, .ref a1), (2, iv p2)]) rfl ?_
  refine mr_iload_n (pc := 0) (z := p2) dX8_bestOfGroup_0 rfl rfl ?_
  refine mr_istore_n (pc := 1) (lv' := [(3, iv p2), (0, .ref 32), (1, .ref a1), (2, iv p2)]) dX8_bestOfGroup_1 rfl (by decide) rfl ?_
  refine mr_iload_n (pc := 2) (z := p2) dX8_bestOfGroup_2 rfl rfl ?_
  refine mr_iconst (pc := 3) (z := 1) dX8_bestOfGroup_3 ?_
  refine mr_iadd (pc := 4) (x := p2) (y := 1) dX8_bestOfGroup_4 ?_
  refine mr_istore (pc := 5) (lv' := [(4, iv (p2 + 1)), (3, iv p2), (0, .ref 32), (1, .ref a1), (2, iv p2)]) dX8_bestOfGroup_5 (by decide) rfl ?_
  have L65 : ∀ (nL65 : Nat) (z64 z63 : Int), True → (0 ≤ z64 ∧ z64 ≤ 9) → (1 ≤ z63 ∧ z63 ≤ 10) → (11 - z63) < (nL65 : Int) → loopF (WL_X8_bestOfGroup_W_1 w μ a1 p2 Q) False nL65 (z64, z63) → sV (gG l D c H0 sa) mX8_bestOfGroup (sRm 4 0 0) (sZ (gG l D c H0 sa) 0 0 (qP w μ (fun z => (0 ≤ z ∧ z ≤ 9) ∧ Q z μ ∧ True))) 7 [(0, .ref 32), (1, .ref a1), (2, iv p2), (3, iv z64), (4, iv z63)] [] (mk w μ) 0 0 := by
    intro nL65
    induction nL65 with
    | zero => intro z64 z63 _ h66 h67 h71 W72; exact ((vc_X10_fillRing_1 h71 h67)).elim
    | succ nL65 ih73 =>
      intro z64 z63 _ h66 h67 h71 W72
      refine mr_iload (pc := 7) (z := z63) dX8_bestOfGroup_7 rfl ?_
      refine sv_aload_n (pc := 9) dX8_bestOfGroup_9 rfl rfl ?_
      refine gf_X8_9 (pc := 10) dX8_bestOfGroup_10 wF_X8_200 (A_32 hw) hT fun z74 q75 h76 => ?_
      have h77 : 0 ≤ z74 ∧ z74 ≤ 10 := ⟨h76.1, h76.2.1⟩
      refine mr_icmp_ge (pc := 13) (tgt := 64) dX8_bestOfGroup_13 (by decide) (r32 h67 rfl) (r32 h77 rfl) (fun h103 => ?_) (fun h103 => ?_)
      · refine mr_iload_n (pc := 64) (z := z64) dX8_bestOfGroup_64 rfl rfl ?_
        exact mr_iretP dX8_bestOfGroup_65 rfl (le_t rfl) (le_t rfl) ⟨h66, (((W72 z64 z63 rfl h66 h67) z74 q75 h76).1 h103), trivial⟩
      have h104 : 1 ≤ z63 ∧ z63 ≤ 9 := (vc_X8_bestOfGroup_W_2 h103 h76.2.2 h67 h77)
      have h105 : 2 ≤ z74 ∧ z74 ≤ 10 := (vc_X8_bestOfGroup_W_3 h103 h76.2.2 h104 h77)
      refine sv_aload_n (pc := 16) dX8_bestOfGroup_16 rfl rfl ?_
      refine gf_X8_4 (pc := 17) dX8_bestOfGroup_17 wF_X8_34 (A_32 hw) hT ?_
      refine mr_iload (pc := 20) (z := z63) dX8_bestOfGroup_20 rfl ?_
      refine la_35 (pc := 22) dX8_bestOfGroup_22 (A_35 hw) hT (rIx (n := 10) h104 rfl) fun b106 q107 A108 => ?_
      refine sv_aload_n (pc := 23) dX8_bestOfGroup_23 rfl rfl ?_
      refine gf_X8_4 (pc := 24) dX8_bestOfGroup_24 wF_X8_34 (A_32 hw) hT ?_
      refine mr_iload_n (pc := 27) (z := p2) dX8_bestOfGroup_27 rfl rfl ?_
      refine la_35 (pc := 28) dX8_bestOfGroup_28 (A_35 hw) hT (rIx (n := 10) hp2 rfl) fun b109 q110 A111 => ?_
      refine mr_cVP (pc := 29) (c_X7_sharesFirst_W hw hT A108 A111 (((((W72 z64 z63 rfl h66 h67) z74 q75 h76).2 h103) b106 q107 A108) b109 q110 A111)) (gOk _ _ _ _ _) dX8_bestOfGroup_29 (tX7_sharesFirst _ _ _ _ _) ⟨wV_X7_sharesFirst, wL_X7_sharesFirst⟩ wM_X8_239 (gCX7 _ _ _ _ _) rfl A108 rfl ⟨le_t rfl, le_t rfl⟩ ⟨le_t rfl, le_t rfl⟩ rfl (le_t rfl) fun z116 h115 => ?_
      refine mr_if_eq (pc := 32) (tgt := 58) dX8_bestOfGroup_32 (by decide) (r32 h115.1 rfl) (fun h129 => ?_) (fun h129 => ?_)
      · have h130 : 0 ≤ z116 ∧ z116 ≤ 0 := (vc_X12_ring_22 h129 h115.1)
        refine mr_iinc (pc := 58) (lv' := [(4, iv (z63 + 1)), (0, .ref 32), (1, .ref a1), (2, iv p2), (3, iv z64)]) dX8_bestOfGroup_58 rfl (by decide) rfl ?_
        refine sv_goto (pc := 61) (tgt := 7) dX8_bestOfGroup_61 (by decide) ?_
        refine mr_lvS (lv' := [(0, .ref 32), (1, .ref a1), (2, iv p2), (3, iv z64), (4, iv (z63 + 1))]) (List.forall_mem_cons.mpr ⟨rfl, List.forall_mem_cons.mpr ⟨rfl, List.forall_mem_cons.mpr ⟨rfl, List.forall_mem_cons.mpr ⟨rfl, List.forall_mem_cons.mpr ⟨rfl, fun _ h => absurd h List.not_mem_nil⟩⟩⟩⟩⟩) ?_
        exact ih73 z64 (z63 + 1) trivial h66 (rW (c := 1) (d := 10) (rAdd (e := 2) (f := 10) h104 (rR (x := 1)) rfl) rfl) (vc_X8_bestOfGroup_W_5 (nS h71) h103 h76.2.2 h104 h105) ((h115.2.1 h115.1).1 h129)
      have h131 : 1 ≤ z116 ∧ z116 ≤ 1 := (vc_X12_ring_24 h129 h115.1)
      refine sv_aload_n (pc := 35) dX8_bestOfGroup_35 rfl rfl ?_
      refine sv_aload_n (pc := 36) dX8_bestOfGroup_36 rfl rfl ?_
      refine gf_X8_4 (pc := 37) dX8_bestOfGroup_37 wF_X8_34 (A_32 hw) hT ?_
      refine mr_iload (pc := 40) (z := z63) dX8_bestOfGroup_40 rfl ?_
      refine lk_35 (pc := 42) dX8_bestOfGroup_42 (A_35 hw) (rIx (n := 10) h104 rfl) q107 ?_
      refine sv_aload_n (pc := 43) dX8_bestOfGroup_43 rfl rfl ?_
      refine gf_X8_4 (pc := 44) dX8_bestOfGroup_44 wF_X8_34 (A_32 hw) hT ?_
      refine mr_iload_n (pc := 47) (z := z64) dX8_bestOfGroup_47 rfl rfl ?_
      refine la_35 (pc := 48) dX8_bestOfGroup_48 (A_35 hw) hT (rIx (n := 10) h66 rfl) fun b132 q133 A134 => ?_
      refine mr_cVP (pc := 49) (c_X0_prefers_W hw hT hA1 A108 A134 (((h115.2.1 h115.1).2 h129) b132 q133 A134)) (gOk _ _ _ _ _) dX8_bestOfGroup_49 (tX0_prefers _ _ _ _ _) ⟨wV_X0_prefers, wL_X0_prefers⟩ wM_X8_235 (gCX0 _ _ _ _ _) rfl hA1 rfl ⟨le_t rfl, le_t rfl⟩ ⟨le_t rfl, le_t rfl⟩ rfl (le_t rfl) fun z139 h138 => ?_
      refine mr_if_eq (pc := 52) (tgt := 58) dX8_bestOfGroup_52 (by decide) (r32 h138.1 rfl) (fun h142 => ?_) (fun h142 => ?_)
      · have h143 : 0 ≤ z139 ∧ z139 ≤ 0 := (vc_X12_ring_22 h142 h138.1)
        refine mr_iinc (pc := 58) (lv' := [(4, iv (z63 + 1)), (0, .ref 32), (1, .ref a1), (2, iv p2), (3, iv z64)]) dX8_bestOfGroup_58 rfl (by decide) rfl ?_
        refine sv_goto (pc := 61) (tgt := 7) dX8_bestOfGroup_61 (by decide) ?_
        refine mr_lvS (lv' := [(0, .ref 32), (1, .ref a1), (2, iv p2), (3, iv z64), (4, iv (z63 + 1))]) (List.forall_mem_cons.mpr ⟨rfl, List.forall_mem_cons.mpr ⟨rfl, List.forall_mem_cons.mpr ⟨rfl, List.forall_mem_cons.mpr ⟨rfl, List.forall_mem_cons.mpr ⟨rfl, fun _ h => absurd h List.not_mem_nil⟩⟩⟩⟩⟩) ?_
        exact ih73 z64 (z63 + 1) trivial h66 (rW (c := 1) (d := 10) (rAdd (e := 2) (f := 10) h104 (rR (x := 1)) rfl) rfl) (vc_X8_bestOfGroup_W_5 (nS h71) h103 h76.2.2 h104 h105) ((h138.2.1 h138.1).1 h142)
      have h144 : 1 ≤ z139 ∧ z139 ≤ 1 := (vc_X12_ring_24 h142 h138.1)
      refine mr_iload (pc := 55) (z := z63) dX8_bestOfGroup_55 rfl ?_
      refine mr_istore_n (pc := 57) (lv' := [(3, iv z63), (0, .ref 32), (1, .ref a1), (2, iv p2), (4, iv z63)]) dX8_bestOfGroup_57 rfl (by decide) rfl ?_
      refine mr_iinc (pc := 58) (lv' := [(4, iv (z63 + 1)), (3, iv z63), (0, .ref 32), (1, .ref a1), (2, iv p2)]) dX8_bestOfGroup_58 rfl (by decide) rfl ?_
      refine sv_goto (pc := 61) (tgt := 7) dX8_bestOfGroup_61 (by decide) ?_
      refine mr_lvS (lv' := [(0, .ref 32), (1, .ref a1), (2, iv p2), (3, iv z63), (4, iv (z63 + 1))]) (List.forall_mem_cons.mpr ⟨rfl, List.forall_mem_cons.mpr ⟨rfl, List.forall_mem_cons.mpr ⟨rfl, List.forall_mem_cons.mpr ⟨rfl, List.forall_mem_cons.mpr ⟨rfl, fun _ h => absurd h List.not_mem_nil⟩⟩⟩⟩⟩) ?_
      exact ih73 z63 (z63 + 1) trivial (rW (c := 0) (d := 9) h104 rfl) (rW (c := 1) (d := 10) (rAdd (e := 2) (f := 10) h104 (rR (x := 1)) rfl) rfl) (vc_X8_bestOfGroup_W_5 (nS h71) h103 h76.2.2 h104 h105) ((h138.2.1 h138.1).2 h142)
  refine mr_lvS (lv' := [(0, .ref 32), (1, .ref a1), (2, iv p2), (3, iv p2), (4, iv (p2 + 1))]) (List.forall_mem_cons.mpr ⟨rfl, List.forall_mem_cons.mpr ⟨rfl, List.forall_mem_cons.mpr ⟨rfl, List.forall_mem_cons.mpr ⟨rfl, List.forall_mem_cons.mpr ⟨rfl, fun _ h => absurd h List.not_mem_nil⟩⟩⟩⟩⟩) ?_
  exact L65 11 p2 (p2 + 1) trivial hp2 (rAdd (e := 1) (f := 10) hp2 (rR (x := 1)) rfl) (vc_X8_bestOfGroup_W_9 hp2) hQ
def WP_X8_groupOrder_W (w : mW) (μ : mM) (p1 : Int) (Q : Int → mM → Prop) : Prop := ∀ b1 : Nat, μ 35 (p1.toNat) = (b1 : Int) → mAt w b1 200 → ∀ z4 : Int, μ b1 7 = z4 → (0 ≤ z4 ∧ z4 ≤ 20) → ((¬ z4 = 0) → ∀ z22 : Int, μ (b1 + 1) ((0 : Int).toNat) = z22 → ((-2147483648) ≤ z22 ∧ z22 ≤ 2147483647) → ∀ z25 : Int, z22 = z25 → ∀ z28 : Int, lAnd z25 (4294967295 : Int) = z28 → Q z28 μ) ∧ ((z4 = 0) → Q ((-1) : Int) μ)
set_option maxRecDepth 4000 in
set_option maxHeartbeats 4000000 in
theorem c_X8_groupOrder_W {l : Launch} {D : va_G} {c : Nat → ClassId} {H0 : Heap} {sa : Nat × Nat × (Nat → Int32)} {w : mW} {μ : mM} (hw : mWF w) (hT : mT w μ) {p1 : Int} (hp1 : 0 ≤ p1 ∧ p1 ≤ 9) {Q : Int → mM → Prop} (hQ : WP_X8_groupOrder_W w μ p1 Q) : sC (gG l D c H0 sa) mX8_groupOrder 1 0 0 [.ref 32, iv p1] (mk w μ) (qJ w [] μ (fun z μ1 => ((-9223372036854775808) ≤ z ∧ z ≤ 9223372036854775807) ∧ Q z μ1 ∧ True)) := by
  refine sC.of rfl (by decide) (le_t rfl) ?_
  refine mr_lvE (lv' := [(0, .ref 32), (1, iv p1)]) rfl ?_
  refine sv_aload_n (pc := 0) dX8_groupOrder_0 rfl rfl ?_
  refine gf_X8_4 (pc := 1) dX8_groupOrder_1 wF_X8_34 (A_32 hw) hT ?_
  refine mr_iload_n (pc := 4) (z := p1) dX8_groupOrder_4 rfl rfl ?_
  refine la_35 (pc := 5) dX8_groupOrder_5 (A_35 hw) hT (rIx (n := 10) hp1 rfl) fun b1 q2 A3 => ?_
  refine gf_X7_7 (pc := 6) dX8_groupOrder_6 wF_X8_246 A3 hT fun z4 q5 h6 => ?_
  refine mr_if_ne (pc := 9) (tgt := 18) dX8_groupOrder_9 (by decide) (r32 h6 rfl) (fun h19 => ?_) (fun h19 => ?_)
  · have h20 : 1 ≤ z4 ∧ z4 ≤ 20 := (vc_X12_waysMatch_2 h19 h6)
    refine sv_aload_n (pc := 18) dX8_groupOrder_18 rfl rfl ?_
    refine gf_X8_4 (pc := 19) dX8_groupOrder_19 wF_X8_34 (A_32 hw) hT ?_
    refine mr_iload_n (pc := 22) (z := p1) dX8_groupOrder_22 rfl rfl ?_
    refine lk_35 (pc := 23) dX8_groupOrder_23 (A_35 hw) (rIx (n := 10) hp1 rfl) q2 ?_
    refine gf_X7_0 (pc := 24) dX8_groupOrder_24 wF_X8_251 A3 hT fun A21 => ?_
    refine mr_iconst (pc := 27) (z := 0) dX8_groupOrder_27 ?_
    refine la_201 (pc := 28) dX8_groupOrder_28 A21 hT (rIx (n := 20) (rR (x := 0)) rfl) fun z22 q23 h24 => ?_
    refine mr_i2l (pc := 29) dX8_groupOrder_29 h24 ?_
    refine mr_genL (r3264 h24) fun z25 q26 h27 => ?_
    refine mr_ldc2 (pc := 30) (z := 4294967295) dX8_groupOrder_30 wH_X8_254 (by decide) ?_
    refine mr_land (pc := 33) dX8_groupOrder_33 ?_
    refine mr_genL (r64i _) fun z28 q29 h30 => ?_
    exact mr_lret dX8_groupOrder_34 rfl (le_t rfl) (le_t rfl) hT mF.refl ⟨h30, ((((((hQ b1 q2 A3) z4 q5 h6).1 h19) z22 q23 h24) z25 q26) z28 q29), trivial⟩
  have h31 : 0 ≤ z4 ∧ z4 ≤ 0 := (vc_X12_waysMatch_23 h19 h6)
  refine mr_ldc2 (pc := 12) (z := (-1)) dX8_groupOrder_12 wH_X8_249 (by decide) ?_
  refine sv_goto (pc := 15) (tgt := 34) dX8_groupOrder_15 (by decide) ?_
  exact mr_lret dX8_groupOrder_34 rfl (le_t rfl) (le_t rfl) hT mF.refl ⟨(rW (c := -9223372036854775808) (d := 9223372036854775807) (rR (x := (-1))) rfl), (((hQ b1 q2 A3) z4 q5 h6).2 h19), trivial⟩
def WL_X8_insertWinner_W_1 (w : mW) (μ : mM) (p2 : Int) (Q : mM → Prop) (rec1 : (Int × mM) → Prop) (s : (Int × mM)) : Prop := ∀ z63 : Int, ∀ μ64 : mM, s = (z63, μ64) → (0 ≤ z63 ∧ z63 ≤ 9) → mT w μ64 → mF [66999] w μ μ64 → ((z63 ≤ 0) → ∀ μ98 : mM, mU μ64 66 (z63.toNat) p2 μ98 → mT w μ98 → Q μ98) ∧ ((0 < z63) → ∀ z102 : Int, μ64 66 ((z63 - 1).toNat) = z102 → (0 ≤ z102 ∧ z102 ≤ 9) → WP_X8_groupOrder_W w μ64 z102 (fun z109 μ105 => mT w μ105 → mF [] w μ64 μ105 → ((-9223372036854775808) ≤ z109 ∧ z109 ≤ 9223372036854775807) → WP_X8_groupOrder_W w μ105 p2 (fun z114 μ110 => mT w μ110 → mF [] w μ105 μ110 → ((-9223372036854775808) ≤ z114 ∧ z114 ≤ 9223372036854775807) → ∀ z115 : Int, lCmp z109 z114 = z115 → ((z115 ≤ 0) → ∀ μ125 : mM, mU μ110 66 (z63.toNat) p2 μ125 → mT w μ125 → Q μ125) ∧ ((0 < z115) → ∀ μ129 : mM, mU μ110 66 (z63.toNat) z102 μ129 → mT w μ129 → rec1 ((z63 + (-1)), μ129)))))
def WP_X8_insertWinner_W (w : mW) (μ : mM) (p1 : Int) (p2 : Int) (Q : mM → Prop) : Prop := loopF (WL_X8_insertWinner_W_1 w μ p2 Q) False 11 (p1, μ)
theorem vc_X8_insertWinner_W_1 {z63 : Int} (h0 : (z63 - (-1)) < ((0 : Nat) : Int)) (h1 : 0 ≤ z63 ∧ z63 ≤ 9) : False := by omega
theorem vc_X8_insertWinner_W_2 {z63 : Int} (h0 : z63 ≤ 0) (h1 : 0 ≤ z63 ∧ z63 ≤ 9) : 0 ≤ z63 ∧ z63 ≤ 0 := by omega
theorem vc_X8_insertWinner_W_3 {z63 : Int} (h0 : 0 < z63) (h1 : 0 ≤ z63 ∧ z63 ≤ 9) : 1 ≤ z63 ∧ z63 ≤ 9 := by omega
theorem vc_X8_insertWinner_W_6 {N z63 : Int} (h0 : (z63 - (-1)) < N + 1) (h1 : 0 < z63) (h2 : 1 ≤ z63 ∧ z63 ≤ 9) : ((z63 + (-1)) - (-1)) < N := by omega
theorem vc_X8_insertWinner_W_7 {p1 : Int} (h0 : 0 ≤ p1 ∧ p1 ≤ 9) : (p1 - (-1)) < ((11 : Nat) : Int) := by omega
set_option maxRecDepth 4000 in
set_option maxHeartbeats 4000000 in
theorem c_X8_insertWinner_W {l : Launch} {D : va_G} {c : Nat → ClassId} {H0 : Heap} {sa : Nat × Nat × (Nat → Int32)} {w : mW} {μ : mM} (hw : mWF w) (hT : mT w μ) {p1 : Int} (hp1 : 0 ≤ p1 ∧ p1 ≤ 9) {p2 : Int} (hp2 : 0 ≤ p2 ∧ p2 ≤ 9) {Q : mM → Prop} (hQ : WP_X8_insertWinner_W w μ p1 p2 Q) : sC (gG l D c H0 sa) mX8_insertWinner 2 0 0 [.ref 32, iv p1, iv p2] (mk w μ) (qV w [66999] μ (fun μ1 => Q μ1 ∧ True)) := by
  refine sC.of rfl (by decide) (le_t rfl) ?_
  refine mr_lvE (lv' := [(0, .ref 32), (1, iv p1), (2, iv p2)]) rfl ?_
  refine mr_iload_n (pc := 0) (z := p1) dX8_insertWinner_0 rfl rfl ?_
  refine mr_istore_n (pc := 1) (lv' := [(3, iv p1), (0, .ref 32), (1, iv p1), (2, iv p2)]) dX8_insertWinner_1 rfl (by decide) rfl ?_
  have L65 : ∀ (nL65 : Nat) (z63 : Int) (μ64 : mM), mT w μ64 → mF [66999] w μ μ64 → (0 ≤ z63 ∧ z63 ≤ 9) → (z63 - (-1)) < (nL65 : Int) → loopF (WL_X8_insertWinner_W_1 w μ p2 Q) False nL65 (z63, μ64) → sV (gG l D c H0 sa) mX8_insertWinner (sRm 2 0 0) (sZ (gG l D c H0 sa) 0 0 (qV w [66999] μ (fun μ1 => Q μ1 ∧ True))) 2 [(0, .ref 32), (2, iv p2), (3, iv z63)] [] (mk w μ64) 0 0 := by
    intro nL65
    induction nL65 with
    | zero => intro z63 μ64 T67 F68 h66 h70 W71; exact ((vc_X8_insertWinner_W_1 h70 h66)).elim
    | succ nL65 ih72 =>
      intro z63 μ64 T67 F68 h66 h70 W71
      refine mr_iload_n (pc := 2) (z := z63) dX8_insertWinner_2 rfl rfl ?_
      refine mr_if_le (pc := 3) (tgt := 47) dX8_insertWinner_3 (by decide) (r32 h66 rfl) (fun h96 => ?_) (fun h96 => ?_)
      · have h97 : 0 ≤ z63 ∧ z63 ≤ 0 := (vc_X8_insertWinner_W_2 h96 h66)
        refine sv_aload_n (pc := 47) dX8_insertWinner_47 rfl rfl ?_
        refine gf_X8_5 (pc := 48) dX8_insertWinner_48 wF_X8_39 (A_32 hw) T67 ?_
        refine mr_iload_n (pc := 51) (z := z63) dX8_insertWinner_51 rfl rfl ?_
        refine mr_iload_n (pc := 52) (z := p2) dX8_insertWinner_52 rfl rfl ?_
        refine ss_66 (pc := 53) dX8_insertWinner_53 (A_66 hw) T67 (rIx (n := 10) h97 rfl) hp2 fun μ98 u99 T100 => ?_
        exact mr_vret dX8_insertWinner_54 rfl (le_t rfl) (le_t rfl) T100 (mF.up (mF.call mF.refl F68 rfl) (A_66 hw) u99 rfl) ⟨(((W71 z63 μ64 rfl h66 T67 F68).1 h96) μ98 u99 T100), trivial⟩
      have h101 : 1 ≤ z63 ∧ z63 ≤ 9 := (vc_X8_insertWinner_W_3 h96 h66)
      refine sv_aload_n (pc := 6) dX8_insertWinner_6 rfl rfl ?_
      refine sv_aload_n (pc := 7) dX8_insertWinner_7 rfl rfl ?_
      refine gf_X8_5 (pc := 8) dX8_insertWinner_8 wF_X8_39 (A_32 hw) T67 ?_
      refine mr_iload_n (pc := 11) (z := z63) dX8_insertWinner_11 rfl rfl ?_
      refine mr_iconst (pc := 12) (z := 1) dX8_insertWinner_12 ?_
      refine mr_isub (pc := 13) (x := z63) (y := 1) dX8_insertWinner_13 ?_
      refine la_66 (pc := 14) dX8_insertWinner_14 (A_66 hw) T67 (rIx (n := 10) (rSub (e := 0) (f := 8) h101 (rR (x := 1)) rfl) rfl) fun z102 q103 h104 => ?_
      refine mr_cVJ (pc := 15) (c_X8_groupOrder_W hw T67 h104 (((W71 z63 μ64 rfl h66 T67 F68).2 h96) z102 q103 h104)) (gOk _ _ _ _ _) dX8_insertWinner_15 (tX8_groupOrder _ _ _ _ _) ⟨wV_X8_groupOrder, wL_X8_groupOrder⟩ wM_X8_242 (gCX8 _ _ _ _ _) rfl (A_32 hw) rfl ⟨le_t rfl, le_t rfl⟩ ⟨le_t rfl, le_t rfl⟩ rfl (le_t rfl) fun z109 μ105 T106 F107 h108 => ?_
      refine sv_aload_n (pc := 18) dX8_insertWinner_18 rfl rfl ?_
      refine mr_iload_n (pc := 19) (z := p2) dX8_insertWinner_19 rfl rfl ?_
      refine mr_cVJ (pc := 20) (c_X8_groupOrder_W hw T106 hp2 ((h108.2.1 T106 F107) h108.1)) (gOk _ _ _ _ _) dX8_insertWinner_20 (tX8_groupOrder _ _ _ _ _) ⟨wV_X8_groupOrder, wL_X8_groupOrder⟩ wM_X8_242 (gCX8 _ _ _ _ _) rfl (A_32 hw) rfl ⟨le_t rfl, le_t rfl⟩ ⟨le_t rfl, le_t rfl⟩ rfl (le_t rfl) fun z114 μ110 T111 F112 h113 => ?_
      refine mr_lcmp (pc := 23) dX8_insertWinner_23 ?_
      refine mr_gen (P := fun z => (-1) ≤ z ∧ z ≤ 1) (lg_cmp_r _ _) fun z115 q116 h117 => ?_
      refine mr_if_le (pc := 24) (tgt := 47) dX8_insertWinner_24 (by decide) (r32 h117 rfl) (fun h123 => ?_) (fun h123 => ?_)
      · have h124 : (-1) ≤ z115 ∧ z115 ≤ 0 := (vc_X2_insertBorder_4 h123 h117)
        refine sv_aload_n (pc := 47) dX8_insertWinner_47 rfl rfl ?_
        refine gf_X8_5 (pc := 48) dX8_insertWinner_48 wF_X8_39 (A_32 hw) T111 ?_
        refine mr_iload_n (pc := 51) (z := z63) dX8_insertWinner_51 rfl rfl ?_
        refine mr_iload_n (pc := 52) (z := p2) dX8_insertWinner_52 rfl rfl ?_
        refine ss_66 (pc := 53) dX8_insertWinner_53 (A_66 hw) T111 (rIx (n := 10) h101 rfl) hp2 fun μ125 u126 T127 => ?_
        exact mr_vret dX8_insertWinner_54 rfl (le_t rfl) (le_t rfl) T127 (mF.up (mF.call (mF.call (mF.call mF.refl F68 rfl) F107 rfl) F112 rfl) (A_66 hw) u126 rfl) ⟨(((((h113.2.1 T111 F112) h113.1) z115 q116).1 h123) μ125 u126 T127), trivial⟩
      have h128 : 1 ≤ z115 ∧ z115 ≤ 1 := (vc_X2_insertBorder_5 h123 h117)
      refine sv_aload_n (pc := 27) dX8_insertWinner_27 rfl rfl ?_
      refine gf_X8_5 (pc := 28) dX8_insertWinner_28 wF_X8_39 (A_32 hw) T111 ?_
      refine mr_iload_n (pc := 31) (z := z63) dX8_insertWinner_31 rfl rfl ?_
      refine sv_aload_n (pc := 32) dX8_insertWinner_32 rfl rfl ?_
      refine gf_X8_5 (pc := 33) dX8_insertWinner_33 wF_X8_39 (A_32 hw) T111 ?_
      refine mr_iload_n (pc := 36) (z := z63) dX8_insertWinner_36 rfl rfl ?_
      refine mr_iconst (pc := 37) (z := 1) dX8_insertWinner_37 ?_
      refine mr_isub (pc := 38) (x := z63) (y := 1) dX8_insertWinner_38 ?_
      refine lk_66 (pc := 39) dX8_insertWinner_39 (A_66 hw) (rIx (n := 10) (rSub (e := 0) (f := 8) h101 (rR (x := 1)) rfl) rfl) (F112.f (A_66 hw) rfl (F107.f (A_66 hw) rfl q103)) ?_
      refine ss_66 (pc := 40) dX8_insertWinner_40 (A_66 hw) T111 (rIx (n := 10) h101 rfl) h104 fun μ129 u130 T131 => ?_
      refine mr_iinc (pc := 41) (lv' := [(3, iv (z63 + (-1))), (0, .ref 32), (2, iv p2)]) dX8_insertWinner_41 rfl (by decide) rfl ?_
      refine sv_goto (pc := 44) (tgt := 2) dX8_insertWinner_44 (by decide) ?_
      refine mr_lvS (lv' := [(0, .ref 32), (2, iv p2), (3, iv (z63 + (-1)))]) (List.forall_mem_cons.mpr ⟨rfl, List.forall_mem_cons.mpr ⟨rfl, List.forall_mem_cons.mpr ⟨rfl, fun _ h => absurd h List.not_mem_nil⟩⟩⟩) ?_
      exact ih72 (z63 + (-1)) μ129 T131 (mF.up (mF.call (mF.call (mF.call mF.refl F68 rfl) F107 rfl) F112 rfl) (A_66 hw) u130 rfl) (rW (c := 0) (d := 9) (rAdd (e := 0) (f := 8) h101 (rR (x := (-1))) rfl) rfl) (vc_X8_insertWinner_W_6 (nS h70) h96 h101) (((((h113.2.1 T111 F112) h113.1) z115 q116).2 h123) μ129 u130 T131)
  refine mr_lvS (lv' := [(0, .ref 32), (2, iv p2), (3, iv p1)]) (List.forall_mem_cons.mpr ⟨rfl, List.forall_mem_cons.mpr ⟨rfl, List.forall_mem_cons.mpr ⟨rfl, fun _ h => absurd h List.not_mem_nil⟩⟩⟩) ?_
  exact L65 11 p1 μ hT mF.refl hp1 (vc_X8_insertWinner_W_7 hp1) hQ
def WL_X8_pickGrouped_W_1 (w : mW) (μ : mM) (a1 : Nat) (Q : Int → mM → Prop) (rec1 : (Int × Int × mM) → Prop) (s : (Int × Int × mM)) : Prop := ∀ z194 : Int, ∀ z193 : Int, ∀ μ195 : mM, s = (z194, z193, μ195) → (0 ≤ z194 ∧ z194 ≤ 10) → (0 ≤ z193 ∧ z193 ≤ 10) → mT w μ195 → mF [66999] w μ μ195 → ∀ z207 : Int, μ195 32 9 = z207 → (0 ≤ z207 ∧ z207 ≤ 10 ∧ (z207 = 0 ∨ 0 < w.2.2.2 1)) → ((z207 ≤ z193) → WP_X8_lastStanding_W w μ195 a1 z194 (fun z234 _ => ((-1) ≤ z234 ∧ z234 ≤ 9) → Q z234 μ195)) ∧ ((z193 < z207) → WP_X8_isFirstOfGroup_W w μ195 z193 (fun z241 _ => (0 ≤ z241 ∧ z241 ≤ 1) → ((z241 = 0) → rec1 (z194, (z193 + 1), μ195)) ∧ ((¬ z241 = 0) → WP_X8_bestOfGroup_W w μ195 a1 z193 (fun z260 _ => (0 ≤ z260 ∧ z260 ≤ 9) → WP_X8_insertWinner_W w μ195 z194 z260 (fun μ261 => mT w μ261 → mF [66999] w μ195 μ261 → rec1 ((z194 + 1), (z193 + 1), μ261))))))
def WP_X8_pickGrouped_W (w : mW) (μ : mM) (a1 : Nat) (Q : Int → mM → Prop) : Prop := loopF (WL_X8_pickGrouped_W_1 w μ a1 Q) False 12 ((0 : Int), (0 : Int), μ)
theorem vc_X8_pickGrouped_W_1 {n1 z193 z194 : Int} (h0 : (11 - z193) < ((0 : Nat) : Int)) (h1 : z194 ≤ z193) (h2 : z194 ≤ 0 ∨ 0 < n1) (h3 : 0 ≤ z193 ∧ z193 ≤ 10) (h4 : 0 ≤ z194 ∧ z194 ≤ 10) : False := by omega
theorem vc_X8_pickGrouped_W_2 {n1 z193 z194 z207 z234 : Int} (h0 : z194 ≤ 0 ∨ 0 < n1) (h1 : (z207 = 0 ∨ 0 < n1)) (h2 : z234 < 0 ∨ 0 < z194) (h3 : z194 ≤ z193) (h4 : z207 ≤ z193) (h5 : 0 ≤ z193 ∧ z193 ≤ 10) (h6 : 0 ≤ z194 ∧ z194 ≤ 10) (h7 : 0 ≤ z207 ∧ z207 ≤ 10) (h8 : (-1) ≤ z234 ∧ z234 ≤ 9) : z234 < 0 ∨ 0 < n1 := by omega
theorem vc_X8_pickGrouped_W_3 {n1 z193 z194 z207 : Int} (h0 : z193 < z207) (h1 : z194 ≤ z193) (h2 : (z207 = 0 ∨ 0 < n1)) (h3 : 0 ≤ z193 ∧ z193 ≤ 10) (h4 : 0 ≤ z194 ∧ z194 ≤ 10) (h5 : 0 ≤ z207 ∧ z207 ≤ 10) : 0 ≤ z193 ∧ z193 ≤ 9 := by omega
theorem vc_X8_pickGrouped_W_4 {n1 z193 z194 z207 : Int} (h0 : z193 < z207) (h1 : z194 ≤ z193) (h2 : (z207 = 0 ∨ 0 < n1)) (h3 : 0 ≤ z193 ∧ z193 ≤ 9) (h4 : 0 ≤ z194 ∧ z194 ≤ 10) (h5 : 0 ≤ z207 ∧ z207 ≤ 10) : 1 ≤ z207 ∧ z207 ≤ 10 := by omega
theorem vc_X8_pickGrouped_W_6 {n1 z193 z194 z207 : Int} (h0 : z194 ≤ z193) (h1 : z194 ≤ 0 ∨ 0 < n1) (h2 : z193 < z207) (h3 : (z207 = 0 ∨ 0 < n1)) (h4 : 0 ≤ z193 ∧ z193 ≤ 9) (h5 : 0 ≤ z194 ∧ z194 ≤ 10) (h6 : 1 ≤ z207 ∧ z207 ≤ 10) : z194 ≤ (z193 + 1) := by omega
theorem vc_X8_pickGrouped_W_7 {n1 z193 z194 z207 : Int} (h0 : z194 ≤ z193) (h1 : z194 ≤ 0 ∨ 0 < n1) (h2 : (z207 = 0 ∨ 0 < n1)) (h3 : z193 < z207) (h4 : 0 ≤ z193 ∧ z193 ≤ 9) (h5 : 0 ≤ z194 ∧ z194 ≤ 10) (h6 : 1 ≤ z207 ∧ z207 ≤ 10) : z194 ≤ 0 ∨ 0 < n1 := by omega
theorem vc_X8_pickGrouped_W_8 {N n1 z193 z194 z207 : Int} (h0 : (11 - z193) < N + 1) (h1 : z194 ≤ z193) (h2 : z193 < z207) (h3 : z194 ≤ 0 ∨ 0 < n1) (h4 : (z207 = 0 ∨ 0 < n1)) (h5 : 0 ≤ z193 ∧ z193 ≤ 9) (h6 : 0 ≤ z194 ∧ z194 ≤ 10) (h7 : 1 ≤ z207 ∧ z207 ≤ 10) : (11 - (z193 + 1)) < N := by omega
theorem vc_X8_pickGrouped_W_10 {n1 z193 z194 z207 : Int} (h0 : z194 ≤ z193) (h1 : z194 ≤ 0 ∨ 0 < n1) (h2 : (z207 = 0 ∨ 0 < n1)) (h3 : z193 < z207) (h4 : 0 ≤ z193 ∧ z193 ≤ 9) (h5 : 0 ≤ z194 ∧ z194 ≤ 10) (h6 : 1 ≤ z207 ∧ z207 ≤ 10) : 0 ≤ z194 ∧ z194 ≤ 9 := by omega
theorem vc_X8_pickGrouped_W_11 {n1 z193 z194 z207 : Int} (h0 : z194 ≤ z193) (h1 : z194 ≤ 0 ∨ 0 < n1) (h2 : (z207 = 0 ∨ 0 < n1)) (h3 : z193 < z207) (h4 : 0 ≤ z193 ∧ z193 ≤ 9) (h5 : 0 ≤ z194 ∧ z194 ≤ 10) (h6 : 1 ≤ z207 ∧ z207 ≤ 10) : 0 ≤ (z194 + 1) ∧ (z194 + 1) ≤ 10 := by omega
theorem vc_X8_pickGrouped_W_12 {n1 z193 z194 z207 : Int} (h0 : z194 ≤ z193) (h1 : z194 ≤ 0 ∨ 0 < n1) (h2 : z193 < z207) (h3 : (z207 = 0 ∨ 0 < n1)) (h4 : 0 ≤ z193 ∧ z193 ≤ 9) (h5 : 0 ≤ z194 ∧ z194 ≤ 10) (h6 : 1 ≤ z207 ∧ z207 ≤ 10) : (z194 + 1) ≤ (z193 + 1) := by omega
theorem vc_X8_pickGrouped_W_13 {n1 z193 z194 z207 : Int} (h0 : z194 ≤ z193) (h1 : z194 ≤ 0 ∨ 0 < n1) (h2 : (z207 = 0 ∨ 0 < n1)) (h3 : z193 < z207) (h4 : 0 ≤ z193 ∧ z193 ≤ 9) (h5 : 0 ≤ z194 ∧ z194 ≤ 10) (h6 : 1 ≤ z207 ∧ z207 ≤ 10) : (z194 + 1) ≤ 0 ∨ 0 < n1 := by omega
theorem vc_X8_pickGrouped_W_15 {n1 : Int}  : (0 : Int) ≤ 0 ∨ 0 < n1 := by omega
set_option maxRecDepth 4000 in
set_option maxHeartbeats 4000000 in
theorem c_X8_pickGrouped_W {l : Launch} {D : va_G} {c : Nat → ClassId} {H0 : Heap} {sa : Nat × Nat × (Nat → Int32)} {w : mW} {μ : mM} (hw : mWF w) (hT : mT w μ) {a1 : Nat} (hA1 : mAt w a1 210) {Q : Int → mM → Prop} (hQ : WP_X8_pickGrouped_W w μ a1 Q) : sC (gG l D c H0 sa) mX8_pickGrouped 5 0 0 [.ref 32, .ref a1] (mk w μ) (qI w [66999] μ (fun z μ1 => ((-1) ≤ z ∧ z ≤ 9) ∧ (z < 0 ∨ 0 < w.2.2.2 1) ∧ Q z μ1 ∧ True)) := by
  refine sC.of rfl (by decide) (le_t rfl) ?_
  refine mr_lvE (lv' := [(0, .ref 32), (1, .ref a1)]) rfl ?_
  refine mr_iconst (pc := 0) (z := 0) dX8_pickGrouped_0 ?_
  refine mr_istore_n (pc := 1) (lv' := [(2, iv 0), (0, .ref 32), (1, .ref a1)]) dX8_pickGrouped_1 rfl (by decide) rfl ?_
  refine mr_iconst (pc := 2) (z := 0) dX8_pickGrouped_2 ?_
  refine mr_istore_n (pc := 3) (lv' := [(3, iv 0), (2, iv 0), (0, .ref 32), (1, .ref a1)]) dX8_pickGrouped_3 rfl (by decide) rfl ?_
  have L196 : ∀ (nL196 : Nat) (z194 z193 : Int) (μ195 : mM), mT w μ195 → mF [66999] w μ μ195 → (0 ≤ z194 ∧ z194 ≤ 10) → (0 ≤ z193 ∧ z193 ≤ 10) → (z194 ≤ z193) → (z194 ≤ 0 ∨ 0 < w.2.2.2 1) → (11 - z193) < (nL196 : Int) → loopF (WL_X8_pickGrouped_W_1 w μ a1 Q) False nL196 (z194, z193, μ195) → sV (gG l D c H0 sa) mX8_pickGrouped (sRm 5 0 0) (sZ (gG l D c H0 sa) 0 0 (qI w [66999] μ (fun z μ1 => ((-1) ≤ z ∧ z ≤ 9) ∧ (z < 0 ∨ 0 < w.2.2.2 1) ∧ Q z μ1 ∧ True))) 4 [(0, .ref 32), (1, .ref a1), (2, iv z194), (3, iv z193)] [] (mk w μ195) 0 0 := by
    intro nL196
    induction nL196 with
    | zero => intro z194 z193 μ195 T199 F200 h197 h198 h202 h203 h204 W205; exact ((vc_X8_pickGrouped_W_1 h204 h202 h203 h198 h197)).elim
    | succ nL196 ih206 =>
      intro z194 z193 μ195 T199 F200 h197 h198 h202 h203 h204 W205
      refine mr_iload_n (pc := 4) (z := z193) dX8_pickGrouped_4 rfl rfl ?_
      refine sv_aload_n (pc := 5) dX8_pickGrouped_5 rfl rfl ?_
      refine gf_X8_9 (pc := 6) dX8_pickGrouped_6 wF_X8_200 (A_32 hw) T199 fun z207 q208 h209 => ?_
      have h210 : 0 ≤ z207 ∧ z207 ≤ 10 := ⟨h209.1, h209.2.1⟩
      refine mr_icmp_ge (pc := 9) (tgt := 40) dX8_pickGrouped_9 (by decide) (r32 h198 rfl) (r32 h210 rfl) (fun h229 => ?_) (fun h229 => ?_)
      · refine sv_aload_n (pc := 40) dX8_pickGrouped_40 rfl rfl ?_
        refine sv_aload_n (pc := 41) dX8_pickGrouped_41 rfl rfl ?_
        refine mr_iload_n (pc := 42) (z := z194) dX8_pickGrouped_42 rfl rfl ?_
        refine mr_cVP (pc := 43) (c_X8_lastStanding_W hw T199 hA1 h197 (((W205 z194 z193 μ195 rfl h197 h198 T199 F200) z207 q208 h209).1 h229)) (gOk _ _ _ _ _) dX8_pickGrouped_43 (tX8_lastStanding _ _ _ _ _) ⟨wV_X8_lastStanding, wL_X8_lastStanding⟩ wM_X8_222 (gCX8 _ _ _ _ _) rfl (A_32 hw) rfl ⟨le_t rfl, le_t rfl⟩ ⟨le_t rfl, le_t rfl⟩ rfl (le_t rfl) fun z234 h233 => ?_
        exact mr_iret dX8_pickGrouped_46 rfl (le_t rfl) (le_t rfl) T199 (mF.call mF.refl F200 rfl) ⟨h233.1, (vc_X8_pickGrouped_W_2 h203 h209.2.2 h233.2.1 h202 h229 h198 h197 h210 h233.1), (h233.2.2.1 h233.1), trivial⟩
      have h235 : 0 ≤ z193 ∧ z193 ≤ 9 := (vc_X8_pickGrouped_W_3 h229 h202 h209.2.2 h198 h197 h210)
      have h236 : 1 ≤ z207 ∧ z207 ≤ 10 := (vc_X8_pickGrouped_W_4 h229 h202 h209.2.2 h235 h197 h210)
      refine sv_aload_n (pc := 12) dX8_pickGrouped_12 rfl rfl ?_
      refine mr_iload_n (pc := 13) (z := z193) dX8_pickGrouped_13 rfl rfl ?_
      refine mr_cVP (pc := 14) (c_X8_isFirstOfGroup_W hw T199 h235 (((W205 z194 z193 μ195 rfl h197 h198 T199 F200) z207 q208 h209).2 h229)) (gOk _ _ _ _ _) dX8_pickGrouped_14 (tX8_isFirstOfGroup _ _ _ _ _) ⟨wV_X8_isFirstOfGroup, wL_X8_isFirstOfGroup⟩ wM_X8_226 (gCX8 _ _ _ _ _) rfl (A_32 hw) rfl ⟨le_t rfl, le_t rfl⟩ ⟨le_t rfl, le_t rfl⟩ rfl (le_t rfl) fun z241 h240 => ?_
      refine mr_if_eq (pc := 17) (tgt := 34) dX8_pickGrouped_17 (by decide) (r32 h240.1 rfl) (fun h253 => ?_) (fun h253 => ?_)
      · have h254 : 0 ≤ z241 ∧ z241 ≤ 0 := (vc_X12_ring_22 h253 h240.1)
        refine mr_iinc (pc := 34) (lv' := [(3, iv (z193 + 1)), (0, .ref 32), (1, .ref a1), (2, iv z194)]) dX8_pickGrouped_34 rfl (by decide) rfl ?_
        refine sv_goto (pc := 37) (tgt := 4) dX8_pickGrouped_37 (by decide) ?_
        refine mr_lvS (lv' := [(0, .ref 32), (1, .ref a1), (2, iv z194), (3, iv (z193 + 1))]) (List.forall_mem_cons.mpr ⟨rfl, List.forall_mem_cons.mpr ⟨rfl, List.forall_mem_cons.mpr ⟨rfl, List.forall_mem_cons.mpr ⟨rfl, fun _ h => absurd h List.not_mem_nil⟩⟩⟩⟩) ?_
        exact ih206 z194 (z193 + 1) μ195 T199 (mF.call mF.refl F200 rfl) h197 (rW (c := 0) (d := 10) (rAdd (e := 1) (f := 10) h235 (rR (x := 1)) rfl) rfl) (vc_X8_pickGrouped_W_6 h202 h203 h229 h209.2.2 h235 h197 h236) (vc_X8_pickGrouped_W_7 h202 h203 h209.2.2 h229 h235 h197 h236) (vc_X8_pickGrouped_W_8 (nS h204) h202 h229 h203 h209.2.2 h235 h197 h236) ((h240.2.1 h240.1).1 h253)
      have h255 : 1 ≤ z241 ∧ z241 ≤ 1 := (vc_X12_ring_24 h253 h240.1)
      refine sv_aload_n (pc := 20) dX8_pickGrouped_20 rfl rfl ?_
      refine mr_iload_n (pc := 21) (z := z194) dX8_pickGrouped_21 rfl rfl ?_
      refine sv_aload_n (pc := 22) dX8_pickGrouped_22 rfl rfl ?_
      refine sv_aload_n (pc := 23) dX8_pickGrouped_23 rfl rfl ?_
      refine mr_iload_n (pc := 24) (z := z193) dX8_pickGrouped_24 rfl rfl ?_
      refine mr_cVP (pc := 25) (c_X8_bestOfGroup_W hw T199 hA1 h235 ((h240.2.1 h240.1).2 h253)) (gOk _ _ _ _ _) dX8_pickGrouped_25 (tX8_bestOfGroup _ _ _ _ _) ⟨wV_X8_bestOfGroup, wL_X8_bestOfGroup⟩ wM_X8_229 (gCX8 _ _ _ _ _) rfl (A_32 hw) rfl ⟨le_t rfl, le_t rfl⟩ ⟨le_t rfl, le_t rfl⟩ rfl (le_t rfl) fun z260 h259 => ?_
      refine mr_cVV (pc := 28) (c_X8_insertWinner_W hw T199 (vc_X8_pickGrouped_W_10 h202 h203 h209.2.2 h229 h235 h197 h236) h259.1 (h259.2.1 h259.1)) (gOk _ _ _ _ _) dX8_pickGrouped_28 (tX8_insertWinner _ _ _ _ _) ⟨wV_X8_insertWinner, wL_X8_insertWinner⟩ wM_X8_232 (gCX8 _ _ _ _ _) rfl (A_32 hw) rfl ⟨le_t rfl, le_t rfl⟩ ⟨le_t rfl, le_t rfl⟩ rfl (le_t rfl) fun μ261 T262 F263 h264 => ?_
      refine mr_iinc (pc := 31) (lv' := [(2, iv (z194 + 1)), (0, .ref 32), (1, .ref a1), (3, iv z193)]) dX8_pickGrouped_31 rfl (by decide) rfl ?_
      refine mr_iinc (pc := 34) (lv' := [(3, iv (z193 + 1)), (2, iv (z194 + 1)), (0, .ref 32), (1, .ref a1)]) dX8_pickGrouped_34 rfl (by decide) rfl ?_
      refine sv_goto (pc := 37) (tgt := 4) dX8_pickGrouped_37 (by decide) ?_
      refine mr_lvS (lv' := [(0, .ref 32), (1, .ref a1), (2, iv (z194 + 1)), (3, iv (z193 + 1))]) (List.forall_mem_cons.mpr ⟨rfl, List.forall_mem_cons.mpr ⟨rfl, List.forall_mem_cons.mpr ⟨rfl, List.forall_mem_cons.mpr ⟨rfl, fun _ h => absurd h List.not_mem_nil⟩⟩⟩⟩) ?_
      exact ih206 (z194 + 1) (z193 + 1) μ261 T262 (mF.call (mF.call mF.refl F200 rfl) F263 rfl) (vc_X8_pickGrouped_W_11 h202 h203 h209.2.2 h229 h235 h197 h236) (rW (c := 0) (d := 10) (rAdd (e := 1) (f := 10) h235 (rR (x := 1)) rfl) rfl) (vc_X8_pickGrouped_W_12 h202 h203 h229 h209.2.2 h235 h197 h236) (vc_X8_pickGrouped_W_13 h202 h203 h209.2.2 h229 h235 h197 h236) (vc_X8_pickGrouped_W_8 (nS h204) h202 h229 h203 h209.2.2 h235 h197 h236) (h264.1 T262 F263)
  refine mr_lvS (lv' := [(0, .ref 32), (1, .ref a1), (2, iv 0), (3, iv 0)]) (List.forall_mem_cons.mpr ⟨rfl, List.forall_mem_cons.mpr ⟨rfl, List.forall_mem_cons.mpr ⟨rfl, List.forall_mem_cons.mpr ⟨rfl, fun _ h => absurd h List.not_mem_nil⟩⟩⟩⟩) ?_
  exact L196 12 0 0 μ hT mF.refl (rW (c := 0) (d := 10) (rR (x := 0)) rfl) (rW (c := 0) (d := 10) (rR (x := 0)) rfl) vc_X12_dropMark_20 vc_X8_pickGrouped_W_15 vc_X12_ring_27 hQ
def WP_X12_isAt_W (w : mW) (μ : mM) (p1 : Int) (p2 : Int) (Q : Int → mM → Prop) : Prop := ∀ f_e0 : Int, μ 110 ((2 * p1).toNat) = f_e0 → (0 ≤ f_e0 ∧ f_e0 ≤ 9) → ∀ f_e1 : Int, μ 110 (((2 * p1) + 1).toNat) = f_e1 → (0 ≤ f_e1 ∧ f_e1 ≤ 9) → ((f_e0 = p2) → Q (1 : Int) μ) ∧ ((¬ f_e0 = p2) → ((¬ f_e1 = p2) → Q (0 : Int) μ) ∧ ((f_e1 = p2) → Q (1 : Int) μ))
theorem vc_X12_isAt_W_2 {f_e0 f_e1 p2 : Int} (h0 : f_e0 = p2) (h1 : 0 ≤ f_e0 ∧ f_e0 ≤ 9) (h2 : 0 ≤ f_e1 ∧ f_e1 ≤ 9) (h3 : 0 ≤ p2 ∧ p2 ≤ 9) : (1 : Int) = 1 → f_e0 = p2 ∨ f_e1 = p2 := by omega
theorem vc_X12_isAt_W_3 {f_e0 f_e1 p2 : Int} (h0 : f_e0 = p2) (h1 : 0 ≤ f_e0 ∧ f_e0 ≤ 9) (h2 : 0 ≤ f_e1 ∧ f_e1 ≤ 9) (h3 : 0 ≤ p2 ∧ p2 ≤ 9) : (1 : Int) = 0 → ¬ f_e0 = p2 ∧ ¬ f_e1 = p2 := by omega
theorem vc_X12_isAt_W_4 {f_e0 f_e1 p2 : Int} (h0 : ¬ f_e0 = p2) (h1 : ¬ f_e1 = p2) (h2 : 0 ≤ f_e0 ∧ f_e0 ≤ 9) (h3 : 0 ≤ f_e1 ∧ f_e1 ≤ 9) (h4 : (-2147483648) ≤ p2 ∧ p2 ≤ 2147483647) : (0 : Int) = 1 → f_e0 = p2 ∨ f_e1 = p2 := by omega
theorem vc_X12_isAt_W_5 {f_e0 f_e1 p2 : Int} (h0 : ¬ f_e0 = p2) (h1 : ¬ f_e1 = p2) (h2 : 0 ≤ f_e0 ∧ f_e0 ≤ 9) (h3 : 0 ≤ f_e1 ∧ f_e1 ≤ 9) (h4 : (-2147483648) ≤ p2 ∧ p2 ≤ 2147483647) : (0 : Int) = 0 → ¬ f_e0 = p2 ∧ ¬ f_e1 = p2 := by omega
theorem vc_X12_isAt_W_6 {f_e0 f_e1 p2 : Int} (h0 : f_e1 = p2) (h1 : ¬ f_e0 = p2) (h2 : 0 ≤ f_e0 ∧ f_e0 ≤ 9) (h3 : 0 ≤ f_e1 ∧ f_e1 ≤ 9) (h4 : (-2147483648) ≤ p2 ∧ p2 ≤ 2147483647) : 0 ≤ p2 ∧ p2 ≤ 9 := by omega
theorem vc_X12_isAt_W_7 {f_e0 f_e1 p2 : Int} (h0 : ¬ f_e0 = p2) (h1 : f_e1 = p2) (h2 : 0 ≤ f_e0 ∧ f_e0 ≤ 9) (h3 : 0 ≤ f_e1 ∧ f_e1 ≤ 9) (h4 : 0 ≤ p2 ∧ p2 ≤ 9) : (1 : Int) = 1 → f_e0 = p2 ∨ f_e1 = p2 := by omega
theorem vc_X12_isAt_W_8 {f_e0 f_e1 p2 : Int} (h0 : ¬ f_e0 = p2) (h1 : f_e1 = p2) (h2 : 0 ≤ f_e0 ∧ f_e0 ≤ 9) (h3 : 0 ≤ f_e1 ∧ f_e1 ≤ 9) (h4 : 0 ≤ p2 ∧ p2 ≤ 9) : (1 : Int) = 0 → ¬ f_e0 = p2 ∧ ¬ f_e1 = p2 := by omega
set_option maxRecDepth 4000 in
set_option maxHeartbeats 4000000 in
theorem c_X12_isAt_W {l : Launch} {D : va_G} {c : Nat → ClassId} {H0 : Heap} {sa : Nat × Nat × (Nat → Int32)} {w : mW} {μ : mM} (hw : mWF w) (hT : mT w μ) {p1 : Int} (hp1 : 0 ≤ p1 ∧ p1 ≤ 19) {p2 : Int} (hp2 : (-2147483648) ≤ p2 ∧ p2 ≤ 2147483647) {f_e0 : Int} (q_f_e0 : μ 110 ((2 * p1).toNat) = f_e0) {f_e1 : Int} (q_f_e1 : μ 110 (((2 * p1) + 1).toNat) = f_e1) {Q : Int → mM → Prop} (hQ : WP_X12_isAt_W w μ p1 p2 Q) : sC (gG l D c H0 sa) mX12_isAt 1 0 0 [.ref 106, iv p1, iv p2] (mk w μ) (qP w μ (fun z => (0 ≤ z ∧ z ≤ 1) ∧ (z = 1 → f_e0 = p2 ∨ f_e1 = p2) ∧ (z = 0 → ¬ f_e0 = p2 ∧ ¬ f_e1 = p2) ∧ Q z μ ∧ True)) := by
  refine sC.of rfl (by decide) (le_t rfl) ?_
  have ht_f_e0 : (0 ≤ f_e0 ∧ f_e0 ≤ 9) := by rw [← q_f_e0]; exact hT 110 110 (A_110 hw) ((2 * p1).toNat)
  have ht_f_e1 : (0 ≤ f_e1 ∧ f_e1 ≤ 9) := by rw [← q_f_e1]; exact hT 110 110 (A_110 hw) (((2 * p1) + 1).toNat)
  refine mr_lvE (lv' := [(0, .ref 106), (1, iv p1), (2, iv p2)]) rfl ?_
  refine sv_aload_n (pc := 0) dX12_isAt_0 rfl rfl ?_
  refine gf_X12_7 (pc := 1) dX12_isAt_1 wF_X12_40 (A_106 hw) hT ?_
  refine mr_iconst (pc := 4) (z := 2) dX12_isAt_4 ?_
  refine mr_iload_n (pc := 5) (z := p1) dX12_isAt_5 rfl rfl ?_
  refine mr_imul (pc := 6) (x := 2) (y := p1) dX12_isAt_6 ?_
  refine lk_110 (pc := 7) dX12_isAt_7 (A_110 hw) (rIx (n := 40) (rMulL (n := 2) (e := 0) (f := 38) hp1 rfl) rfl) q_f_e0 ?_
  refine mr_iload_n (pc := 8) (z := p2) dX12_isAt_8 rfl rfl ?_
  refine mr_icmp_eq (pc := 9) (tgt := 26) dX12_isAt_9 (by decide) (r32 ht_f_e0 rfl) hp2 (fun h9 => ?_) (fun h9 => ?_)
  · have h10 : 0 ≤ p2 ∧ p2 ≤ 9 := (vc_X12_sideOf_3 h9 ht_f_e0 hp2)
    refine mr_iconst (pc := 26) (z := 1) dX12_isAt_26 ?_
    refine sv_goto (pc := 27) (tgt := 31) dX12_isAt_27 (by decide) ?_
    exact mr_zretP dX12_isAt_31 rfl (rW (c := 0) (d := 1) (rR (x := 1)) rfl) (le_t rfl) (le_t rfl) ⟨(rW (c := 0) (d := 1) (rR (x := 1)) rfl), (vc_X12_isAt_W_2 h9 ht_f_e0 ht_f_e1 h10), (vc_X12_isAt_W_3 h9 ht_f_e0 ht_f_e1 h10), (((hQ f_e0 q_f_e0 ht_f_e0) f_e1 q_f_e1 ht_f_e1).1 h9), trivial⟩
  refine sv_aload_n (pc := 12) dX12_isAt_12 rfl rfl ?_
  refine gf_X12_7 (pc := 13) dX12_isAt_13 wF_X12_40 (A_106 hw) hT ?_
  refine mr_iconst (pc := 16) (z := 2) dX12_isAt_16 ?_
  refine mr_iload_n (pc := 17) (z := p1) dX12_isAt_17 rfl rfl ?_
  refine mr_imul (pc := 18) (x := 2) (y := p1) dX12_isAt_18 ?_
  refine mr_iconst (pc := 19) (z := 1) dX12_isAt_19 ?_
  refine mr_iadd (pc := 20) (x := (2 * p1)) (y := 1) dX12_isAt_20 ?_
  refine lk_110 (pc := 21) dX12_isAt_21 (A_110 hw) (rIx (n := 40) (rAdd (e := 1) (f := 39) (rMulL (n := 2) (e := 0) (f := 38) hp1 rfl) (rR (x := 1)) rfl) rfl) q_f_e1 ?_
  refine mr_iload_n (pc := 22) (z := p2) dX12_isAt_22 rfl rfl ?_
  refine mr_icmp_ne (pc := 23) (tgt := 30) dX12_isAt_23 (by decide) (r32 ht_f_e1 rfl) hp2 (fun h12 => ?_) (fun h12 => ?_)
  · refine mr_iconst (pc := 30) (z := 0) dX12_isAt_30 ?_
    exact mr_zretP dX12_isAt_31 rfl (rW (c := 0) (d := 1) (rR (x := 0)) rfl) (le_t rfl) (le_t rfl) ⟨(rW (c := 0) (d := 1) (rR (x := 0)) rfl), (vc_X12_isAt_W_4 h9 h12 ht_f_e0 ht_f_e1 hp2), (vc_X12_isAt_W_5 h9 h12 ht_f_e0 ht_f_e1 hp2), ((((hQ f_e0 q_f_e0 ht_f_e0) f_e1 q_f_e1 ht_f_e1).2 h9).1 h12), trivial⟩
  have h13 : 0 ≤ p2 ∧ p2 ≤ 9 := (vc_X12_isAt_W_6 h12 h9 ht_f_e0 ht_f_e1 hp2)
  refine mr_iconst (pc := 26) (z := 1) dX12_isAt_26 ?_
  refine sv_goto (pc := 27) (tgt := 31) dX12_isAt_27 (by decide) ?_
  exact mr_zretP dX12_isAt_31 rfl (rW (c := 0) (d := 1) (rR (x := 1)) rfl) (le_t rfl) (le_t rfl) ⟨(rW (c := 0) (d := 1) (rR (x := 1)) rfl), (vc_X12_isAt_W_7 h9 h12 ht_f_e0 ht_f_e1 h13), (vc_X12_isAt_W_8 h9 h12 ht_f_e0 ht_f_e1 h13), ((((hQ f_e0 q_f_e0 ht_f_e0) f_e1 q_f_e1 ht_f_e1).2 h9).2 h12), trivial⟩
def WP_X12_sideOf_W (w : mW) (μ : mM) (p1 : Int) (p2 : Int) (Q : Int → mM → Prop) : Prop := ∀ f_e0 : Int, μ 110 ((2 * p1).toNat) = f_e0 → (0 ≤ f_e0 ∧ f_e0 ≤ 9) → ((¬ f_e0 = p2) → Q (1 : Int) μ) ∧ ((f_e0 = p2) → Q (0 : Int) μ)
set_option maxRecDepth 4000 in
set_option maxHeartbeats 4000000 in
theorem c_X12_sideOf_W {l : Launch} {D : va_G} {c : Nat → ClassId} {H0 : Heap} {sa : Nat × Nat × (Nat → Int32)} {w : mW} {μ : mM} (hw : mWF w) (hT : mT w μ) {p1 : Int} (hp1 : 0 ≤ p1 ∧ p1 ≤ 19) {p2 : Int} (hp2 : (-2147483648) ≤ p2 ∧ p2 ≤ 2147483647) {f_e0 : Int} (q_f_e0 : μ 110 ((2 * p1).toNat) = f_e0) {Q : Int → mM → Prop} (hQ : WP_X12_sideOf_W w μ p1 p2 Q) : sC (gG l D c H0 sa) mX12_sideOf 1 0 0 [.ref 106, iv p1, iv p2] (mk w μ) (qP w μ (fun z => (0 ≤ z ∧ z ≤ 1) ∧ (z = 0 → f_e0 = p2) ∧ (z = 1 → ¬ f_e0 = p2) ∧ Q z μ ∧ True)) := by
  refine sC.of rfl (by decide) (le_t rfl) ?_
  have ht_f_e0 : (0 ≤ f_e0 ∧ f_e0 ≤ 9) := by rw [← q_f_e0]; exact hT 110 110 (A_110 hw) ((2 * p1).toNat)
  refine mr_lvE (lv' := [(0, .ref 106), (1, iv p1), (2, iv p2)]) rfl ?_
  refine sv_aload_n (pc := 0) dX12_sideOf_0 rfl rfl ?_
  refine gf_X12_7 (pc := 1) dX12_sideOf_1 wF_X12_40 (A_106 hw) hT ?_
  refine mr_iconst (pc := 4) (z := 2) dX12_sideOf_4 ?_
  refine mr_iload_n (pc := 5) (z := p1) dX12_sideOf_5 rfl rfl ?_
  refine mr_imul (pc := 6) (x := 2) (y := p1) dX12_sideOf_6 ?_
  refine lk_110 (pc := 7) dX12_sideOf_7 (A_110 hw) (rIx (n := 40) (rMulL (n := 2) (e := 0) (f := 38) hp1 rfl) rfl) q_f_e0 ?_
  refine mr_iload_n (pc := 8) (z := p2) dX12_sideOf_8 rfl rfl ?_
  refine mr_icmp_ne (pc := 9) (tgt := 16) dX12_sideOf_9 (by decide) (r32 ht_f_e0 rfl) hp2 (fun h5 => ?_) (fun h5 => ?_)
  · refine mr_iconst (pc := 16) (z := 1) dX12_sideOf_16 ?_
    exact mr_iretP dX12_sideOf_17 rfl (le_t rfl) (le_t rfl) ⟨(rW (c := 0) (d := 1) (rR (x := 1)) rfl), (vc_X12_sideOf_1 h5 ht_f_e0 hp2), (vc_X12_sideOf_2 h5 ht_f_e0 hp2), ((hQ f_e0 q_f_e0 ht_f_e0).1 h5), trivial⟩
  have h6 : 0 ≤ p2 ∧ p2 ≤ 9 := (vc_X12_sideOf_3 h5 ht_f_e0 hp2)
  refine mr_iconst (pc := 12) (z := 0) dX12_sideOf_12 ?_
  refine sv_goto (pc := 13) (tgt := 17) dX12_sideOf_13 (by decide) ?_
  exact mr_iretP dX12_sideOf_17 rfl (le_t rfl) (le_t rfl) ⟨(rW (c := 0) (d := 1) (rR (x := 0)) rfl), (vc_X12_sideOf_4 h5 ht_f_e0 h6), (vc_X12_sideOf_5 h5 ht_f_e0 h6), ((hQ f_e0 q_f_e0 ht_f_e0).2 h5), trivial⟩
