def WL_X12_prefixOf_W_1 (μ : mM) (p1 : Int) (p2 : Int) (Q : Int → mM → Prop) (rec1 : (Int) → Prop) (s : (Int)) : Prop := ∀ z79 : Int, s = (z79) → (0 ≤ z79 ∧ z79 ≤ 10) → ∀ z88 : Int, μ 106 2 = z88 → (0 ≤ z88 ∧ z88 ≤ 10) → ((z88 ≤ z79) → Q ((-99999999) : Int) μ) ∧ ((z79 < z88) → ∀ z94 : Int, μ 108 (z79.toNat) = z94 → ((-2147483648) ≤ z94 ∧ z94 ≤ 2147483647) → ((¬ z94 = p1) → rec1 ((z79 + 1))) ∧ ((z94 = p1) → ∀ z98 : Int, μ 109 (z79.toNat) = z98 → (0 ≤ z98 ∧ z98 ≤ 32) → ((¬ z98 = p2) → rec1 ((z79 + 1))) ∧ ((z98 = p2) → Q z79 μ)))
def WP_X12_prefixOf_W (w : mW) (μ : mM) (p1 : Int) (p2 : Int) (Q : Int → mM → Prop) : Prop := loopF (WL_X12_prefixOf_W_1 μ p1 p2 Q) False 12 ((0 : Int))
theorem vc_X12_prefixOf_W_2  : (-(99999999 : Int) : Int) = -(99999999 : Int) ∨ ((0 : Int) ≤ (-(99999999 : Int) : Int) ∧ (-(99999999 : Int) : Int) ≤ (9 : Int)) := by omega
theorem vc_X12_prefixOf_W_7 {z79 z88 : Int} (h0 : z79 < z88) (h1 : 0 ≤ z79 ∧ z79 ≤ 9) (h2 : 1 ≤ z88 ∧ z88 ≤ 10) : z79 = -99999999 ∨ (0 ≤ z79 ∧ z79 ≤ 9) := by omega
set_option maxRecDepth 4000 in
set_option maxHeartbeats 4000000 in
theorem c_X12_prefixOf_W {l : Launch} {D : va_G} {c : Nat → ClassId} {H0 : Heap} {sa : Nat × Nat × (Nat → Int32)} {w : mW} {μ : mM} (hw : mWF w) (hT : mT w μ) {p1 : Int} (hp1 : (-2147483648) ≤ p1 ∧ p1 ≤ 2147483647) {p2 : Int} (hp2 : (-2147483648) ≤ p2 ∧ p2 ≤ 2147483647) {Q : Int → mM → Prop} (hQ : WP_X12_prefixOf_W w μ p1 p2 Q) : sC (gG l D c H0 sa) mX12_prefixOf 1 0 0 [.ref 106, iv p1, iv p2] (mk w μ) (qP w μ (fun z => ((-99999999) ≤ z ∧ z ≤ 9) ∧ (z = -99999999 ∨ (0 ≤ z ∧ z ≤ 9)) ∧ Q z μ ∧ True)) := by
  refine sC.of rfl (by decide) (le_t rfl) ?_
  refine mr_lvE (lv' := [(0, .ref 106), (1, iv p1), (2, iv p2)]) rfl ?_
  refine mr_iconst (pc := 0) (z := 0) dX12_prefixOf_0 ?_
  refine mr_istore_n (pc := 1) (lv' := [(3, iv 0), (0, .ref 106), (1, iv p1), (2, iv p2)]) dX12_prefixOf_1 rfl (by decide) rfl ?_
  have L80 : ∀ (nL80 : Nat) (z79 : Int), True → (0 ≤ z79 ∧ z79 ≤ 10) → (11 - z79) < (nL80 : Int) → loopF (WL_X12_prefixOf_W_1 μ p1 p2 Q) False nL80 (z79) → sV (gG l D c H0 sa) mX12_prefixOf (sRm 1 0 0) (sZ (gG l D c H0 sa) 0 0 (qP w μ (fun z => ((-99999999) ≤ z ∧ z ≤ 9) ∧ (z = -99999999 ∨ (0 ≤ z ∧ z ≤ 9)) ∧ Q z μ ∧ True))) 2 [(0, .ref 106), (1, iv p1), (2, iv p2), (3, iv z79)] [] (mk w μ) 0 0 := by
    intro nL80
    induction nL80 with
    | zero => intro z79 _ h81 h85 W86; exact ((vc_X12_ring_2 h85 h81)).elim
    | succ nL80 ih87 =>
      intro z79 _ h81 h85 W86
      refine mr_iload_n (pc := 2) (z := z79) dX12_prefixOf_2 rfl rfl ?_
      refine sv_aload_n (pc := 3) dX12_prefixOf_3 rfl rfl ?_
      refine gf_X12_2 (pc := 4) dX12_prefixOf_4 wF_X12_15 (A_106 hw) hT fun z88 q89 h90 => ?_
      refine mr_icmp_ge (pc := 7) (tgt := 38) dX12_prefixOf_7 (by decide) (r32 h81 rfl) (r32 h90 rfl) (fun h91 => ?_) (fun h91 => ?_)
      · refine mr_ldc (pc := 38) (z := (-99999999)) dX12_prefixOf_38 wG_X12_29 (by decide) ?_
        exact mr_iretP dX12_prefixOf_40 rfl (le_t rfl) (le_t rfl) ⟨(rW (c := (-99999999)) (d := 9) (rR (x := (-99999999))) rfl), vc_X12_prefixOf_W_2, (((W86 z79 rfl h81) z88 q89 h90).1 h91), trivial⟩
      have h92 : 0 ≤ z79 ∧ z79 ≤ 9 := (vc_X12_ring_3 h91 h81 h90)
      have h93 : 1 ≤ z88 ∧ z88 ≤ 10 := (vc_X12_ring_4 h91 h92 h90)
      refine sv_aload_n (pc := 10) dX12_prefixOf_10 rfl rfl ?_
      refine gf_X12_3 (pc := 11) dX12_prefixOf_11 wF_X12_22 (A_106 hw) hT ?_
      refine mr_iload_n (pc := 14) (z := z79) dX12_prefixOf_14 rfl rfl ?_
      refine la_108 (pc := 15) dX12_prefixOf_15 (A_108 hw) hT (rIx (n := 10) h92 rfl) fun z94 q95 h96 => ?_
      refine mr_iload_n (pc := 16) (z := p1) dX12_prefixOf_16 rfl rfl ?_
      refine mr_icmp_ne (pc := 17) (tgt := 32) dX12_prefixOf_17 (by decide) h96 hp1 (fun h97 => ?_) (fun h97 => ?_)
      · refine mr_iinc (pc := 32) (lv' := [(3, iv (z79 + 1)), (0, .ref 106), (1, iv p1), (2, iv p2)]) dX12_prefixOf_32 rfl (by decide) rfl ?_
        refine sv_goto (pc := 35) (tgt := 2) dX12_prefixOf_35 (by decide) ?_
        refine mr_lvS (lv' := [(0, .ref 106), (1, iv p1), (2, iv p2), (3, iv (z79 + 1))]) (List.forall_mem_cons.mpr ⟨rfl, List.forall_mem_cons.mpr ⟨rfl, List.forall_mem_cons.mpr ⟨rfl, List.forall_mem_cons.mpr ⟨rfl, fun _ h => absurd h List.not_mem_nil⟩⟩⟩⟩) ?_
        exact ih87 (z79 + 1) trivial (rW (c := 0) (d := 10) (rAdd (e := 1) (f := 10) h92 (rR (x := 1)) rfl) rfl) (vc_X12_sends_11 (nS h85) h91 h92 h93) (((((W86 z79 rfl h81) z88 q89 h90).2 h91) z94 q95 h96).1 h97)
      refine sv_aload_n (pc := 20) dX12_prefixOf_20 rfl rfl ?_
      refine gf_X12_4 (pc := 21) dX12_prefixOf_21 wF_X12_26 (A_106 hw) hT ?_
      refine mr_iload_n (pc := 24) (z := z79) dX12_prefixOf_24 rfl rfl ?_
      refine la_109 (pc := 25) dX12_prefixOf_25 (A_109 hw) hT (rIx (n := 10) h92 rfl) fun z98 q99 h100 => ?_
      refine mr_iload_n (pc := 26) (z := p2) dX12_prefixOf_26 rfl rfl ?_
      refine mr_icmp_ne (pc := 27) (tgt := 32) dX12_prefixOf_27 (by decide) (r32 h100 rfl) hp2 (fun h101 => ?_) (fun h101 => ?_)
      · refine mr_iinc (pc := 32) (lv' := [(3, iv (z79 + 1)), (0, .ref 106), (1, iv p1), (2, iv p2)]) dX12_prefixOf_32 rfl (by decide) rfl ?_
        refine sv_goto (pc := 35) (tgt := 2) dX12_prefixOf_35 (by decide) ?_
        refine mr_lvS (lv' := [(0, .ref 106), (1, iv p1), (2, iv p2), (3, iv (z79 + 1))]) (List.forall_mem_cons.mpr ⟨rfl, List.forall_mem_cons.mpr ⟨rfl, List.forall_mem_cons.mpr ⟨rfl, List.forall_mem_cons.mpr ⟨rfl, fun _ h => absurd h List.not_mem_nil⟩⟩⟩⟩) ?_
        exact ih87 (z79 + 1) trivial (rW (c := 0) (d := 10) (rAdd (e := 1) (f := 10) h92 (rR (x := 1)) rfl) rfl) (vc_X12_sends_11 (nS h85) h91 h92 h93) (((((((W86 z79 rfl h81) z88 q89 h90).2 h91) z94 q95 h96).2 h97) z98 q99 h100).1 h101)
      have h102 : 0 ≤ p2 ∧ p2 ≤ 32 := (vc_X10_findPrefix_W_5 h101 hp2 h100)
      refine mr_iload_n (pc := 30) (z := z79) dX12_prefixOf_30 rfl rfl ?_
      exact mr_iretP dX12_prefixOf_31 rfl (le_t rfl) (le_t rfl) ⟨(rW (c := (-99999999)) (d := 9) h92 rfl), (vc_X12_prefixOf_W_7 h91 h92 h93), (((((((W86 z79 rfl h81) z88 q89 h90).2 h91) z94 q95 h96).2 h97) z98 q99 h100).2 h101), trivial⟩
  refine mr_lvS (lv' := [(0, .ref 106), (1, iv p1), (2, iv p2), (3, iv 0)]) (List.forall_mem_cons.mpr ⟨rfl, List.forall_mem_cons.mpr ⟨rfl, List.forall_mem_cons.mpr ⟨rfl, List.forall_mem_cons.mpr ⟨rfl, fun _ h => absurd h List.not_mem_nil⟩⟩⟩⟩) ?_
  exact L80 12 0 trivial (rW (c := 0) (d := 10) (rR (x := 0)) rfl) vc_X12_ring_27 hQ
def WP_X12_prefix_W (w : mW) (μ : mM) (p1 : Int) (p2 : Int) (Q : Int → mM → Prop) : Prop := WP_X12_in_W w μ p2 (0) (32) (fun z5 _ => (0 ≤ z5 ∧ z5 ≤ 1) → ((z5 = 0) → Q ((-1) : Int) μ) ∧ ((¬ z5 = 0) → WP_X12_mask_W w μ p2 (fun z16 _ => ((-2147483648) ≤ z16 ∧ z16 ≤ 2147483647) → ∀ z17 : Int, bXor z16 ((-1) : Int) = z17 → ∀ z20 : Int, bAnd p1 z17 = z20 → ((z20 = 0) → WP_X12_prefixOf_W w μ p1 p2 (fun z29 _ => ((-99999999) ≤ z29 ∧ z29 ≤ 9) → ((z29 = (-99999999)) → ∀ z32 : Int, μ 106 2 = z32 → (0 ≤ z32 ∧ z32 ≤ 10) → ((¬ z32 = 10) → ∀ μ37 : mM, mU μ 108 (z32.toNat) p1 μ37 → mT w μ37 → ∀ μ40 : mM, mU μ37 109 (z32.toNat) p2 μ40 → mT w μ40 → ∀ μ43 : mM, mU μ40 106 (2) (z32 + 1) μ43 → mT w μ43 → Q ((z32 + 1) - 1) μ43) ∧ ((z32 = 10) → Q ((-3) : Int) μ)) ∧ ((¬ z29 = (-99999999)) → Q ((-2) : Int) μ))) ∧ ((¬ z20 = 0) → Q ((-1) : Int) μ))))
theorem vc_X12_prefix_W_1 {p2 z5 : Int} (h0 : z5 = 0) (h1 : (z5 = 1 → (0 : Int) ≤ p2 ∧ p2 ≤ (32 : Int))) (h2 : (z5 = 0 → p2 < (0 : Int) ∨ (32 : Int) < p2)) (h3 : (-2147483648) ≤ p2 ∧ p2 ≤ 2147483647) (h4 : 0 ≤ z5 ∧ z5 ≤ 1) : 0 ≤ z5 ∧ z5 ≤ 0 := by omega
theorem vc_X12_prefix_W_2 {p2 z5 : Int} (h0 : (z5 = 1 → (0 : Int) ≤ p2 ∧ p2 ≤ (32 : Int))) (h1 : (z5 = 0 → p2 < (0 : Int) ∨ (32 : Int) < p2)) (h2 : z5 = 0) (h3 : (-2147483648) ≤ p2 ∧ p2 ≤ 2147483647) (h4 : 0 ≤ z5 ∧ z5 ≤ 0) : z5 = 0 := by omega
theorem vc_X12_prefix_W_3 {p2 z5 : Int} (h0 : ¬ z5 = 0) (h1 : (z5 = 1 → (0 : Int) ≤ p2 ∧ p2 ≤ (32 : Int))) (h2 : (z5 = 0 → p2 < (0 : Int) ∨ (32 : Int) < p2)) (h3 : (-2147483648) ≤ p2 ∧ p2 ≤ 2147483647) (h4 : 0 ≤ z5 ∧ z5 ≤ 1) : 1 ≤ z5 ∧ z5 ≤ 1 := by omega
theorem vc_X12_prefix_W_4 {p2 z5 : Int} (h0 : (z5 = 1 → (0 : Int) ≤ p2 ∧ p2 ≤ (32 : Int))) (h1 : (z5 = 0 → p2 < (0 : Int) ∨ (32 : Int) < p2)) (h2 : ¬ z5 = 0) (h3 : (-2147483648) ≤ p2 ∧ p2 ≤ 2147483647) (h4 : 1 ≤ z5 ∧ z5 ≤ 1) : z5 = 1 := by omega
theorem vc_X12_prefix_W_5 {p2 z5 : Int} (h0 : (0 : Int) ≤ p2 ∧ p2 ≤ (32 : Int)) (h1 : (z5 = 1 → (0 : Int) ≤ p2 ∧ p2 ≤ (32 : Int))) (h2 : (z5 = 0 → p2 < (0 : Int) ∨ (32 : Int) < p2)) (h3 : (-2147483648) ≤ p2 ∧ p2 ≤ 2147483647) (h4 : 1 ≤ z5 ∧ z5 ≤ 1) : 0 ≤ p2 ∧ p2 ≤ 32 := by omega
theorem vc_X12_prefix_W_7 {z29 : Int} (h0 : z29 = (-99999999)) (h1 : z29 = -99999999 ∨ (0 ≤ z29 ∧ z29 ≤ 9)) (h2 : (-99999999) ≤ z29 ∧ z29 ≤ 9) : (-99999999) ≤ z29 ∧ z29 ≤ (-99999999) := by omega
theorem vc_X12_prefix_W_8 {z32 : Int} (h0 : ¬ z32 = 10) (h1 : 0 ≤ z32 ∧ z32 ≤ 10) : 0 ≤ z32 ∧ z32 ≤ 9 := by omega
theorem vc_X12_prefix_W_9 {z32 : Int} (h0 : z32 = 10) (h1 : 0 ≤ z32 ∧ z32 ≤ 10) : 10 ≤ z32 ∧ z32 ≤ 10 := by omega
theorem vc_X12_prefix_W_10 {z29 : Int} (h0 : ¬ z29 = (-99999999)) (h1 : z29 = -99999999 ∨ (0 ≤ z29 ∧ z29 ≤ 9)) (h2 : (-99999999) ≤ z29 ∧ z29 ≤ 9) : 0 ≤ z29 ∧ z29 ≤ 9 := by omega
set_option maxRecDepth 4000 in
set_option maxHeartbeats 4000000 in
theorem c_X12_prefix_W {l : Launch} {D : va_G} {c : Nat → ClassId} {H0 : Heap} {sa : Nat × Nat × (Nat → Int32)} {w : mW} {μ : mM} (hw : mWF w) (hT : mT w μ) {p1 : Int} (hp1 : (-2147483648) ≤ p1 ∧ p1 ≤ 2147483647) {p2 : Int} (hp2 : (-2147483648) ≤ p2 ∧ p2 ≤ 2147483647) {Q : Int → mM → Prop} (hQ : WP_X12_prefix_W w μ p1 p2 Q) : sC (gG l D c H0 sa) mX12_prefix 2 0 0 [.ref 106, iv p1, iv p2] (mk w μ) (qI w [106002, 108999, 109999] μ (fun z μ1 => ((-2147483648) ≤ z ∧ z ≤ 2147483647) ∧ Q z μ1 ∧ True)) := by
  refine sC.of rfl (by decide) (le_t rfl) ?_
  refine mr_lvE (lv' := [(0, .ref 106), (1, iv p1), (2, iv p2)]) rfl ?_
  refine mr_iload_n (pc := 0) (z := p2) dX12_prefix_0 rfl rfl ?_
  refine mr_iconst (pc := 1) (z := 0) dX12_prefix_1 ?_
  refine mr_bipush (pc := 2) (z := 32) dX12_prefix_2 (by decide) ?_
  refine mr_cSP (pc := 4) (c_X12_in_W hw hT hp2 (rW (c := (-2147483648)) (d := 2147483647) (rR (x := 0)) rfl) (rW (c := (-2147483648)) (d := 2147483647) (rR (x := 32)) rfl) hQ) (gOk _ _ _ _ _) dX12_prefix_4 (tX12_in _ _ _ _ _) wS_X12_in wM_X12_18 ⟨le_t rfl, le_t rfl⟩ ⟨le_t rfl, le_t rfl⟩ rfl (le_t rfl) fun z5 h4 => ?_
  refine mr_if_eq (pc := 7) (tgt := 21) dX12_prefix_7 (by decide) (r32 h4.1 rfl) (fun h6 => ?_) (fun h6 => ?_)
  · have h7 : 0 ≤ z5 ∧ z5 ≤ 0 := (vc_X12_prefix_W_1 h6 h4.2.1 h4.2.2.1 hp2 h4.1)
    have h8 : p2 < (0 : Int) ∨ (32 : Int) < p2 := (h4.2.2.1 (vc_X12_prefix_W_2 h4.2.1 h4.2.2.1 h6 hp2 h7))
    refine mr_iconst (pc := 21) (z := (-1)) dX12_prefix_21 ?_
    exact mr_iret dX12_prefix_22 rfl (le_t rfl) (le_t rfl) hT mF.refl ⟨(rW (c := (-2147483648)) (d := 2147483647) (rR (x := (-1))) rfl), ((h4.2.2.2.1 h4.1).1 h6), trivial⟩
  have h9 : 1 ≤ z5 ∧ z5 ≤ 1 := (vc_X12_prefix_W_3 h6 h4.2.1 h4.2.2.1 hp2 h4.1)
  have h10 : (0 : Int) ≤ p2 ∧ p2 ≤ (32 : Int) := (h4.2.1 (vc_X12_prefix_W_4 h4.2.1 h4.2.2.1 h6 hp2 h9))
  have h11 : 0 ≤ p2 ∧ p2 ≤ 32 := (vc_X12_prefix_W_5 h10 h4.2.1 h4.2.2.1 hp2 h9)
  refine mr_iload_n (pc := 10) (z := p1) dX12_prefix_10 rfl rfl ?_
  refine mr_iload_n (pc := 11) (z := p2) dX12_prefix_11 rfl rfl ?_
  refine mr_cSP (pc := 12) (c_X12_mask_W hw hT (rW (c := (-2147483648)) (d := 2147483647) h11 rfl) ((h4.2.2.2.1 h4.1).2 h6)) (gOk _ _ _ _ _) dX12_prefix_12 (tX12_mask _ _ _ _ _) wS_X12_mask wM_X12_11 ⟨le_t rfl, le_t rfl⟩ ⟨le_t rfl, le_t rfl⟩ rfl (le_t rfl) fun z16 h15 => ?_
  refine mr_iconst (pc := 15) (z := (-1)) dX12_prefix_15 ?_
  refine mr_ixor (pc := 16) (x := z16) (y := (-1)) dX12_prefix_16 ?_
  refine mr_gen (P := fun z => (-2147483648) ≤ z ∧ z ≤ 2147483647) (r32i _) fun z17 q18 h19 => ?_
  refine mr_iand (pc := 17) (x := p1) (y := z17) dX12_prefix_17 ?_
  refine mr_gen (P := fun z => (-2147483648) ≤ z ∧ z ≤ 2147483647) (r32i _) fun z20 q21 h22 => ?_
  refine mr_if_eq (pc := 18) (tgt := 23) dX12_prefix_18 (by decide) h22 (fun h23 => ?_) (fun h23 => ?_)
  · have h24 : 0 ≤ z20 ∧ z20 ≤ 0 := (vc_X12_mask_1 h23 h22)
    refine sv_aload_n (pc := 23) dX12_prefix_23 rfl rfl ?_
    refine mr_iload_n (pc := 24) (z := p1) dX12_prefix_24 rfl rfl ?_
    refine mr_iload_n (pc := 25) (z := p2) dX12_prefix_25 rfl rfl ?_
    refine mr_cVP (pc := 26) (c_X12_prefixOf_W hw hT hp1 (rW (c := (-2147483648)) (d := 2147483647) h11 rfl) ((((h15.2.1 h15.1) z17 q18) z20 q21).1 h23)) (gOk _ _ _ _ _) dX12_prefix_26 (tX12_prefixOf _ _ _ _ _) ⟨wV_X12_prefixOf, wL_X12_prefixOf⟩ wM_X12_30 (gCX12 _ _ _ _ _) rfl (A_106 hw) rfl ⟨le_t rfl, le_t rfl⟩ ⟨le_t rfl, le_t rfl⟩ rfl (le_t rfl) fun z29 h28 => ?_
    refine mr_ldc (pc := 29) (z := (-99999999)) dX12_prefix_29 wG_X12_29 (by decide) ?_
    refine mr_icmp_eq (pc := 31) (tgt := 37) dX12_prefix_31 (by decide) (r32 h28.1 rfl) (r32 (rR (x := (-99999999))) rfl) (fun h30 => ?_) (fun h30 => ?_)
    · have h31 : (-99999999) ≤ z29 ∧ z29 ≤ (-99999999) := (vc_X12_prefix_W_7 h30 h28.2.1 h28.1)
      refine sv_aload_n (pc := 37) dX12_prefix_37 rfl rfl ?_
      refine gf_X12_2 (pc := 38) dX12_prefix_38 wF_X12_15 (A_106 hw) hT fun z32 q33 h34 => ?_
      refine mr_bipush (pc := 41) (z := 10) dX12_prefix_41 (by decide) ?_
      refine mr_icmp_ne (pc := 43) (tgt := 49) dX12_prefix_43 (by decide) (r32 h34 rfl) (r32 (rR (x := 10)) rfl) (fun h35 => ?_) (fun h35 => ?_)
      · have h36 : 0 ≤ z32 ∧ z32 ≤ 9 := (vc_X12_prefix_W_8 h35 h34)
        refine sv_aload_n (pc := 49) dX12_prefix_49 rfl rfl ?_
        refine gf_X12_3 (pc := 50) dX12_prefix_50 wF_X12_22 (A_106 hw) hT ?_
        refine sv_aload_n (pc := 53) dX12_prefix_53 rfl rfl ?_
        refine gk_X12_2 (pc := 54) dX12_prefix_54 wF_X12_15 (A_106 hw) q33 ?_
        refine mr_iload_n (pc := 57) (z := p1) dX12_prefix_57 rfl rfl ?_
        refine ss_108 (pc := 58) dX12_prefix_58 (A_108 hw) hT (rIx (n := 10) h36 rfl) hp1 fun μ37 u38 T39 => ?_
        refine sv_aload_n (pc := 59) dX12_prefix_59 rfl rfl ?_
        refine gf_X12_4 (pc := 60) dX12_prefix_60 wF_X12_26 (A_106 hw) T39 ?_
        refine sv_aload_n (pc := 63) dX12_prefix_63 rfl rfl ?_
        refine gk_X12_2 (pc := 64) dX12_prefix_64 wF_X12_15 (A_106 hw) (u38.f (Or.inl (mAt.ne (A_108 hw) (A_106 hw) rfl)) q33) ?_
        refine mr_iload_n (pc := 67) (z := p2) dX12_prefix_67 rfl rfl ?_
        refine ss_109 (pc := 68) dX12_prefix_68 (A_109 hw) T39 (rIx (n := 10) h36 rfl) h11 fun μ40 u41 T42 => ?_
        refine sv_aload_n (pc := 69) dX12_prefix_69 rfl rfl ?_
        refine sv_dup (pc := 70) dX12_prefix_70 rfl ?_
        refine gk_X12_2 (pc := 71) dX12_prefix_71 wF_X12_15 (A_106 hw) (u41.f (Or.inl (mAt.ne (A_109 hw) (A_106 hw) rfl)) (u38.f (Or.inl (mAt.ne (A_108 hw) (A_106 hw) rfl)) q33)) ?_
        refine mr_iconst (pc := 74) (z := 1) dX12_prefix_74 ?_
        refine mr_iadd (pc := 75) (x := z32) (y := 1) dX12_prefix_75 ?_
        refine pf_X12_2 (pc := 76) dX12_prefix_76 wF_X12_15 (A_106 hw) T42 (rW (c := 0) (d := 10) (rAdd (e := 1) (f := 10) h36 (rR (x := 1)) rfl) rfl) fun μ43 u44 T45 => ?_
        refine sv_aload_n (pc := 79) dX12_prefix_79 rfl rfl ?_
        refine gk_X12_2 (pc := 80) dX12_prefix_80 wF_X12_15 (A_106 hw) u44.1 ?_
        refine mr_iconst (pc := 83) (z := 1) dX12_prefix_83 ?_
        refine mr_isub (pc := 84) (x := (z32 + 1)) (y := 1) dX12_prefix_84 ?_
        exact mr_iret dX12_prefix_85 rfl (le_t rfl) (le_t rfl) T45 (mF.up (mF.up (mF.up mF.refl (A_108 hw) u38 rfl) (A_109 hw) u41 rfl) (A_106 hw) u44 rfl) ⟨(rW (c := (-2147483648)) (d := 2147483647) (rSub (e := 0) (f := 9) (rAdd (e := 1) (f := 10) h36 (rR (x := 1)) rfl) (rR (x := 1)) rfl) rfl), (((((((h28.2.2.1 h28.1).1 h30) z32 q33 h34).1 h35) μ37 u38 T39) μ40 u41 T42) μ43 u44 T45), trivial⟩
      have h46 : 10 ≤ z32 ∧ z32 ≤ 10 := (vc_X12_prefix_W_9 h35 h34)
      refine mr_bipush (pc := 46) (z := (-3)) dX12_prefix_46 (by decide) ?_
      exact mr_iret dX12_prefix_48 rfl (le_t rfl) (le_t rfl) hT mF.refl ⟨(rW (c := (-2147483648)) (d := 2147483647) (rR (x := (-3))) rfl), ((((h28.2.2.1 h28.1).1 h30) z32 q33 h34).2 h35), trivial⟩
    have h47 : 0 ≤ z29 ∧ z29 ≤ 9 := (vc_X12_prefix_W_10 h30 h28.2.1 h28.1)
    refine mr_bipush (pc := 34) (z := (-2)) dX12_prefix_34 (by decide) ?_
    exact mr_iret dX12_prefix_36 rfl (le_t rfl) (le_t rfl) hT mF.refl ⟨(rW (c := (-2147483648)) (d := 2147483647) (rR (x := (-2))) rfl), ((h28.2.2.1 h28.1).2 h30), trivial⟩
  refine mr_iconst (pc := 21) (z := (-1)) dX12_prefix_21 ?_
  exact mr_iret dX12_prefix_22 rfl (le_t rfl) (le_t rfl) hT mF.refl ⟨(rW (c := (-2147483648)) (d := 2147483647) (rR (x := (-1))) rfl), ((((h15.2.1 h15.1) z17 q18) z20 q21).2 h23), trivial⟩
def WJ_X8_takeIn_W_2 (w : mW) (p3 : Int) (b969 : Nat) (rec1 : (Int × Int × mM) → Prop) (z1715 : Int) (μ1717 : mM) (z1791 : Int) (b1840 : Nat) (b1845 : Nat) : Prop := mAt w b1845 200 → WP_X7_become_W w μ1717 b1840 b1845 (fun μ1849 => mT w μ1849 → mF [200002, 200003, 200004, 200005, 200006, 200007, 200008, 201999, 202999] w μ1717 μ1849 → ∀ μ1853 : mM, mU μ1849 b1840 (3) z1791 μ1853 → mT w μ1853 → ∀ z1856 : Int, μ1853 32 11 = z1856 → ((-1) ≤ z1856 ∧ z1856 ≤ 2000000000) → ∀ μ1859 : mM, mU μ1853 b1840 (9) z1856 μ1859 → mT w μ1859 → WP_X9_end_W w μ1859 b969 p3 (fun z1866 _ => (0 ≤ z1866 ∧ z1866 ≤ 9) → WP_X8_look_W w μ1859 z1866 z1791 (fun μ1867 => mT w μ1867 → mF [21002, 21003, 21004, 21005, 21006, 21007, 32009, 32010, 33999, 34999, 66999, 200002, 200003, 200004, 200005, 200006, 200007, 200008, 200009, 200010, 200011, 201999, 202999, 213999] w μ1859 μ1867 → ∀ z1871 : Int, (-2147483648 ≤ z1871 ∧ z1871 ≤ 2147483647) → rec1 (z1871, (z1715 + 1), μ1867))))
def WL_X8_takeIn_W_1 (w : mW) (μ : mM) (p3 : Int) (Q : Int → mM → Prop) (f_wd : Int) (f_an : Int) (b969 : Nat) (rec1 : (Int × Int × mM) → Prop) (s : (Int × Int × mM)) : Prop := ∀ z1716 : Int, ∀ z1715 : Int, ∀ μ1717 : mM, s = (z1716, z1715, μ1717) → ((-2147483648) ≤ z1716 ∧ z1716 ≤ 2147483647) → (0 ≤ z1715 ∧ z1715 ≤ 2000) → mT w μ1717 → mF [21002, 21003, 21004, 21005, 21006, 21007, 32009, 32010, 33999, 34999, 66999, 200002, 200003, 200004, 200005, 200006, 200007, 200008, 200009, 200010, 200011, 201999, 202999, 213999] w μ μ1717 → (((f_wd + f_an) ≤ z1715) → Q z1716 μ1717) ∧ ((z1715 < (f_wd + f_an)) → ∀ z1781 : Int, μ1717 84 (z1715.toNat) = z1781 → ((-2147483648) ≤ z1781 ∧ z1781 ≤ 2147483647) → ∀ z1784 : Int, μ1717 85 (z1715.toNat) = z1784 → ((-2147483648) ≤ z1784 ∧ z1784 ≤ 2147483647) → WP_X10_findPrefix_W w μ1717 z1781 z1784 (fun z1791 _ => ((-1) ≤ z1791 ∧ z1791 ≤ 9) → ((0 ≤ z1791) → WP_X9_placeOf_W w μ1717 p3 z1791 (fun z1839 _ => (0 ≤ z1839 ∧ z1839 ≤ 19) → ∀ b1840 : Nat, μ1717 (b969 + 2) (z1839.toNat) = (b1840 : Int) → mAt w b1840 200 → ((f_wd ≤ z1715) → (WJ_X8_takeIn_W_2 w p3 b969 rec1 z1715 μ1717 z1791 b1840) 81) ∧ ((z1715 < f_wd) → (WJ_X8_takeIn_W_2 w p3 b969 rec1 z1715 μ1717 z1791 b1840) 70))) ∧ ((z1791 < 0) → rec1 (z1716, (z1715 + 1), μ1717))))
def WP_X8_takeIn_W (w : mW) (μ : mM) (p2 : Int) (p3 : Int) (Q : Int → mM → Prop) : Prop := ∀ f_wd : Int, μ 76 13 = f_wd → (0 ≤ f_wd ∧ f_wd ≤ 1000) → ∀ f_an : Int, μ 76 14 = f_an → (0 ≤ f_an ∧ f_an ≤ 1000) → ∀ b969 : Nat, μ 11 (p2.toNat) = (b969 : Int) → mAt w b969 220 → loopF (WL_X8_takeIn_W_1 w μ p3 Q f_wd f_an b969) False 2002 ((0 : Int), (0 : Int), μ)
theorem vc_X8_takeIn_W_3 {f_an f_wd z1715 : Int} (h0 : z1715 < (f_wd + f_an)) (h1 : f_wd + f_an ≤ 1000) (h2 : 0 ≤ f_an ∧ f_an ≤ 1000) (h3 : 0 ≤ f_wd ∧ f_wd ≤ 1000) (h4 : 0 ≤ z1715 ∧ z1715 ≤ 2000) : 0 ≤ z1715 ∧ z1715 ≤ 1999 := by omega
theorem vc_X8_takeIn_W_4 {f_an f_wd z1715 : Int} (h0 : z1715 < (f_wd + f_an)) (h1 : f_wd + f_an ≤ 1000) (h2 : 0 ≤ f_an ∧ f_an ≤ 1000) (h3 : 0 ≤ f_wd ∧ f_wd ≤ 1000) (h4 : 0 ≤ z1715 ∧ z1715 ≤ 1999) : 0 ≤ z1715 ∧ z1715 < 1000 := by omega
theorem vc_X8_takeIn_W_7 {N f_an f_wd z1715 : Int} (h0 : (2001 - z1715) < N + 1) (h1 : z1715 < (f_wd + f_an)) (h2 : f_wd + f_an ≤ 1000) (h3 : 0 ≤ f_an ∧ f_an ≤ 1000) (h4 : 0 ≤ f_wd ∧ f_wd ≤ 1000) (h5 : 0 ≤ z1715 ∧ z1715 ≤ 1999) : (2001 - (z1715 + 1)) < N := by omega
theorem vc_X8_takeIn_W_8 {f_an f_wd z1715 : Int} (h0 : z1715 < f_wd) (h1 : f_wd + f_an ≤ 1000) (h2 : z1715 < (f_wd + f_an)) (h3 : 0 ≤ f_an ∧ f_an ≤ 1000) (h4 : 0 ≤ f_wd ∧ f_wd ≤ 1000) (h5 : 0 ≤ z1715 ∧ z1715 ≤ 1999) : 0 ≤ z1715 ∧ z1715 ≤ 999 := by omega
theorem vc_X8_takeIn_W_9 {f_an f_wd z1715 : Int} (h0 : z1715 < f_wd) (h1 : f_wd + f_an ≤ 1000) (h2 : z1715 < (f_wd + f_an)) (h3 : 0 ≤ f_an ∧ f_an ≤ 1000) (h4 : 0 ≤ f_wd ∧ f_wd ≤ 1000) (h5 : 0 ≤ z1715 ∧ z1715 ≤ 999) : 1 ≤ f_wd ∧ f_wd ≤ 1000 := by omega
set_option maxRecDepth 4000 in
set_option maxHeartbeats 4000000 in
theorem c_X8_takeIn_W {l : Launch} {D : va_G} {c : Nat → ClassId} {H0 : Heap} {sa : Nat × Nat × (Nat → Int32)} {w : mW} {μ : mM} (hw : mWF w) (hT : mT w μ) (hA1 : mAt w 76 76) {p2 : Int} (hp2 : 0 ≤ p2 ∧ p2 ≤ 19) {p3 : Int} (hp3 : 0 ≤ p3 ∧ p3 ≤ 1) {f_wd : Int} (q_f_wd : μ 76 13 = f_wd) {f_an : Int} (q_f_an : μ 76 14 = f_an) (hq0 : p2 < w.2.2.2 1) (hq1 : f_wd + f_an ≤ 1000) (hIPC : PC w μ) {Q : Int → mM → Prop} (hQ : WP_X8_takeIn_W w μ p2 p3 Q) : sC (gG l D c H0 sa) mX8_takeIn 43 0 0 [.ref 32, .ref 76, iv p2, iv p3] (mk w μ) (qI w [21002, 21003, 21004, 21005, 21006, 21007, 32009, 32010, 33999, 34999, 66999, 200002, 200003, 200004, 200005, 200006, 200007, 200008, 200009, 200010, 200011, 201999, 202999, 213999] μ (fun z μ1 => ((-2147483648) ≤ z ∧ z ≤ 2147483647) ∧ Q z μ1 ∧ True)) := by
  refine sC.of rfl (by decide) (le_t rfl) ?_
  have ht_f_wd : (0 ≤ f_wd ∧ f_wd ≤ 1000) := by rw [← q_f_wd]; exact hT 76 76 (A_76 hw) 13
  have ht_f_an : (0 ≤ f_an ∧ f_an ≤ 1000) := by rw [← q_f_an]; exact hT 76 76 (A_76 hw) 14
  refine mr_lvE (lv' := [(0, .ref 32), (1, .ref 76), (2, iv p2), (3, iv p3)]) rfl ?_
  refine sv_aload_n (pc := 0) dX8_takeIn_0 rfl rfl ?_
  refine gf_X8_0 (pc := 1) dX8_takeIn_1 wF_X8_9 (A_32 hw) hT ?_
  refine gf_X10_4 (pc := 4) dX8_takeIn_4 wF_X8_76 (A_6 hw) hT ?_
  refine mr_iload_n (pc := 7) (z := p2) dX8_takeIn_7 rfl rfl ?_
  refine la_11 (pc := 8) dX8_takeIn_8 (A_11 hw) hT (rIx (n := 20) hp2 rfl) (vc_X8_say_W_1 hq0 hp2) fun b969 q970 A971 => ?_
  refine mr_astore (pc := 9) (lv' := [(4, .ref b969), (0, .ref 32), (1, .ref 76), (2, iv p2), (3, iv p3)]) dX8_takeIn_9 (by decide) rfl ?_
  refine sv_aload_n (pc := 11) dX8_takeIn_11 rfl rfl ?_
  refine gk_X3_13 (pc := 12) dX8_takeIn_12 wF_X8_113 (A_76 hw) q_f_wd ?_
  refine sv_aload_n (pc := 15) dX8_takeIn_15 rfl rfl ?_
  refine gk_X3_14 (pc := 16) dX8_takeIn_16 wF_X8_118 (A_76 hw) q_f_an ?_
  refine mr_iadd (pc := 19) (x := f_wd) (y := f_an) dX8_takeIn_19 ?_
  refine mr_istore (pc := 20) (lv' := [(5, iv (f_wd + f_an)), (4, .ref b969), (0, .ref 32), (1, .ref 76), (2, iv p2), (3, iv p3)]) dX8_takeIn_20 (by decide) rfl ?_
  refine mr_iconst (pc := 22) (z := 0) dX8_takeIn_22 ?_
  refine mr_istore (pc := 23) (lv' := [(6, iv 0), (5, iv (f_wd + f_an)), (4, .ref b969), (0, .ref 32), (1, .ref 76), (2, iv p2), (3, iv p3)]) dX8_takeIn_23 (by decide) rfl ?_
  refine mr_iconst (pc := 25) (z := 0) dX8_takeIn_25 ?_
  refine mr_istore (pc := 26) (lv' := [(7, iv 0), (6, iv 0), (5, iv (f_wd + f_an)), (4, .ref b969), (0, .ref 32), (1, .ref 76), (2, iv p2), (3, iv p3)]) dX8_takeIn_26 (by decide) rfl ?_
  have L1718 : ∀ (nL1718 : Nat) (z1716 z1715 : Int) (μ1717 : mM), mT w μ1717 → mF [21002, 21003, 21004, 21005, 21006, 21007, 32009, 32010, 33999, 34999, 66999, 200002, 200003, 200004, 200005, 200006, 200007, 200008, 200009, 200010, 200011, 201999, 202999, 213999] w μ μ1717 → ((-2147483648) ≤ z1716 ∧ z1716 ≤ 2147483647) → (0 ≤ z1715 ∧ z1715 ≤ 2000) → PC w μ1717 → (2001 - z1715) < (nL1718 : Int) → loopF (WL_X8_takeIn_W_1 w μ p3 Q f_wd f_an b969) False nL1718 (z1716, z1715, μ1717) → sV (gG l D c H0 sa) mX8_takeIn (sRm 43 0 0) (sZ (gG l D c H0 sa) 0 0 (qI w [21002, 21003, 21004, 21005, 21006, 21007, 32009, 32010, 33999, 34999, 66999, 200002, 200003, 200004, 200005, 200006, 200007, 200008, 200009, 200010, 200011, 201999, 202999, 213999] μ (fun z μ1 => ((-2147483648) ≤ z ∧ z ≤ 2147483647) ∧ Q z μ1 ∧ True))) 28 [(0, .ref 32), (1, .ref 76), (3, iv p3), (4, .ref b969), (5, iv (f_wd + f_an)), (6, iv z1716), (7, iv z1715)] [] (mk w μ1717) 0 0 := by
    intro nL1718
    induction nL1718 with
    | zero => intro z1716 z1715 μ1717 T1721 F1722 h1719 h1720 I1724 h1725 W1726; exact ((vc_X1_goThrough_W12_8 h1725 h1720)).elim
    | succ nL1718 ih1727 =>
      intro z1716 z1715 μ1717 T1721 F1722 h1719 h1720 I1724 h1725 W1726
      refine mr_iload (pc := 28) (z := z1715) dX8_takeIn_28 rfl ?_
      refine mr_iload (pc := 30) (z := (f_wd + f_an)) dX8_takeIn_30 rfl ?_
      refine mr_icmp_ge (pc := 32) (tgt := 142) dX8_takeIn_32 (by decide) (r32 h1720 rfl) (r32 (rAdd (e := 0) (f := 2000) ht_f_wd ht_f_an rfl) rfl) (fun h1779 => ?_) (fun h1779 => ?_)
      · refine mr_iload (pc := 142) (z := z1716) dX8_takeIn_142 rfl ?_
        exact mr_iret dX8_takeIn_144 rfl (le_t rfl) (le_t rfl) T1721 (mF.call mF.refl F1722 rfl) ⟨h1719, ((W1726 z1716 z1715 μ1717 rfl h1719 h1720 T1721 F1722).1 h1779), trivial⟩
      have h1780 : 0 ≤ z1715 ∧ z1715 ≤ 1999 := (vc_X8_takeIn_W_3 h1779 hq1 ht_f_an ht_f_wd h1720)
      refine sv_aload_n (pc := 35) dX8_takeIn_35 rfl rfl ?_
      refine gf_X8_0 (pc := 36) dX8_takeIn_36 wF_X8_9 (A_32 hw) T1721 ?_
      refine sv_aload_n (pc := 39) dX8_takeIn_39 rfl rfl ?_
      refine gf_X3_10 (pc := 40) dX8_takeIn_40 wF_X8_121 (A_76 hw) T1721 ?_
      refine mr_iload (pc := 43) (z := z1715) dX8_takeIn_43 rfl ?_
      refine la_84 (pc := 45) dX8_takeIn_45 (A_84 hw) T1721 (vc_X8_takeIn_W_4 h1779 hq1 ht_f_an ht_f_wd h1780) fun z1781 q1782 h1783 => ?_
      refine sv_aload_n (pc := 46) dX8_takeIn_46 rfl rfl ?_
      refine gf_X3_11 (pc := 47) dX8_takeIn_47 wF_X8_124 (A_76 hw) T1721 ?_
      refine mr_iload (pc := 50) (z := z1715) dX8_takeIn_50 rfl ?_
      refine la_85 (pc := 52) dX8_takeIn_52 (A_85 hw) T1721 (vc_X8_takeIn_W_4 h1779 hq1 ht_f_an ht_f_wd h1780) fun z1784 q1785 h1786 => ?_
      have W1792 := ((((W1726 z1716 z1715 μ1717 rfl h1719 h1720 T1721 F1722).2 h1779) z1781 q1782 h1783) z1784 q1785 h1786)
      refine mr_cVP (pc := 53) (c_X10_findPrefix_W hw T1721 h1783 h1786 W1792) (gOk _ _ _ _ _) dX8_takeIn_53 (tX10_findPrefix _ _ _ _ _) ⟨wV_X10_findPrefix, wL_X10_findPrefix⟩ wM_X8_127 (gCX10 _ _ _ _ _) rfl (A_6 hw) rfl ⟨le_t rfl, le_t rfl⟩ ⟨le_t rfl, le_t rfl⟩ rfl (le_t rfl) fun z1791 h1790 => ?_
      refine mr_istore (pc := 56) (lv' := [(8, iv z1791), (0, .ref 32), (1, .ref 76), (3, iv p3), (4, .ref b969), (5, iv (f_wd + f_an)), (6, iv z1716), (7, iv z1715)]) dX8_takeIn_56 (by decide) rfl ?_
      refine mr_iload (pc := 58) (z := z1791) dX8_takeIn_58 rfl ?_
      refine mr_if_ge (pc := 60) (tgt := 66) dX8_takeIn_60 (by decide) (r32 h1790.1 rfl) (fun h1832 => ?_) (fun h1832 => ?_)
      · have h1833 : 0 ≤ z1791 ∧ z1791 ≤ 9 := (vc_X12_isThere_6 h1832 h1790.1)
        refine sv_aload (pc := 66) dX8_takeIn_66 rfl ?_
        refine gf_X9_4 (pc := 68) dX8_takeIn_68 wF_X8_96 A971 T1721 fun A1834 => ?_
        refine mr_iload_n (pc := 71) (z := p3) dX8_takeIn_71 rfl rfl ?_
        refine mr_iload (pc := 72) (z := z1791) dX8_takeIn_72 rfl ?_
        refine mr_cSP (pc := 74) (c_X9_placeOf_W hw T1721 hp3 h1833 ((h1790.2.1 h1790.1).1 h1832)) (gOk _ _ _ _ _) dX8_takeIn_74 (tX9_placeOf _ _ _ _ _) wS_X9_placeOf wM_X8_99 ⟨le_t rfl, le_t rfl⟩ ⟨le_t rfl, le_t rfl⟩ rfl (le_t rfl) fun z1839 h1838 => ?_
        refine la_222 (pc := 77) dX8_takeIn_77 A1834 T1721 (rIx (n := 20) h1838.1 rfl) fun b1840 q1841 A1842 => ?_
        refine mr_astore (pc := 78) (lv' := [(9, .ref b1840), (8, iv z1791), (0, .ref 32), (1, .ref 76), (3, iv p3), (4, .ref b969), (5, iv (f_wd + f_an)), (6, iv z1716), (7, iv z1715)]) dX8_takeIn_78 (by decide) rfl ?_
        refine sv_aload (pc := 80) dX8_takeIn_80 rfl ?_
        refine mr_iload (pc := 82) (z := z1715) dX8_takeIn_82 rfl ?_
        refine sv_aload_n (pc := 84) dX8_takeIn_84 rfl rfl ?_
        refine gk_X3_13 (pc := 85) dX8_takeIn_85 wF_X8_113 (A_76 hw) (F1722.f (A_76 hw) rfl q_f_wd) ?_
        have J1847 : ∀ (b1845 : Nat), (mAt w b1845 200) → ((WJ_X8_takeIn_W_2 w p3 b969 (loopF (WL_X8_takeIn_W_1 w μ p3 Q f_wd f_an b969) False nL1718) z1715 μ1717 z1791 b1840) b1845) → sV (gG l D c H0 sa) mX8_takeIn (sRm 43 0 0) (sZ (gG l D c H0 sa) 0 0 (qI w [21002, 21003, 21004, 21005, 21006, 21007, 32009, 32010, 33999, 34999, 66999, 200002, 200003, 200004, 200005, 200006, 200007, 200008, 200009, 200010, 200011, 201999, 202999, 213999] μ (fun z μ1 => ((-2147483648) ≤ z ∧ z ≤ 2147483647) ∧ Q z μ1 ∧ True))) 102 [(0, .ref 32), (1, .ref 76), (3, iv p3), (4, .ref b969), (5, iv (f_wd + f_an)), (6, iv z1716), (7, iv z1715), (8, iv z1791), (9, .ref b1840)] [.ref b1845, .ref b1840] (mk w μ1717) 0 0 := by
          intro b1845 A1846 W1848
          refine mr_cVV (pc := 102) (c_X7_become_W hw T1721 A1842 A1846 (W1848 A1846)) (gOk _ _ _ _ _) dX8_takeIn_102 (tX7_become _ _ _ _ _) ⟨wV_X7_become, wL_X7_become⟩ wM_X8_106 (gCX7 _ _ _ _ _) rfl A1842 rfl ⟨le_t rfl, le_t rfl⟩ ⟨le_t rfl, le_t rfl⟩ rfl (le_t rfl) fun μ1849 T1850 F1851 h1852 => ?_
          refine sv_aload (pc := 105) dX8_takeIn_105 rfl ?_
          refine mr_iload (pc := 107) (z := z1791) dX8_takeIn_107 rfl ?_
          refine pf_X7_3 (pc := 109) dX8_takeIn_109 wF_X8_133 A1842 T1850 h1833 fun μ1853 u1854 T1855 => ?_
          refine sv_aload (pc := 112) dX8_takeIn_112 rfl ?_
          refine sv_aload_n (pc := 114) dX8_takeIn_114 rfl rfl ?_
          refine gf_X8_11 (pc := 115) dX8_takeIn_115 wF_X8_62 (A_32 hw) T1855 fun z1856 q1857 h1858 => ?_
          refine pf_X7_9 (pc := 118) dX8_takeIn_118 wF_X8_110 A1842 T1855 h1858 fun μ1859 u1860 T1861 => ?_
          refine sv_aload_n (pc := 121) dX8_takeIn_121 rfl rfl ?_
          refine sv_aload (pc := 122) dX8_takeIn_122 rfl ?_
          refine mr_iload_n (pc := 124) (z := p3) dX8_takeIn_124 rfl rfl ?_
          refine mr_cVP (pc := 125) (c_X9_end_W hw T1861 A971 (rW (c := (-2147483648)) (d := 2147483647) hp3 rfl) ((((h1852.1 T1850 F1851) μ1853 u1854 T1855) z1856 q1857 h1858) μ1859 u1860 T1861)) (gOk _ _ _ _ _) dX8_takeIn_125 (tX9_end _ _ _ _ _) ⟨wV_X9_end, wL_X9_end⟩ wM_X8_86 (gCX9 _ _ _ _ _) rfl A971 rfl ⟨le_t rfl, le_t rfl⟩ ⟨le_t rfl, le_t rfl⟩ rfl (le_t rfl) fun z1866 h1865 => ?_
          refine mr_iload (pc := 128) (z := z1791) dX8_takeIn_128 rfl ?_
          refine mr_cVV (pc := 130) (c_X8_look_W hw T1861 h1865.1 h1833 (vc_X9_end_1 h1865.2.1 h1865.1) (PC.keep I1724 hw ((mF.up (mF.up (mF.call mF.refl F1851 rfl) A1842 u1854 rfl) A1842 u1860 rfl) : mF [200002, 200003, 200004, 200005, 200006, 200007, 200008, 200009, 201999, 202999] w μ1717 μ1859) rfl) (h1865.2.2.1 h1865.1)) (gOk _ _ _ _ _) dX8_takeIn_130 (tX8_look _ _ _ _ _) ⟨wV_X8_look, wL_X8_look⟩ wM_X8_92 (gCX8 _ _ _ _ _) rfl (A_32 hw) rfl ⟨le_t rfl, le_t rfl⟩ ⟨le_t rfl, le_t rfl⟩ rfl (le_t rfl) fun μ1867 T1868 F1869 h1870 => ?_
          refine mr_iincW (pc := 133) dX8_takeIn_133 rfl (by decide) fun z1871 h1872 => mr_lvE (lv' := [(6, iv z1871), (0, .ref 32), (1, .ref 76), (3, iv p3), (4, .ref b969), (5, iv (f_wd + f_an)), (7, iv z1715), (8, iv z1791), (9, .ref b1840)]) rfl ?_
          refine mr_iinc (pc := 136) (lv' := [(7, iv (z1715 + 1)), (6, iv z1871), (0, .ref 32), (1, .ref 76), (3, iv p3), (4, .ref b969), (5, iv (f_wd + f_an)), (8, iv z1791), (9, .ref b1840)]) dX8_takeIn_136 rfl (by decide) rfl ?_
          refine sv_goto (pc := 139) (tgt := 28) dX8_takeIn_139 (by decide) ?_
          refine mr_lvS (lv' := [(0, .ref 32), (1, .ref 76), (3, iv p3), (4, .ref b969), (5, iv (f_wd + f_an)), (6, iv z1871), (7, iv (z1715 + 1))]) (List.forall_mem_cons.mpr ⟨rfl, List.forall_mem_cons.mpr ⟨rfl, List.forall_mem_cons.mpr ⟨rfl, List.forall_mem_cons.mpr ⟨rfl, List.forall_mem_cons.mpr ⟨rfl, List.forall_mem_cons.mpr ⟨rfl, List.forall_mem_cons.mpr ⟨rfl, fun _ h => absurd h List.not_mem_nil⟩⟩⟩⟩⟩⟩⟩) ?_
          exact ih1727 z1871 (z1715 + 1) μ1867 T1868 (mF.call (mF.up (mF.up (mF.call (mF.call mF.refl F1722 rfl) F1851 rfl) A1842 u1854 rfl) A1842 u1860 rfl) F1869 rfl) h1872 (rW (c := 0) (d := 2000) (rAdd (e := 1) (f := 2000) h1780 (rR (x := 1)) rfl) rfl) (PC.keep I1724 hw ((mF.call (mF.up (mF.up (mF.call mF.refl F1851 rfl) A1842 u1854 rfl) A1842 u1860 rfl) F1869 rfl) : mF [21002, 21003, 21004, 21005, 21006, 21007, 32009, 32010, 33999, 34999, 66999, 200002, 200003, 200004, 200005, 200006, 200007, 200008, 200009, 200010, 200011, 201999, 202999, 213999] w μ1717 μ1867) rfl) (vc_X8_takeIn_W_7 (nS h1725) h1779 hq1 ht_f_an ht_f_wd h1780) ((h1870.1 T1868 F1869) z1871 h1872)
        refine mr_icmp_ge (pc := 88) (tgt := 98) dX8_takeIn_88 (by decide) (r32 h1780 rfl) (r32 ht_f_wd rfl) (fun h1873 => ?_) (fun h1873 => ?_)
        · refine sv_aload_n (pc := 98) dX8_takeIn_98 rfl rfl ?_
          refine gf_X3_9 (pc := 99) dX8_takeIn_99 wF_X8_130 (A_76 hw) T1721 ?_
          refine mr_lvS (lv' := [(0, .ref 32), (1, .ref 76), (3, iv p3), (4, .ref b969), (5, iv (f_wd + f_an)), (6, iv z1716), (7, iv z1715), (8, iv z1791), (9, .ref b1840)]) (List.forall_mem_cons.mpr ⟨rfl, List.forall_mem_cons.mpr ⟨rfl, List.forall_mem_cons.mpr ⟨rfl, List.forall_mem_cons.mpr ⟨rfl, List.forall_mem_cons.mpr ⟨rfl, List.forall_mem_cons.mpr ⟨rfl, List.forall_mem_cons.mpr ⟨rfl, List.forall_mem_cons.mpr ⟨rfl, List.forall_mem_cons.mpr ⟨rfl, fun _ h => absurd h List.not_mem_nil⟩⟩⟩⟩⟩⟩⟩⟩⟩) ?_
          exact J1847 81 (A_81 hw) (((h1838.2.1 h1838.1) b1840 q1841 A1842).1 h1873)
        have h1874 : 0 ≤ z1715 ∧ z1715 ≤ 999 := (vc_X8_takeIn_W_8 h1873 hq1 h1779 ht_f_an ht_f_wd h1780)
        have h1875 : 1 ≤ f_wd ∧ f_wd ≤ 1000 := (vc_X8_takeIn_W_9 h1873 hq1 h1779 ht_f_an ht_f_wd h1874)
        refine sv_aload_n (pc := 91) dX8_takeIn_91 rfl rfl ?_
        refine gf_X8_7 (pc := 92) dX8_takeIn_92 wF_X8_46 (A_32 hw) T1721 ?_
        refine sv_goto (pc := 95) (tgt := 102) dX8_takeIn_95 (by decide) ?_
        refine mr_lvS (lv' := [(0, .ref 32), (1, .ref 76), (3, iv p3), (4, .ref b969), (5, iv (f_wd + f_an)), (6, iv z1716), (7, iv z1715), (8, iv z1791), (9, .ref b1840)]) (List.forall_mem_cons.mpr ⟨rfl, List.forall_mem_cons.mpr ⟨rfl, List.forall_mem_cons.mpr ⟨rfl, List.forall_mem_cons.mpr ⟨rfl, List.forall_mem_cons.mpr ⟨rfl, List.forall_mem_cons.mpr ⟨rfl, List.forall_mem_cons.mpr ⟨rfl, List.forall_mem_cons.mpr ⟨rfl, List.forall_mem_cons.mpr ⟨rfl, fun _ h => absurd h List.not_mem_nil⟩⟩⟩⟩⟩⟩⟩⟩⟩) ?_
        exact J1847 70 (A_70 hw) (((h1838.2.1 h1838.1) b1840 q1841 A1842).2 h1873)
      have h1876 : (-1) ≤ z1791 ∧ z1791 ≤ (-1) := (vc_X12_isThere_3 h1832 h1790.1)
      refine sv_goto (pc := 63) (tgt := 136) dX8_takeIn_63 (by decide) ?_
      refine mr_iinc (pc := 136) (lv' := [(7, iv (z1715 + 1)), (8, iv z1791), (0, .ref 32), (1, .ref 76), (3, iv p3), (4, .ref b969), (5, iv (f_wd + f_an)), (6, iv z1716)]) dX8_takeIn_136 rfl (by decide) rfl ?_
      refine sv_goto (pc := 139) (tgt := 28) dX8_takeIn_139 (by decide) ?_
      refine mr_lvS (lv' := [(0, .ref 32), (1, .ref 76), (3, iv p3), (4, .ref b969), (5, iv (f_wd + f_an)), (6, iv z1716), (7, iv (z1715 + 1))]) (List.forall_mem_cons.mpr ⟨rfl, List.forall_mem_cons.mpr ⟨rfl, List.forall_mem_cons.mpr ⟨rfl, List.forall_mem_cons.mpr ⟨rfl, List.forall_mem_cons.mpr ⟨rfl, List.forall_mem_cons.mpr ⟨rfl, List.forall_mem_cons.mpr ⟨rfl, fun _ h => absurd h List.not_mem_nil⟩⟩⟩⟩⟩⟩⟩) ?_
      exact ih1727 z1716 (z1715 + 1) μ1717 T1721 (mF.call mF.refl F1722 rfl) h1719 (rW (c := 0) (d := 2000) (rAdd (e := 1) (f := 2000) h1780 (rR (x := 1)) rfl) rfl) I1724 (vc_X8_takeIn_W_7 (nS h1725) h1779 hq1 ht_f_an ht_f_wd h1780) ((h1790.2.1 h1790.1).2 h1832)
  refine mr_lvS (lv' := [(0, .ref 32), (1, .ref 76), (3, iv p3), (4, .ref b969), (5, iv (f_wd + f_an)), (6, iv 0), (7, iv 0)]) (List.forall_mem_cons.mpr ⟨rfl, List.forall_mem_cons.mpr ⟨rfl, List.forall_mem_cons.mpr ⟨rfl, List.forall_mem_cons.mpr ⟨rfl, List.forall_mem_cons.mpr ⟨rfl, List.forall_mem_cons.mpr ⟨rfl, List.forall_mem_cons.mpr ⟨rfl, fun _ h => absurd h List.not_mem_nil⟩⟩⟩⟩⟩⟩⟩) ?_
  exact L1718 2002 0 0 μ hT mF.refl (rW (c := (-2147483648)) (d := 2147483647) (rR (x := 0)) rfl) (rW (c := 0) (d := 2000) (rR (x := 0)) rfl) hIPC vc_X1_goThrough_W12_41 (((hQ f_wd q_f_wd ht_f_wd) f_an q_f_an ht_f_an) b969 q970 A971)
def WP_X11_hear_W (w : mW) (μ : mM) (p1 : Int) (p2 : Int) (Q : Int → mM → Prop) : Prop := ∀ f_wd : Int, μ 76 13 = f_wd → (0 ≤ f_wd ∧ f_wd ≤ 1000) → ∀ f_an : Int, μ 76 14 = f_an → (0 ≤ f_an ∧ f_an ≤ 1000) → ∀ z125 : Int, μ 6 16 = z125 → (z125 = w.2.2.2 1 ∧ 0 ≤ z125 ∧ z125 ≤ 20) → WP_X11_isTie_W w μ p1 (fun z132 _ => (0 ≤ z132 ∧ z132 ≤ 1) → ((z132 = 0) → Q ((-1) : Int) μ) ∧ ((¬ z132 = 0) → WP_X11_isEither_W w μ p2 (fun z143 _ => (0 ≤ z143 ∧ z143 ≤ 1) → ((¬ z143 = 0) → ∀ z148 : Int, μ 76 16 = z148 → (0 ≤ z148 ∧ z148 ≤ 1) → ((z148 = 0) → Q ((-2) : Int) μ) ∧ ((¬ z148 = 0) → ∀ b154 : Nat, μ 11 (p1.toNat) = (b154 : Int) → mAt w b154 220 → ∀ z157 : Int, μ b154 6 = z157 → (0 ≤ z157 ∧ z157 ≤ 1) → ((¬ z157 = 0) → WP_X8_takeIn_W w μ p1 p2 (fun z166 μ162 => mT w μ162 → mF [21002, 21003, 21004, 21005, 21006, 21007, 32009, 32010, 33999, 34999, 66999, 200002, 200003, 200004, 200005, 200006, 200007, 200008, 200009, 200010, 200011, 201999, 202999, 213999] w μ μ162 → ((-2147483648) ≤ z166 ∧ z166 ≤ 2147483647) → Q z166 μ162)) ∧ ((z157 = 0) → Q ((-2) : Int) μ))) ∧ ((z143 = 0) → Q ((-1) : Int) μ))))
theorem vc_X11_hear_W_11 {n1 p1 z125 z132 : Int} (h0 : z125 = n1) (h1 : (z132 = 1 → 0 ≤ p1 ∧ p1 < z125)) (h2 : (z132 = 0 → p1 < 0 ∨ z125 ≤ p1)) (h3 : 0 ≤ p1 ∧ p1 < z125) (h4 : ¬ z132 = 0) (h5 : 0 ≤ p1 ∧ p1 ≤ 19) (h6 : 0 ≤ z125 ∧ z125 ≤ 20) (h7 : 1 ≤ z132 ∧ z132 ≤ 1) : p1 < n1 := by omega
set_option maxRecDepth 4000 in
set_option maxHeartbeats 4000000 in
theorem c_X11_hear_W {l : Launch} {D : va_G} {c : Nat → ClassId} {H0 : Heap} {sa : Nat × Nat × (Nat → Int32)} {w : mW} {μ : mM} (hw : mWF w) (hT : mT w μ) {p1 : Int} (hp1 : (-2147483648) ≤ p1 ∧ p1 ≤ 2147483647) {p2 : Int} (hp2 : (-2147483648) ≤ p2 ∧ p2 ≤ 2147483647) {f_wd : Int} (q_f_wd : μ 76 13 = f_wd) {f_an : Int} (q_f_an : μ 76 14 = f_an) (hq0 : f_wd + f_an ≤ 1000) (hIPC : PC w μ) {Q : Int → mM → Prop} (hQ : WP_X11_hear_W w μ p1 p2 Q) : sC (gG l D c H0 sa) mX11_hear 44 0 0 [.ref 0, iv p1, iv p2] (mk w μ) (qI w [21002, 21003, 21004, 21005, 21006, 21007, 32009, 32010, 33999, 34999, 66999, 200002, 200003, 200004, 200005, 200006, 200007, 200008, 200009, 200010, 200011, 201999, 202999, 213999] μ (fun z μ1 => ((-2147483648) ≤ z ∧ z ≤ 2147483647) ∧ Q z μ1 ∧ True)) := by
  refine sC.of rfl (by decide) (le_t rfl) ?_
  have ht_f_wd : (0 ≤ f_wd ∧ f_wd ≤ 1000) := by rw [← q_f_wd]; exact hT 76 76 (A_76 hw) 13
  have ht_f_an : (0 ≤ f_an ∧ f_an ≤ 1000) := by rw [← q_f_an]; exact hT 76 76 (A_76 hw) 14
  refine mr_lvE (lv' := [(0, .ref 0), (1, iv p1), (2, iv p2)]) rfl ?_
  refine sv_aload_n (pc := 0) dX11_hear_0 rfl rfl ?_
  refine mr_iload_n (pc := 1) (z := p1) dX11_hear_1 rfl rfl ?_
  obtain ⟨z125, q126⟩ : ∃ z, μ 6 16 = z := ⟨_, rfl⟩
  have h127 : (z125 = w.2.2.2 1 ∧ 0 ≤ z125 ∧ z125 ≤ 20) := by rw [← q126]; exact hT 6 6 (A_6 hw) 16
  refine mr_cVP (pc := 2) (c_X11_isTie_W hw hT hp1 q126 (((hQ f_wd q_f_wd ht_f_wd) f_an q_f_an ht_f_an) z125 q126 h127)) (gOk _ _ _ _ _) dX11_hear_2 (tX11_isTie _ _ _ _ _) ⟨wV_X11_isTie, wL_X11_isTie⟩ wM_X11_119 (gCX11 _ _ _ _ _) rfl (A_0 hw) rfl ⟨le_t rfl, le_t rfl⟩ ⟨le_t rfl, le_t rfl⟩ rfl (le_t rfl) fun z132 h131 => ?_
  refine mr_if_eq (pc := 5) (tgt := 15) dX11_hear_5 (by decide) (r32 h131.1 rfl) (fun h133 => ?_) (fun h133 => ?_)
  · have h134 : 0 ≤ z132 ∧ z132 ≤ 0 := (vc_X12_write_1 h133 h131.2.1 h131.2.2.1 hp1 h127.2 h131.1)
    have h135 : p1 < 0 ∨ z125 ≤ p1 := (h131.2.2.1 (vc_X11_write_2 h131.2.1 h131.2.2.1 h133 h127.1 hp1 h127.2 h134))
    refine mr_iconst (pc := 15) (z := (-1)) dX11_hear_15 ?_
    exact mr_iret dX11_hear_16 rfl (le_t rfl) (le_t rfl) hT mF.refl ⟨(rW (c := (-2147483648)) (d := 2147483647) (rR (x := (-1))) rfl), ((h131.2.2.2.1 h131.1).1 h133), trivial⟩
  have h136 : 1 ≤ z132 ∧ z132 ≤ 1 := (vc_X12_write_3 h133 h131.2.1 h131.2.2.1 hp1 h127.2 h131.1)
  have h137 : 0 ≤ p1 ∧ p1 < z125 := (h131.2.1 (vc_X11_write_4 h131.2.1 h131.2.2.1 h133 h127.1 hp1 h127.2 h136))
  have h138 : 0 ≤ p1 ∧ p1 ≤ 19 := (vc_X11_write_5 h137 h127.1 h131.2.1 h131.2.2.1 hp1 h127.2 h136)
  refine mr_iload_n (pc := 8) (z := p2) dX11_hear_8 rfl rfl ?_
  refine mr_cSP (pc := 9) (c_X11_isEither_W hw hT hp2 ((h131.2.2.2.1 h131.1).2 h133)) (gOk _ _ _ _ _) dX11_hear_9 (tX11_isEither _ _ _ _ _) wS_X11_isEither wM_X11_271 ⟨le_t rfl, le_t rfl⟩ ⟨le_t rfl, le_t rfl⟩ rfl (le_t rfl) fun z143 h142 => ?_
  refine mr_if_ne (pc := 12) (tgt := 17) dX11_hear_12 (by decide) (r32 h142.1 rfl) (fun h144 => ?_) (fun h144 => ?_)
  · have h145 : 1 ≤ z143 ∧ z143 ≤ 1 := (vc_X11_write_9 h144 h142.2.1 h142.2.2.1 hp2 h142.1)
    have h146 : 0 ≤ p2 ∧ p2 ≤ 1 := (h142.2.1 (vc_X11_write_10 h142.2.1 h142.2.2.1 h144 hp2 h145))
    have h147 : 0 ≤ p2 ∧ p2 ≤ 1 := (vc_X11_write_11 h146 h142.2.1 h142.2.2.1 hp2 h145)
    refine sv_aload_n (pc := 17) dX11_hear_17 rfl rfl ?_
    refine gf_X11_7 (pc := 18) dX11_hear_18 wF_X11_58 (A_0 hw) hT ?_
    refine gf_X3_16 (pc := 21) dX11_hear_21 wF_X11_344 (A_76 hw) hT fun z148 q149 h150 => ?_
    refine mr_if_eq (pc := 24) (tgt := 42) dX11_hear_24 (by decide) (r32 h150 rfl) (fun h151 => ?_) (fun h151 => ?_)
    · have h152 : 0 ≤ z148 ∧ z148 ≤ 0 := (vc_X12_ring_22 h151 h150)
      refine mr_bipush (pc := 42) (z := (-2)) dX11_hear_42 (by decide) ?_
      exact mr_iret dX11_hear_44 rfl (le_t rfl) (le_t rfl) hT mF.refl ⟨(rW (c := (-2147483648)) (d := 2147483647) (rR (x := (-2))) rfl), ((((h142.2.2.2.1 h142.1).1 h144) z148 q149 h150).1 h151), trivial⟩
    have h153 : 1 ≤ z148 ∧ z148 ≤ 1 := (vc_X12_ring_24 h151 h150)
    refine sv_aload_n (pc := 27) dX11_hear_27 rfl rfl ?_
    refine gf_X11_3 (pc := 28) dX11_hear_28 wF_X11_26 (A_0 hw) hT ?_
    refine gf_X10_4 (pc := 31) dX11_hear_31 wF_X11_122 (A_6 hw) hT ?_
    refine mr_iload_n (pc := 34) (z := p1) dX11_hear_34 rfl rfl ?_
    refine la_11 (pc := 35) dX11_hear_35 (A_11 hw) hT (rIx (n := 20) h138 rfl) (vc_X11_hear_W_11 h127.1 h131.2.1 h131.2.2.1 h137 h133 h138 h127.2 h136) fun b154 q155 A156 => ?_
    refine gf_X9_6 (pc := 36) dX11_hear_36 wF_X11_134 A156 hT fun z157 q158 h159 => ?_
    refine mr_if_ne (pc := 39) (tgt := 45) dX11_hear_39 (by decide) (r32 h159 rfl) (fun h160 => ?_) (fun h160 => ?_)
    · have h161 : 1 ≤ z157 ∧ z157 ≤ 1 := (vc_X12_ring_24 h160 h159)
      refine sv_aload_n (pc := 45) dX11_hear_45 rfl rfl ?_
      refine gf_X11_6 (pc := 46) dX11_hear_46 wF_X11_51 (A_0 hw) hT ?_
      refine sv_aload_n (pc := 49) dX11_hear_49 rfl rfl ?_
      refine gf_X11_7 (pc := 50) dX11_hear_50 wF_X11_58 (A_0 hw) hT ?_
      refine mr_iload_n (pc := 53) (z := p1) dX11_hear_53 rfl rfl ?_
      refine mr_iload_n (pc := 54) (z := p2) dX11_hear_54 rfl rfl ?_
      refine mr_cVI (pc := 55) (c_X8_takeIn_W hw hT (A_76 hw) h138 h147 q_f_wd q_f_an (vc_X11_hear_W_11 h127.1 h131.2.1 h131.2.2.1 h137 h133 h138 h127.2 h136) (vc_X3_told_5 hq0 ht_f_an ht_f_wd) hIPC (((((((h142.2.2.2.1 h142.1).1 h144) z148 q149 h150).2 h151) b154 q155 A156) z157 q158 h159).1 h160)) (gOk _ _ _ _ _) dX11_hear_55 (tX8_takeIn _ _ _ _ _) ⟨wV_X8_takeIn, wL_X8_takeIn⟩ wM_X11_347 (gCX8 _ _ _ _ _) rfl (A_32 hw) rfl ⟨le_t rfl, le_t rfl⟩ ⟨le_t rfl, le_t rfl⟩ rfl (le_t rfl) fun z166 μ162 T163 F164 h165 => ?_
      exact mr_iret dX11_hear_58 rfl (le_t rfl) (le_t rfl) T163 (mF.call mF.refl F164 rfl) ⟨h165.1, ((h165.2.1 T163 F164) h165.1), trivial⟩
    have h167 : 0 ≤ z157 ∧ z157 ≤ 0 := (vc_X12_ring_22 h160 h159)
    refine mr_bipush (pc := 42) (z := (-2)) dX11_hear_42 (by decide) ?_
    exact mr_iret dX11_hear_44 rfl (le_t rfl) (le_t rfl) hT mF.refl ⟨(rW (c := (-2147483648)) (d := 2147483647) (rR (x := (-2))) rfl), (((((((h142.2.2.2.1 h142.1).1 h144) z148 q149 h150).2 h151) b154 q155 A156) z157 q158 h159).2 h160), trivial⟩
  have h168 : 0 ≤ z143 ∧ z143 ≤ 0 := (vc_X11_write_7 h144 h142.2.1 h142.2.2.1 hp2 h142.1)
  have h169 : p2 < 0 ∨ 1 < p2 := (h142.2.2.1 (vc_X11_write_8 h142.2.1 h142.2.2.1 h144 hp2 h168))
  refine mr_iconst (pc := 15) (z := (-1)) dX11_hear_15 ?_
  exact mr_iret dX11_hear_16 rfl (le_t rfl) (le_t rfl) hT mF.refl ⟨(rW (c := (-2147483648)) (d := 2147483647) (rR (x := (-1))) rfl), ((h142.2.2.2.1 h142.1).2 h144), trivial⟩
def WJ_X12_hear_W_3 (w : mW) (p1 : Int) (p2 : Int) (rec1 : (Int × Int × mM) → Prop) (z2347 : Int) (μ2349 : mM) (z2482 : Int) (z2553 : Int) (μ2585 : mM) : Prop := mT w μ2585 → mF [126999] w μ2349 μ2585 → ∀ z2594 : Int, μ2585 106 71 = z2594 → (0 ≤ z2594 ∧ z2594 ≤ 2000000000) → ∀ μ2597 : mM, mU μ2585 154 (z2553.toNat) z2594 μ2597 → mT w μ2597 → ∀ z2600 : Int, (-2147483648 ≤ z2600 ∧ z2600 ≤ 2147483647) → ∀ z2602 : Int, μ2597 110 (((2 * p1) + p2).toNat) = z2602 → (0 ≤ z2602 ∧ z2602 ≤ 9) → WP_X12_look_W w μ2597 z2602 z2482 (fun μ2605 => mT w μ2605 → mF [106026, 106027, 106028, 106029, 106030, 106031, 106072, 126999, 151999, 152999, 153999, 155999, 156999, 157999, 158999, 159999, 160999, 161999, 165999] w μ2597 μ2605 → rec1 (z2600, (z2347 + 1), μ2605))
def WJ_X12_hear_W_2 (w : mW) (p1 : Int) (p2 : Int) (rec1 : (Int × Int × mM) → Prop) (z2348 : Int) (z2347 : Int) (μ2349 : mM) (z2362 : Int) (z2482 : Int) : Prop := ((-99999999) ≤ z2482 ∧ z2482 ≤ 9) → ((¬ z2482 = (-99999999)) → WP_X12_slot_W w μ2349 p1 p2 z2482 (fun z2553 _ => (0 ≤ z2553 ∧ z2553 ≤ 449) → ((z2362 ≤ z2347) → ∀ z2610 : Int, μ2349 126 (((40 * 24) : Int).toNat) = z2610 → ((-2147483648 ≤ z2610 ∧ z2610 ≤ 2147483647) ∧ (((40 * 24) : Int) % 40 = 0 → -1 ≤ z2610 ∧ z2610 ≤ 9) ∧ (((40 * 24) : Int) % 40 = 4 → 0 ≤ z2610 ∧ z2610 ≤ 20) ∧ (((40 * 24) : Int) % 40 = 5 → 0 ≤ z2610 ∧ z2610 ≤ 8)) → WP_X12_copy_W w μ2349 (24) (130 + z2553) (fun μ2614 => mT w μ2614 → mF [126999] w μ2349 μ2614 → ∀ z2618 : Int, μ2614 126 ((40 * (130 + z2553)).toNat) = z2618 → ∀ μ2624 : mM, mU μ2614 126 ((40 * (130 + z2553)).toNat) z2482 μ2624 → mT w μ2624 → (WJ_X12_hear_W_3 w p1 p2 rec1 z2347 μ2349 z2482 z2553) μ2624)) ∧ ((z2347 < z2362) → WP_X12_nothing_W w μ2349 (130 + z2553) (fun μ2629 => mT w μ2629 → mF [126999] w μ2349 μ2629 → ∀ z2633 : Int, μ2629 126 ((40 * (130 + z2553)).toNat) = z2633 → (WJ_X12_hear_W_3 w p1 p2 rec1 z2347 μ2349 z2482 z2553) μ2629)))) ∧ ((z2482 = (-99999999)) → rec1 (z2348, (z2347 + 1), μ2349))
def WL_X12_hear_W_1 (w : mW) (μ : mM) (p1 : Int) (p2 : Int) (Q : Int → mM → Prop) (rec1 : (Int × Int × mM) → Prop) (s : (Int × Int × mM)) : Prop := ∀ z2348 : Int, ∀ z2347 : Int, ∀ μ2349 : mM, s = (z2348, z2347, μ2349) → ((-2147483648) ≤ z2348 ∧ z2348 ≤ 2147483647) → (0 ≤ z2347 ∧ z2347 ≤ 2000) → mT w μ2349 → mF [106026, 106027, 106028, 106029, 106030, 106031, 106072, 126999, 151999, 152999, 153999, 154999, 155999, 156999, 157999, 158999, 159999, 160999, 161999, 165999] w μ μ2349 → ∀ z2362 : Int, μ2349 106 88 = z2362 → (0 ≤ z2362 ∧ z2362 ≤ 1000) → ∀ z2365 : Int, μ2349 106 91 = z2365 → (0 ≤ z2365 ∧ z2365 ≤ 1000) → (((z2362 + z2365) ≤ z2347) → Q z2348 μ2349) ∧ ((z2347 < (z2362 + z2365)) → ((z2362 ≤ z2347) → ∀ z2642 : Int, μ2349 168 ((z2347 - z2362).toNat) = z2642 → ((-2147483648) ≤ z2642 ∧ z2642 ≤ 2147483647) → ∀ z2645 : Int, μ2349 169 ((z2347 - z2362).toNat) = z2645 → ((-2147483648) ≤ z2645 ∧ z2645 ≤ 2147483647) → WP_X12_prefixOf_W w μ2349 z2642 z2645 (fun z2652 _ => ((-99999999) ≤ z2652 ∧ z2652 ≤ 9) → (WJ_X12_hear_W_2 w p1 p2 rec1 z2348 z2347 μ2349 z2362) z2652)) ∧ ((z2347 < z2362) → ∀ z2656 : Int, μ2349 166 (z2347.toNat) = z2656 → ((-2147483648) ≤ z2656 ∧ z2656 ≤ 2147483647) → ∀ z2659 : Int, μ2349 167 (z2347.toNat) = z2659 → ((-2147483648) ≤ z2659 ∧ z2659 ≤ 2147483647) → WP_X12_prefixOf_W w μ2349 z2656 z2659 (fun z2666 _ => ((-99999999) ≤ z2666 ∧ z2666 ≤ 9) → (WJ_X12_hear_W_2 w p1 p2 rec1 z2348 z2347 μ2349 z2362) z2666)))
def WP_X12_hear_W (w : mW) (μ : mM) (p1 : Int) (p2 : Int) (Q : Int → mM → Prop) : Prop := ∀ z1 : Int, μ 106 6 = z1 → (0 ≤ z1 ∧ z1 ≤ 20) → WP_X12_isTie_W w μ p1 (fun z8 _ => (0 ≤ z8 ∧ z8 ≤ 1) → ((z8 = 0) → Q ((-1) : Int) μ) ∧ ((¬ z8 = 0) → WP_X12_in_W w μ p2 (0) (1) (fun z20 _ => (0 ≤ z20 ∧ z20 ≤ 1) → ((¬ z20 = 0) → ∀ z25 : Int, μ 106 96 = z25 → (0 ≤ z25 ∧ z25 ≤ 1) → ((z25 = 0) → Q ((-2) : Int) μ) ∧ ((¬ z25 = 0) → ∀ z31 : Int, μ 106 97 = z31 → (0 ≤ z31 ∧ z31 ≤ 1) → ((¬ z31 = 0) → Q ((-2) : Int) μ) ∧ ((z31 = 0) → ∀ z37 : Int, μ 112 (p1.toNat) = z37 → (0 ≤ z37 ∧ z37 ≤ 1) → ((¬ z37 = 0) → loopF (WL_X12_hear_W_1 w μ p1 p2 Q) False 2002 ((0 : Int), (0 : Int), μ)) ∧ ((z37 = 0) → Q ((-2) : Int) μ)))) ∧ ((z20 = 0) → Q ((-1) : Int) μ))))
theorem vc_X12_hear_W_16 {z2347 z2362 z2365 : Int} (h0 : z2347 < (z2362 + z2365)) (h1 : 0 ≤ z2347 ∧ z2347 ≤ 2000) (h2 : 0 ≤ z2362 ∧ z2362 ≤ 1000) (h3 : 0 ≤ z2365 ∧ z2365 ≤ 1000) : 0 ≤ z2347 ∧ z2347 ≤ 1999 := by omega
theorem vc_X12_hear_W_18 {p1 p2 z1 z20 z2482 z2553 z8 : Int} (h0 : z2553 = (((20 * p1) + (10 * p2)) + z2482)) (h1 : (z8 = 1 → 0 ≤ p1 ∧ p1 < z1)) (h2 : (z8 = 0 → p1 < 0 ∨ z1 ≤ p1)) (h3 : 0 ≤ p1 ∧ p1 < z1) (h4 : (z20 = 1 → (0 : Int) ≤ p2 ∧ p2 ≤ (1 : Int))) (h5 : (z20 = 0 → p2 < (0 : Int) ∨ (1 : Int) < p2)) (h6 : (0 : Int) ≤ p2 ∧ p2 ≤ (1 : Int)) (h7 : ¬ z2482 = (-99999999)) (h8 : 0 ≤ p1 ∧ p1 ≤ 19) (h9 : 0 ≤ p2 ∧ p2 ≤ 1) (h10 : 1 ≤ z1 ∧ z1 ≤ 20) (h11 : 1 ≤ z20 ∧ z20 ≤ 1) (h12 : 0 ≤ z2482 ∧ z2482 ≤ 9) (h13 : z2482 = (-99999999) ∨ (0 ≤ z2482 ∧ z2482 ≤ 9)) (h14 : 0 ≤ z2553 ∧ z2553 ≤ 449) (h15 : 1 ≤ z8 ∧ z8 ≤ 1) : 0 ≤ z2553 ∧ z2553 ≤ 399 := by omega
theorem vc_X12_hear_W_19 {N z2347 z2362 z2365 : Int} (h0 : (2001 - z2347) < N + 1) (h1 : z2347 < (z2362 + z2365)) (h2 : 0 ≤ z2347 ∧ z2347 ≤ 1999) (h3 : 0 ≤ z2362 ∧ z2362 ≤ 1000) (h4 : 0 ≤ z2365 ∧ z2365 ≤ 1000) : (2001 - (z2347 + 1)) < N := by omega
theorem vc_X12_hear_W_20  : (0 : Int) ≤ ((40 : Int) * (24 : Int)) := by omega
theorem vc_X12_hear_W_21  : (((40 : Int) * (24 : Int)) : Int) % (40 : Int) = (0 : Int) := by omega
theorem vc_X12_hear_W_22 {p1 p2 z1 z20 z2482 z2553 z8 : Int} (h0 : z2553 = (((20 * p1) + (10 * p2)) + z2482)) (h1 : (z8 = 1 → 0 ≤ p1 ∧ p1 < z1)) (h2 : (z8 = 0 → p1 < 0 ∨ z1 ≤ p1)) (h3 : 0 ≤ p1 ∧ p1 < z1) (h4 : (z20 = 1 → (0 : Int) ≤ p2 ∧ p2 ≤ (1 : Int))) (h5 : (z20 = 0 → p2 < (0 : Int) ∨ (1 : Int) < p2)) (h6 : (0 : Int) ≤ p2 ∧ p2 ≤ (1 : Int)) (h7 : ¬ z2482 = (-99999999)) (h8 : 0 ≤ p1 ∧ p1 ≤ 19) (h9 : 0 ≤ p2 ∧ p2 ≤ 1) (h10 : 1 ≤ z1 ∧ z1 ≤ 20) (h11 : 1 ≤ z20 ∧ z20 ≤ 1) (h12 : 0 ≤ z2482 ∧ z2482 ≤ 9) (h13 : z2482 = (-99999999) ∨ (0 ≤ z2482 ∧ z2482 ≤ 9)) (h14 : 0 ≤ z2553 ∧ z2553 ≤ 399) (h15 : 1 ≤ z8 ∧ z8 ≤ 1) : (24 : Int) < (130 + z2553) ∨ (130 + z2553) < (24 : Int) := by omega
theorem vc_X12_hear_W_23 {p1 p2 z1 z20 z2482 z2553 z8 : Int} (h0 : z2553 = (((20 * p1) + (10 * p2)) + z2482)) (h1 : (z8 = 1 → 0 ≤ p1 ∧ p1 < z1)) (h2 : (z8 = 0 → p1 < 0 ∨ z1 ≤ p1)) (h3 : 0 ≤ p1 ∧ p1 < z1) (h4 : (z20 = 1 → (0 : Int) ≤ p2 ∧ p2 ≤ (1 : Int))) (h5 : (z20 = 0 → p2 < (0 : Int) ∨ (1 : Int) < p2)) (h6 : (0 : Int) ≤ p2 ∧ p2 ≤ (1 : Int)) (h7 : ¬ z2482 = (-99999999)) (h8 : 0 ≤ p1 ∧ p1 ≤ 19) (h9 : 0 ≤ p2 ∧ p2 ≤ 1) (h10 : 1 ≤ z1 ∧ z1 ≤ 20) (h11 : 1 ≤ z20 ∧ z20 ≤ 1) (h12 : 0 ≤ z2482 ∧ z2482 ≤ 9) (h13 : z2482 = (-99999999) ∨ (0 ≤ z2482 ∧ z2482 ≤ 9)) (h14 : 0 ≤ z2553 ∧ z2553 ≤ 399) (h15 : 1 ≤ z8 ∧ z8 ≤ 1) : 0 ≤ (40 * (130 + z2553)) := by omega
theorem vc_X12_hear_W_24 {p1 p2 z1 z20 z2482 z2553 z8 : Int} (h0 : z2553 = (((20 * p1) + (10 * p2)) + z2482)) (h1 : (z8 = 1 → 0 ≤ p1 ∧ p1 < z1)) (h2 : (z8 = 0 → p1 < 0 ∨ z1 ≤ p1)) (h3 : 0 ≤ p1 ∧ p1 < z1) (h4 : (z20 = 1 → (0 : Int) ≤ p2 ∧ p2 ≤ (1 : Int))) (h5 : (z20 = 0 → p2 < (0 : Int) ∨ (1 : Int) < p2)) (h6 : (0 : Int) ≤ p2 ∧ p2 ≤ (1 : Int)) (h7 : ¬ z2482 = (-99999999)) (h8 : 0 ≤ p1 ∧ p1 ≤ 19) (h9 : 0 ≤ p2 ∧ p2 ≤ 1) (h10 : 1 ≤ z1 ∧ z1 ≤ 20) (h11 : 1 ≤ z20 ∧ z20 ≤ 1) (h12 : 0 ≤ z2482 ∧ z2482 ≤ 9) (h13 : z2482 = (-99999999) ∨ (0 ≤ z2482 ∧ z2482 ≤ 9)) (h14 : 0 ≤ z2553 ∧ z2553 ≤ 399) (h15 : 1 ≤ z8 ∧ z8 ≤ 1) : (40 * (130 + z2553)) % 40 = 0 := by omega
theorem vc_X12_hear_W_25 {p1 p2 z1 z20 z2482 z2553 z8 : Int} (h0 : ¬ z2482 = (-99999999)) (h1 : z2553 = (((20 * p1) + (10 * p2)) + z2482)) (h2 : (z8 = 1 → 0 ≤ p1 ∧ p1 < z1)) (h3 : (z8 = 0 → p1 < 0 ∨ z1 ≤ p1)) (h4 : 0 ≤ p1 ∧ p1 < z1) (h5 : (z20 = 1 → (0 : Int) ≤ p2 ∧ p2 ≤ (1 : Int))) (h6 : (z20 = 0 → p2 < (0 : Int) ∨ (1 : Int) < p2)) (h7 : (0 : Int) ≤ p2 ∧ p2 ≤ (1 : Int)) (h8 : 0 ≤ p1 ∧ p1 ≤ 19) (h9 : 0 ≤ p2 ∧ p2 ≤ 1) (h10 : 1 ≤ z1 ∧ z1 ≤ 20) (h11 : 1 ≤ z20 ∧ z20 ≤ 1) (h12 : 0 ≤ z2482 ∧ z2482 ≤ 9) (h13 : z2482 = (-99999999) ∨ (0 ≤ z2482 ∧ z2482 ≤ 9)) (h14 : 0 ≤ z2553 ∧ z2553 ≤ 399) (h15 : 1 ≤ z8 ∧ z8 ≤ 1) : (-2147483648 ≤ z2482 ∧ z2482 ≤ 2147483647) ∧ ((40 * (130 + z2553)) % 40 = 0 → -1 ≤ z2482 ∧ z2482 ≤ 9) ∧ ((40 * (130 + z2553)) % 40 = 4 → 0 ≤ z2482 ∧ z2482 ≤ 20) ∧ ((40 * (130 + z2553)) % 40 = 5 → 0 ≤ z2482 ∧ z2482 ≤ 8) := by omega
theorem vc_X12_hear_W_26 {p1 p2 z1 z20 z2482 z2553 z8 : Int} (h0 : z2553 = (((20 * p1) + (10 * p2)) + z2482)) (h1 : (z8 = 1 → 0 ≤ p1 ∧ p1 < z1)) (h2 : (z8 = 0 → p1 < 0 ∨ z1 ≤ p1)) (h3 : 0 ≤ p1 ∧ p1 < z1) (h4 : (z20 = 1 → (0 : Int) ≤ p2 ∧ p2 ≤ (1 : Int))) (h5 : (z20 = 0 → p2 < (0 : Int) ∨ (1 : Int) < p2)) (h6 : (0 : Int) ≤ p2 ∧ p2 ≤ (1 : Int)) (h7 : ¬ z2482 = (-99999999)) (h8 : 0 ≤ p1 ∧ p1 ≤ 19) (h9 : 0 ≤ p2 ∧ p2 ≤ 1) (h10 : 1 ≤ z1 ∧ z1 ≤ 20) (h11 : 1 ≤ z20 ∧ z20 ≤ 1) (h12 : 0 ≤ z2482 ∧ z2482 ≤ 9) (h13 : z2482 = (-99999999) ∨ (0 ≤ z2482 ∧ z2482 ≤ 9)) (h14 : 0 ≤ z2553 ∧ z2553 ≤ 399) (h15 : 1 ≤ z8 ∧ z8 ≤ 1) : (40 * (130 + z2553)) ≤ (40 * (130 + z2553)) ∧ ((40 * (130 + z2553)) + 40) ≤ ((40 * (130 + z2553)) + 40) := by omega
theorem vc_X12_hear_W_27 {p1 p2 z1 z20 z2482 z2553 z8 : Int} (h0 : z2553 = (((20 * p1) + (10 * p2)) + z2482)) (h1 : (z8 = 1 → 0 ≤ p1 ∧ p1 < z1)) (h2 : (z8 = 0 → p1 < 0 ∨ z1 ≤ p1)) (h3 : 0 ≤ p1 ∧ p1 < z1) (h4 : (z20 = 1 → (0 : Int) ≤ p2 ∧ p2 ≤ (1 : Int))) (h5 : (z20 = 0 → p2 < (0 : Int) ∨ (1 : Int) < p2)) (h6 : (0 : Int) ≤ p2 ∧ p2 ≤ (1 : Int)) (h7 : ¬ z2482 = (-99999999)) (h8 : 0 ≤ p1 ∧ p1 ≤ 19) (h9 : 0 ≤ p2 ∧ p2 ≤ 1) (h10 : 1 ≤ z1 ∧ z1 ≤ 20) (h11 : 1 ≤ z20 ∧ z20 ≤ 1) (h12 : 0 ≤ z2482 ∧ z2482 ≤ 9) (h13 : z2482 = (-99999999) ∨ (0 ≤ z2482 ∧ z2482 ≤ 9)) (h14 : 0 ≤ z2553 ∧ z2553 ≤ 399) (h15 : 1 ≤ z8 ∧ z8 ≤ 1) : 0 ≤ (40 * (130 + z2553)) ∧ (40 * (130 + z2553)) ≤ (40 * (130 + z2553)) ∧ (40 * (130 + z2553)) < ((40 * (130 + z2553)) + 40) := by omega
theorem vc_X12_hear_W_28 {p1 p2 z1 z20 z2482 z2553 z8 : Int} (h0 : z2553 = (((20 * p1) + (10 * p2)) + z2482)) (h1 : (z8 = 1 → 0 ≤ p1 ∧ p1 < z1)) (h2 : (z8 = 0 → p1 < 0 ∨ z1 ≤ p1)) (h3 : 0 ≤ p1 ∧ p1 < z1) (h4 : (z20 = 1 → (0 : Int) ≤ p2 ∧ p2 ≤ (1 : Int))) (h5 : (z20 = 0 → p2 < (0 : Int) ∨ (1 : Int) < p2)) (h6 : (0 : Int) ≤ p2 ∧ p2 ≤ (1 : Int)) (h7 : ¬ z2482 = (-99999999)) (h8 : 0 ≤ p1 ∧ p1 ≤ 19) (h9 : 0 ≤ p2 ∧ p2 ≤ 1) (h10 : 1 ≤ z1 ∧ z1 ≤ 20) (h11 : 1 ≤ z20 ∧ z20 ≤ 1) (h12 : 0 ≤ z2482 ∧ z2482 ≤ 9) (h13 : z2482 = (-99999999) ∨ (0 ≤ z2482 ∧ z2482 ≤ 9)) (h14 : 0 ≤ z2553 ∧ z2553 ≤ 399) (h15 : 1 ≤ z8 ∧ z8 ≤ 1) : (1 ≤ (40 * (130 + z2553)) ∧ ((40 * (130 + z2553)) + 1) ≤ 1200) ∨ 5200 ≤ (40 * (130 + z2553)) := by omega
theorem vc_X12_hear_W_29 {p1 p2 z1 z20 z2482 z2553 z8 : Int} (h0 : z2553 = (((20 * p1) + (10 * p2)) + z2482)) (h1 : (z8 = 1 → 0 ≤ p1 ∧ p1 < z1)) (h2 : (z8 = 0 → p1 < 0 ∨ z1 ≤ p1)) (h3 : 0 ≤ p1 ∧ p1 < z1) (h4 : (z20 = 1 → (0 : Int) ≤ p2 ∧ p2 ≤ (1 : Int))) (h5 : (z20 = 0 → p2 < (0 : Int) ∨ (1 : Int) < p2)) (h6 : (0 : Int) ≤ p2 ∧ p2 ≤ (1 : Int)) (h7 : ¬ z2482 = (-99999999)) (h8 : 0 ≤ p1 ∧ p1 ≤ 19) (h9 : 0 ≤ p2 ∧ p2 ≤ 1) (h10 : 1 ≤ z1 ∧ z1 ≤ 20) (h11 : 1 ≤ z20 ∧ z20 ≤ 1) (h12 : 0 ≤ z2482 ∧ z2482 ≤ 9) (h13 : z2482 = (-99999999) ∨ (0 ≤ z2482 ∧ z2482 ≤ 9)) (h14 : 0 ≤ z2553 ∧ z2553 ≤ 399) (h15 : 1 ≤ z8 ∧ z8 ≤ 1) : (1 ≤ (40 * (130 + z2553)) ∧ ((40 * (130 + z2553)) + 40) ≤ 1200) ∨ 5200 ≤ (40 * (130 + z2553)) := by omega
theorem vc_X12_hear_W_30 {z2347 z2362 z2365 : Int} (h0 : z2347 < z2362) (h1 : z2347 < (z2362 + z2365)) (h2 : 0 ≤ z2347 ∧ z2347 ≤ 1999) (h3 : 0 ≤ z2362 ∧ z2362 ≤ 1000) (h4 : 0 ≤ z2365 ∧ z2365 ≤ 1000) : 0 ≤ z2347 ∧ z2347 ≤ 999 := by omega
theorem vc_X12_hear_W_31 {z2347 z2362 z2365 : Int} (h0 : z2347 < z2362) (h1 : z2347 < (z2362 + z2365)) (h2 : 0 ≤ z2347 ∧ z2347 ≤ 999) (h3 : 0 ≤ z2362 ∧ z2362 ≤ 1000) (h4 : 0 ≤ z2365 ∧ z2365 ≤ 1000) : 1 ≤ z2362 ∧ z2362 ≤ 1000 := by omega
theorem vc_X12_hear_W_33 {p1 p2 z1 z20 z2482 z2553 z8 : Int} (h0 : z2553 = (((20 * p1) + (10 * p2)) + z2482)) (h1 : (z8 = 1 → 0 ≤ p1 ∧ p1 < z1)) (h2 : (z8 = 0 → p1 < 0 ∨ z1 ≤ p1)) (h3 : 0 ≤ p1 ∧ p1 < z1) (h4 : (z20 = 1 → (0 : Int) ≤ p2 ∧ p2 ≤ (1 : Int))) (h5 : (z20 = 0 → p2 < (0 : Int) ∨ (1 : Int) < p2)) (h6 : (0 : Int) ≤ p2 ∧ p2 ≤ (1 : Int)) (h7 : ¬ z2482 = (-99999999)) (h8 : 0 ≤ p1 ∧ p1 ≤ 19) (h9 : 0 ≤ p2 ∧ p2 ≤ 1) (h10 : 1 ≤ z1 ∧ z1 ≤ 20) (h11 : 1 ≤ z20 ∧ z20 ≤ 1) (h12 : 0 ≤ z2482 ∧ z2482 ≤ 9) (h13 : z2482 = (-99999999) ∨ (0 ≤ z2482 ∧ z2482 ≤ 9)) (h14 : 0 ≤ z2553 ∧ z2553 ≤ 399) (h15 : 1 ≤ z8 ∧ z8 ≤ 1) : (40 * (130 + z2553)) ≤ (40 * (130 + z2553)) ∧ ((40 * (130 + z2553)) + 1) ≤ ((40 * (130 + z2553)) + 1) := by omega
theorem vc_X12_hear_W_35 {z2347 z2362 z2365 : Int} (h0 : z2347 < (z2362 + z2365)) (h1 : z2362 ≤ z2347) (h2 : 0 ≤ z2347 ∧ z2347 ≤ 1999) (h3 : 0 ≤ z2362 ∧ z2362 ≤ 1000) (h4 : 0 ≤ z2365 ∧ z2365 ≤ 1000) : 0 ≤ (z2347 - z2362) ∧ (z2347 - z2362) < 1000 := by omega
theorem vc_X12_hear_W_36 {z2652 : Int} (h0 : z2652 = -99999999 ∨ (0 ≤ z2652 ∧ z2652 ≤ 9)) (h1 : (-99999999) ≤ z2652 ∧ z2652 ≤ 9) : z2652 = (-99999999) ∨ (0 ≤ z2652 ∧ z2652 ≤ 9) := by omega
set_option maxRecDepth 4000 in
set_option maxHeartbeats 4000000 in
theorem c_X12_hear_W {l : Launch} {D : va_G} {c : Nat → ClassId} {H0 : Heap} {sa : Nat × Nat × (Nat → Int32)} {w : mW} {μ : mM} (hw : mWF w) (hT : mT w μ) {p1 : Int} (hp1 : (-2147483648) ≤ p1 ∧ p1 ≤ 2147483647) {p2 : Int} (hp2 : (-2147483648) ≤ p2 ∧ p2 ≤ 2147483647) (hIG1 : G1 μ) (hIEV : EV μ) (hIPK : PK μ) {Q : Int → mM → Prop} (hQ : WP_X12_hear_W w μ p1 p2 Q) : sC (gG l D c H0 sa) mX12_hear 11 0 0 [.ref 106, iv p1, iv p2] (mk w μ) (qI w [106026, 106027, 106028, 106029, 106030, 106031, 106072, 126999, 151999, 152999, 153999, 154999, 155999, 156999, 157999, 158999, 159999, 160999, 161999, 165999] μ (fun z μ1 => ((-2147483648) ≤ z ∧ z ≤ 2147483647) ∧ G1 μ1 ∧ EV μ1 ∧ Q z μ1 ∧ True)) := by
  refine sC.of rfl (by decide) (le_t rfl) ?_
  refine mr_lvE (lv' := [(0, .ref 106), (1, iv p1), (2, iv p2)]) rfl ?_
  refine sv_aload_n (pc := 0) dX12_hear_0 rfl rfl ?_
  refine mr_iload_n (pc := 1) (z := p1) dX12_hear_1 rfl rfl ?_
  obtain ⟨z1, q2⟩ : ∃ z, μ 106 6 = z := ⟨_, rfl⟩
  have h3 : (0 ≤ z1 ∧ z1 ≤ 20) := by rw [← q2]; exact hT 106 106 (A_106 hw) 6
  refine mr_cVP (pc := 2) (c_X12_isTie_W hw hT hp1 q2 (hQ z1 q2 h3)) (gOk _ _ _ _ _) dX12_hear_2 (tX12_isTie _ _ _ _ _) ⟨wV_X12_isTie, wL_X12_isTie⟩ wM_X12_66 (gCX12 _ _ _ _ _) rfl (A_106 hw) rfl ⟨le_t rfl, le_t rfl⟩ ⟨le_t rfl, le_t rfl⟩ rfl (le_t rfl) fun z8 h7 => ?_
  refine mr_if_eq (pc := 5) (tgt := 17) dX12_hear_5 (by decide) (r32 h7.1 rfl) (fun h9 => ?_) (fun h9 => ?_)
  · have h10 : 0 ≤ z8 ∧ z8 ≤ 0 := (vc_X12_write_1 h9 h7.2.1 h7.2.2.1 hp1 h3 h7.1)
    have h11 : p1 < 0 ∨ z1 ≤ p1 := (h7.2.2.1 (vc_X12_write_2 h7.2.1 h7.2.2.1 h9 hp1 h3 h10))
    refine mr_iconst (pc := 17) (z := (-1)) dX12_hear_17 ?_
    exact mr_iret dX12_hear_18 rfl (le_t rfl) (le_t rfl) hT mF.refl ⟨(rW (c := (-2147483648)) (d := 2147483647) (rR (x := (-1))) rfl), hIG1, hIEV, ((h7.2.2.2.1 h7.1).1 h9), trivial⟩
  have h12 : 1 ≤ z8 ∧ z8 ≤ 1 := (vc_X12_write_3 h9 h7.2.1 h7.2.2.1 hp1 h3 h7.1)
  have h13 : 0 ≤ p1 ∧ p1 < z1 := (h7.2.1 (vc_X12_write_4 h7.2.1 h7.2.2.1 h9 hp1 h3 h12))
  have h14 : 0 ≤ p1 ∧ p1 ≤ 19 := (vc_X12_write_5 h13 h7.2.1 h7.2.2.1 hp1 h3 h12)
  have h15 : 1 ≤ z1 ∧ z1 ≤ 20 := (vc_X12_write_6 h13 h7.2.1 h7.2.2.1 h14 h3 h12)
  refine mr_iload_n (pc := 8) (z := p2) dX12_hear_8 rfl rfl ?_
  refine mr_iconst (pc := 9) (z := 0) dX12_hear_9 ?_
  refine mr_iconst (pc := 10) (z := 1) dX12_hear_10 ?_
  refine mr_cSP (pc := 11) (c_X12_in_W hw hT hp2 (rW (c := (-2147483648)) (d := 2147483647) (rR (x := 0)) rfl) (rW (c := (-2147483648)) (d := 2147483647) (rR (x := 1)) rfl) ((h7.2.2.2.1 h7.1).2 h9)) (gOk _ _ _ _ _) dX12_hear_11 (tX12_in _ _ _ _ _) wS_X12_in wM_X12_18 ⟨le_t rfl, le_t rfl⟩ ⟨le_t rfl, le_t rfl⟩ rfl (le_t rfl) fun z20 h19 => ?_
  refine mr_if_ne (pc := 14) (tgt := 19) dX12_hear_14 (by decide) (r32 h19.1 rfl) (fun h21 => ?_) (fun h21 => ?_)
  · have h22 : 1 ≤ z20 ∧ z20 ≤ 1 := (vc_X12_write_9 h21 h19.2.1 h19.2.2.1 hp2 h19.1)
    have h23 : (0 : Int) ≤ p2 ∧ p2 ≤ (1 : Int) := (h19.2.1 (vc_X12_write_10 h19.2.1 h19.2.2.1 h21 hp2 h22))
    have h24 : 0 ≤ p2 ∧ p2 ≤ 1 := (vc_X12_write_11 h23 h19.2.1 h19.2.2.1 hp2 h22)
    refine sv_aload_n (pc := 19) dX12_hear_19 rfl rfl ?_
    refine gf_X12_96 (pc := 20) dX12_hear_20 wF_X12_655 (A_106 hw) hT fun z25 q26 h27 => ?_
    refine mr_if_eq (pc := 23) (tgt := 42) dX12_hear_23 (by decide) (r32 h27 rfl) (fun h28 => ?_) (fun h28 => ?_)
    · have h29 : 0 ≤ z25 ∧ z25 ≤ 0 := (vc_X12_ring_22 h28 h27)
      refine mr_bipush (pc := 42) (z := (-2)) dX12_hear_42 (by decide) ?_
      exact mr_iret dX12_hear_44 rfl (le_t rfl) (le_t rfl) hT mF.refl ⟨(rW (c := (-2147483648)) (d := 2147483647) (rR (x := (-2))) rfl), hIG1, hIEV, ((((h19.2.2.2.1 h19.1).1 h21) z25 q26 h27).1 h28), trivial⟩
    have h30 : 1 ≤ z25 ∧ z25 ≤ 1 := (vc_X12_ring_24 h28 h27)
    refine sv_aload_n (pc := 26) dX12_hear_26 rfl rfl ?_
    refine gf_X12_97 (pc := 27) dX12_hear_27 wF_X12_665 (A_106 hw) hT fun z31 q32 h33 => ?_
    refine mr_if_ne (pc := 30) (tgt := 42) dX12_hear_30 (by decide) (r32 h33 rfl) (fun h34 => ?_) (fun h34 => ?_)
    · have h35 : 1 ≤ z31 ∧ z31 ≤ 1 := (vc_X12_ring_24 h34 h33)
      refine mr_bipush (pc := 42) (z := (-2)) dX12_hear_42 (by decide) ?_
      exact mr_iret dX12_hear_44 rfl (le_t rfl) (le_t rfl) hT mF.refl ⟨(rW (c := (-2147483648)) (d := 2147483647) (rR (x := (-2))) rfl), hIG1, hIEV, ((((((h19.2.2.2.1 h19.1).1 h21) z25 q26 h27).2 h28) z31 q32 h33).1 h34), trivial⟩
    have h36 : 0 ≤ z31 ∧ z31 ≤ 0 := (vc_X12_ring_22 h34 h33)
    refine sv_aload_n (pc := 33) dX12_hear_33 rfl rfl ?_
    refine gf_X12_9 (pc := 34) dX12_hear_34 wF_X12_53 (A_106 hw) hT ?_
    refine mr_iload_n (pc := 37) (z := p1) dX12_hear_37 rfl rfl ?_
    refine la_112 (pc := 38) dX12_hear_38 (A_112 hw) hT (rIx (n := 20) h14 rfl) fun z37 q38 h39 => ?_
    refine mr_if_ne (pc := 39) (tgt := 45) dX12_hear_39 (by decide) (r32 h39 rfl) (fun h40 => ?_) (fun h40 => ?_)
    · have h41 : 1 ≤ z37 ∧ z37 ≤ 1 := (vc_X12_ring_24 h40 h39)
      refine mr_iconst (pc := 45) (z := 0) dX12_hear_45 ?_
      refine mr_istore_n (pc := 46) (lv' := [(3, iv 0), (0, .ref 106), (1, iv p1), (2, iv p2)]) dX12_hear_46 rfl (by decide) rfl ?_
      refine mr_iconst (pc := 47) (z := 0) dX12_hear_47 ?_
      refine mr_istore (pc := 48) (lv' := [(4, iv 0), (3, iv 0), (0, .ref 106), (1, iv p1), (2, iv p2)]) dX12_hear_48 (by decide) rfl ?_
      have L2350 : ∀ (nL2350 : Nat) (z2348 z2347 : Int) (μ2349 : mM), mT w μ2349 → mF [106026, 106027, 106028, 106029, 106030, 106031, 106072, 126999, 151999, 152999, 153999, 154999, 155999, 156999, 157999, 158999, 159999, 160999, 161999, 165999] w μ μ2349 → ((-2147483648) ≤ z2348 ∧ z2348 ≤ 2147483647) → (0 ≤ z2347 ∧ z2347 ≤ 2000) → G1 μ2349 → EV μ2349 → PK μ2349 → (2001 - z2347) < (nL2350 : Int) → loopF (WL_X12_hear_W_1 w μ p1 p2 Q) False nL2350 (z2348, z2347, μ2349) → sV (gG l D c H0 sa) mX12_hear (sRm 11 0 0) (sZ (gG l D c H0 sa) 0 0 (qI w [106026, 106027, 106028, 106029, 106030, 106031, 106072, 126999, 151999, 152999, 153999, 154999, 155999, 156999, 157999, 158999, 159999, 160999, 161999, 165999] μ (fun z μ1 => ((-2147483648) ≤ z ∧ z ≤ 2147483647) ∧ G1 μ1 ∧ EV μ1 ∧ Q z μ1 ∧ True))) 50 [(0, .ref 106), (1, iv p1), (2, iv p2), (3, iv z2348), (4, iv z2347)] [] (mk w μ2349) 0 0 := by
        intro nL2350
        induction nL2350 with
        | zero => intro z2348 z2347 μ2349 T2353 F2354 h2351 h2352 I2356 I2357 I2358 h2359 W2360; exact ((vc_X1_goThrough_W12_8 h2359 h2352)).elim
        | succ nL2350 ih2361 =>
          intro z2348 z2347 μ2349 T2353 F2354 h2351 h2352 I2356 I2357 I2358 h2359 W2360
          refine mr_iload (pc := 50) (z := z2347) dX12_hear_50 rfl ?_
          refine sv_aload_n (pc := 52) dX12_hear_52 rfl rfl ?_
          refine gf_X12_88 (pc := 53) dX12_hear_53 wF_X12_625 (A_106 hw) T2353 fun z2362 q2363 h2364 => ?_
          refine sv_aload_n (pc := 56) dX12_hear_56 rfl rfl ?_
          refine gf_X12_91 (pc := 57) dX12_hear_57 wF_X12_628 (A_106 hw) T2353 fun z2365 q2366 h2367 => ?_
          refine mr_iadd (pc := 60) (x := z2362) (y := z2365) dX12_hear_60 ?_
          refine mr_icmp_ge (pc := 61) (tgt := 229) dX12_hear_61 (by decide) (r32 h2352 rfl) (r32 (rAdd (e := 0) (f := 2000) h2364 h2367 rfl) rfl) (fun h2456 => ?_) (fun h2456 => ?_)
          · refine mr_iload_n (pc := 229) (z := z2348) dX12_hear_229 rfl rfl ?_
            exact mr_iret dX12_hear_230 rfl (le_t rfl) (le_t rfl) T2353 (mF.call mF.refl F2354 rfl) ⟨h2351, I2356, I2357, ((((W2360 z2348 z2347 μ2349 rfl h2351 h2352 T2353 F2354) z2362 q2363 h2364) z2365 q2366 h2367).1 h2456), trivial⟩
          have h2457 : 0 ≤ z2347 ∧ z2347 ≤ 1999 := (vc_X12_hear_W_16 h2456 h2352 h2364 h2367)
          refine mr_iload (pc := 64) (z := z2347) dX12_hear_64 rfl ?_
          refine sv_aload_n (pc := 66) dX12_hear_66 rfl rfl ?_
          refine gk_X12_88 (pc := 67) dX12_hear_67 wF_X12_625 (A_106 hw) q2363 ?_
          have J2485 : ∀ (z2482 : Int), (((-99999999) ≤ z2482 ∧ z2482 ≤ 9)) → ((z2482 = (-99999999) ∨ (0 ≤ z2482 ∧ z2482 ≤ 9))) → ((WJ_X12_hear_W_2 w p1 p2 (loopF (WL_X12_hear_W_1 w μ p1 p2 Q) False nL2350) z2348 z2347 μ2349 z2362) z2482) → sV (gG l D c H0 sa) mX12_hear (sRm 11 0 0) (sZ (gG l D c H0 sa) 0 0 (qI w [106026, 106027, 106028, 106029, 106030, 106031, 106072, 126999, 151999, 152999, 153999, 154999, 155999, 156999, 157999, 158999, 159999, 160999, 161999, 165999] μ (fun z μ1 => ((-2147483648) ≤ z ∧ z ≤ 2147483647) ∧ G1 μ1 ∧ EV μ1 ∧ Q z μ1 ∧ True))) 122 [(0, .ref 106), (1, iv p1), (2, iv p2), (3, iv z2348), (4, iv z2347)] [iv z2482] (mk w μ2349) 0 0 := by
            intro z2482 h2483 h2484 W2486
            refine mr_istore (pc := 122) (lv' := [(5, iv z2482), (0, .ref 106), (1, iv p1), (2, iv p2), (3, iv z2348), (4, iv z2347)]) dX12_hear_122 (by decide) rfl ?_
            refine mr_iload (pc := 124) (z := z2482) dX12_hear_124 rfl ?_
            refine mr_ldc (pc := 126) (z := (-99999999)) dX12_hear_126 wG_X12_29 (by decide) ?_
            refine mr_icmp_ne (pc := 128) (tgt := 134) dX12_hear_128 (by decide) (r32 h2483 rfl) (r32 (rR (x := (-99999999))) rfl) (fun h2547 => ?_) (fun h2547 => ?_)
            · have h2548 : 0 ≤ z2482 ∧ z2482 ≤ 9 := (vc_X12_sends_2 h2547 h2483 h2484)
              refine mr_iload_n (pc := 134) (z := p1) dX12_hear_134 rfl rfl ?_
              refine mr_iload_n (pc := 135) (z := p2) dX12_hear_135 rfl rfl ?_
              refine mr_iload (pc := 136) (z := z2482) dX12_hear_136 rfl ?_
              refine mr_cSP (pc := 138) (c_X12_slot_W hw T2353 (rW (c := 0) (d := 20) h14 rfl) (rW (c := 0) (d := 2) h24 rfl) h2548 ((W2486 h2483).1 h2547)) (gOk _ _ _ _ _) dX12_hear_138 (tX12_slot _ _ _ _ _) wS_X12_slot wM_X12_545 ⟨le_t rfl, le_t rfl⟩ ⟨le_t rfl, le_t rfl⟩ rfl (le_t rfl) fun z2553 h2552 => ?_
              have h2554 : 0 ≤ z2553 ∧ z2553 ≤ 399 := (vc_X12_hear_W_18 h2552.2.1 h7.2.1 h7.2.2.1 h13 h19.2.1 h19.2.2.1 h23 h2547 h14 h24 h15 h22 h2548 h2484 h2552.1 h12)
              refine mr_istore (pc := 141) (lv' := [(6, iv z2553), (5, iv z2482), (0, .ref 106), (1, iv p1), (2, iv p2), (3, iv z2348), (4, iv z2347)]) dX12_hear_141 (by decide) rfl ?_
              refine mr_iload (pc := 143) (z := z2347) dX12_hear_143 rfl ?_
              refine sv_aload_n (pc := 145) dX12_hear_145 rfl rfl ?_
              refine gk_X12_88 (pc := 146) dX12_hear_146 wF_X12_625 (A_106 hw) q2363 ?_
              have J2592 : ∀ (μ2585 : mM), (mT w μ2585) → (mF [126999] w μ2349 μ2585) → (G1 μ2585) → (EV μ2585) → (PK μ2585) → ((WJ_X12_hear_W_3 w p1 p2 (loopF (WL_X12_hear_W_1 w μ p1 p2 Q) False nL2350) z2347 μ2349 z2482 z2553) μ2585) → sV (gG l D c H0 sa) mX12_hear (sRm 11 0 0) (sZ (gG l D c H0 sa) 0 0 (qI w [106026, 106027, 106028, 106029, 106030, 106031, 106072, 126999, 151999, 152999, 153999, 154999, 155999, 156999, 157999, 158999, 159999, 160999, 161999, 165999] μ (fun z μ1 => ((-2147483648) ≤ z ∧ z ≤ 2147483647) ∧ G1 μ1 ∧ EV μ1 ∧ Q z μ1 ∧ True))) 193 [(0, .ref 106), (1, iv p1), (2, iv p2), (3, iv z2348), (4, iv z2347), (5, iv z2482), (6, iv z2553)] [] (mk w μ2585) 0 0 := by
                intro μ2585 T2586 F2587 I2589 I2590 I2591 W2593
                refine sv_aload_n (pc := 193) dX12_hear_193 rfl rfl ?_
                refine gf_X12_74 (pc := 194) dX12_hear_194 wF_X12_424 (A_106 hw) T2586 ?_
                refine mr_iload (pc := 197) (z := z2553) dX12_hear_197 rfl ?_
                refine sv_aload_n (pc := 199) dX12_hear_199 rfl rfl ?_
                refine gf_X12_71 (pc := 200) dX12_hear_200 wF_X12_591 (A_106 hw) T2586 fun z2594 q2595 h2596 => ?_
                refine ss_154 (pc := 203) dX12_hear_203 (A_154 hw) T2586 (rIx (n := 400) h2554 rfl) h2596 fun μ2597 u2598 T2599 => ?_
                refine mr_iincW (pc := 204) dX12_hear_204 rfl (by decide) fun z2600 h2601 => mr_lvE (lv' := [(3, iv z2600), (0, .ref 106), (1, iv p1), (2, iv p2), (4, iv z2347), (5, iv z2482), (6, iv z2553)]) rfl ?_
                refine sv_aload_n (pc := 207) dX12_hear_207 rfl rfl ?_
                refine sv_aload_n (pc := 208) dX12_hear_208 rfl rfl ?_
                refine gf_X12_7 (pc := 209) dX12_hear_209 wF_X12_40 (A_106 hw) T2599 ?_
                refine mr_iconst (pc := 212) (z := 2) dX12_hear_212 ?_
                refine mr_iload_n (pc := 213) (z := p1) dX12_hear_213 rfl rfl ?_
                refine mr_imul (pc := 214) (x := 2) (y := p1) dX12_hear_214 ?_
                refine mr_iload_n (pc := 215) (z := p2) dX12_hear_215 rfl rfl ?_
                refine mr_iadd (pc := 216) (x := (2 * p1)) (y := p2) dX12_hear_216 ?_
                refine la_110 (pc := 217) dX12_hear_217 (A_110 hw) T2599 (rIx (n := 40) (rAdd (e := 0) (f := 39) (rMulL (n := 2) (e := 0) (f := 38) h14 rfl) h24 rfl) rfl) fun z2602 q2603 h2604 => ?_
                refine mr_iload (pc := 218) (z := z2482) dX12_hear_218 rfl ?_
                refine mr_cVV (pc := 220) (c_X12_look_W hw T2599 h2604 h2548 (G1.keep I2589 hw ((mF.up mF.refl (A_154 hw) u2598 rfl) : mF [154999] w μ2585 μ2597) rfl rfl ((mG.upO mG.refl u2598 rfl) : mG [] μ2585 μ2597) (fun _ h => absurd h List.not_mem_nil)) (EV.keep I2590 hw ((mF.up mF.refl (A_154 hw) u2598 rfl) : mF [154999] w μ2585 μ2597) rfl) (PK.keep I2591 hw ((mF.up mF.refl (A_154 hw) u2598 rfl) : mF [154999] w μ2585 μ2597) rfl) (((((W2593 T2586 F2587) z2594 q2595 h2596) μ2597 u2598 T2599) z2600 h2601) z2602 q2603 h2604)) (gOk _ _ _ _ _) dX12_hear_220 (tX12_look _ _ _ _ _) ⟨wV_X12_look, wL_X12_look⟩ wM_X12_597 (gCX12 _ _ _ _ _) rfl (A_106 hw) rfl ⟨le_t rfl, le_t rfl⟩ ⟨le_t rfl, le_t rfl⟩ rfl (le_t rfl) fun μ2605 T2606 F2607 h2608 => ?_
                refine mr_iinc (pc := 223) (lv' := [(4, iv (z2347 + 1)), (3, iv z2600), (0, .ref 106), (1, iv p1), (2, iv p2), (5, iv z2482), (6, iv z2553)]) dX12_hear_223 rfl (by decide) rfl ?_
                refine sv_goto (pc := 226) (tgt := 50) dX12_hear_226 (by decide) ?_
                refine mr_lvS (lv' := [(0, .ref 106), (1, iv p1), (2, iv p2), (3, iv z2600), (4, iv (z2347 + 1))]) (List.forall_mem_cons.mpr ⟨rfl, List.forall_mem_cons.mpr ⟨rfl, List.forall_mem_cons.mpr ⟨rfl, List.forall_mem_cons.mpr ⟨rfl, List.forall_mem_cons.mpr ⟨rfl, fun _ h => absurd h List.not_mem_nil⟩⟩⟩⟩⟩) ?_
                exact ih2361 z2600 (z2347 + 1) μ2605 T2606 (mF.call (mF.up (mF.call (mF.call mF.refl F2354 rfl) F2587 rfl) (A_154 hw) u2598 rfl) F2607 rfl) h2601 (rW (c := 0) (d := 2000) (rAdd (e := 1) (f := 2000) h2457 (rR (x := 1)) rfl) rfl) h2608.2.1 h2608.2.2.1 (PK.keep I2591 hw ((mF.call (mF.up mF.refl (A_154 hw) u2598 rfl) F2607 rfl) : mF [106026, 106027, 106028, 106029, 106030, 106031, 106072, 126999, 151999, 152999, 153999, 154999, 155999, 156999, 157999, 158999, 159999, 160999, 161999, 165999] w μ2585 μ2605) rfl) (vc_X12_hear_W_19 (nS h2359) h2456 h2457 h2364 h2367) (h2608.2.2.2.1 T2606 F2607)
              refine mr_icmp_ge (pc := 149) (tgt := 165) dX12_hear_149 (by decide) (r32 h2457 rfl) (r32 h2364 rfl) (fun h2609 => ?_) (fun h2609 => ?_)
              · refine sv_aload_n (pc := 165) dX12_hear_165 rfl rfl ?_
                refine mr_bipush (pc := 166) (z := 24) dX12_hear_166 (by decide) ?_
                refine mr_sipush (pc := 168) (z := 130) dX12_hear_168 (by decide) ?_
                refine mr_iload (pc := 171) (z := z2553) dX12_hear_171 rfl ?_
                refine mr_iadd (pc := 173) (x := 130) (y := z2553) dX12_hear_173 ?_
                obtain ⟨z2610, q2611⟩ : ∃ z, μ2349 126 (((40 * 24) : Int).toNat) = z := ⟨_, rfl⟩
                have h2612 := rt7 T2353 (A_126 hw) vc_X12_hear_W_20 q2611
                have h2613 : (-1) ≤ z2610 ∧ z2610 ≤ 9 := h2612.2.1 vc_X12_hear_W_21
                refine mr_cVV (pc := 174) (c_X12_copy_W hw T2353 (rW (c := 0) (d := 2099) (rR (x := 24)) rfl) (rW (c := 0) (d := 2099) (rAdd (e := 130) (f := 529) (rR (x := 130)) h2554 rfl) rfl) q2611 (vc_X12_hear_W_22 h2552.2.1 h7.2.1 h7.2.2.1 h13 h19.2.1 h19.2.2.1 h23 h2547 h14 h24 h15 h22 h2548 h2484 h2554 h12) (((h2552.2.2.1 h2552.1).1 h2609) z2610 q2611 h2612)) (gOk _ _ _ _ _) dX12_hear_174 (tX12_copy _ _ _ _ _) ⟨wV_X12_copy, wL_X12_copy⟩ wM_X12_559 (gCX12 _ _ _ _ _) rfl (A_106 hw) rfl ⟨le_t rfl, le_t rfl⟩ ⟨le_t rfl, le_t rfl⟩ rfl (le_t rfl) fun μ2614 T2615 F2616 h2617 => ?_
                obtain ⟨z2618, q2619, h2620⟩ := h2617
                have h2621 := rt7 T2615 (A_126 hw) (vc_X12_hear_W_23 h2552.2.1 h7.2.1 h7.2.2.1 h13 h19.2.1 h19.2.2.1 h23 h2547 h14 h24 h15 h22 h2548 h2484 h2554 h12) q2619
                have h2622 : (-1) ≤ z2618 ∧ z2618 ≤ 9 := h2621.2.1 (vc_X12_hear_W_24 h2552.2.1 h7.2.1 h7.2.2.1 h13 h19.2.1 h19.2.2.1 h23 h2547 h14 h24 h15 h22 h2548 h2484 h2554 h12)
                have q2623 : μ2614 126 ((40 * (130 + z2553)).toNat) = z2610 := q2619.trans h2620.2.1
                refine sv_aload_n (pc := 177) dX12_hear_177 rfl rfl ?_
                refine gf_X12_32 (pc := 178) dX12_hear_178 wF_X12_148 (A_106 hw) T2615 ?_
                refine mr_bipush (pc := 181) (z := 40) dX12_hear_181 (by decide) ?_
                refine mr_sipush (pc := 183) (z := 130) dX12_hear_183 (by decide) ?_
                refine mr_iload (pc := 186) (z := z2553) dX12_hear_186 rfl ?_
                refine mr_iadd (pc := 188) (x := 130) (y := z2553) dX12_hear_188 ?_
                refine mr_imul (pc := 189) (x := 40) (y := (130 + z2553)) dX12_hear_189 ?_
                refine mr_iload (pc := 190) (z := z2482) dX12_hear_190 rfl ?_
                refine ss_126 (pc := 192) dX12_hear_192 (A_126 hw) T2615 (rIx (n := 84000) (rMulL (n := 40) (e := 5200) (f := 21160) (rAdd (e := 130) (f := 529) (rR (x := 130)) h2554 rfl) rfl) rfl) (vc_X12_hear_W_25 h2547 h2552.2.1 h7.2.1 h7.2.2.1 h13 h19.2.1 h19.2.2.1 h23 h14 h24 h15 h22 h2548 h2484 h2554 h12) fun μ2624 u2625 T2626 => ?_
                refine mr_lvS (lv' := [(0, .ref 106), (1, iv p1), (2, iv p2), (3, iv z2348), (4, iv z2347), (5, iv z2482), (6, iv z2553)]) (List.forall_mem_cons.mpr ⟨rfl, List.forall_mem_cons.mpr ⟨rfl, List.forall_mem_cons.mpr ⟨rfl, List.forall_mem_cons.mpr ⟨rfl, List.forall_mem_cons.mpr ⟨rfl, List.forall_mem_cons.mpr ⟨rfl, List.forall_mem_cons.mpr ⟨rfl, fun _ h => absurd h List.not_mem_nil⟩⟩⟩⟩⟩⟩⟩) ?_
                exact J2592 μ2624 T2626 (mF.up (mF.call mF.refl F2616 rfl) (A_126 hw) u2625 rfl) (G1.keep I2356 hw ((mF.up (mF.call mF.refl F2616 rfl) (A_126 hw) u2625 rfl) : mF [126999] w μ2349 μ2624) rfl rfl ((mG.up (mG.call mG.refl h2620.1 (List.forall_mem_cons.mpr ⟨⟨_, List.mem_cons_self, (vc_X12_hear_W_26 h2552.2.1 h7.2.1 h7.2.2.1 h13 h19.2.1 h19.2.2.1 h23 h2547 h14 h24 h15 h22 h2548 h2484 h2554 h12)⟩, (fun _ h => absurd h List.not_mem_nil)⟩)) u2625 List.mem_cons_self (vc_X12_hear_W_27 h2552.2.1 h7.2.1 h7.2.2.1 h13 h19.2.1 h19.2.2.1 h23 h2547 h14 h24 h15 h22 h2548 h2484 h2554 h12)) : mG [((40 * (130 + z2553)), ((40 * (130 + z2553)) + 40)), ((40 * (130 + z2553)), ((40 * (130 + z2553)) + 1))] μ2349 μ2624) (List.forall_mem_cons.mpr ⟨(vc_X12_hear_W_29 h2552.2.1 h7.2.1 h7.2.2.1 h13 h19.2.1 h19.2.2.1 h23 h2547 h14 h24 h15 h22 h2548 h2484 h2554 h12), (List.forall_mem_cons.mpr ⟨(vc_X12_hear_W_28 h2552.2.1 h7.2.1 h7.2.2.1 h13 h19.2.1 h19.2.2.1 h23 h2547 h14 h24 h15 h22 h2548 h2484 h2554 h12), (fun _ h => absurd h List.not_mem_nil)⟩)⟩)) (EV.keep I2357 hw ((mF.up (mF.call mF.refl F2616 rfl) (A_126 hw) u2625 rfl) : mF [126999] w μ2349 μ2624) rfl) (PK.keep I2358 hw ((mF.up (mF.call mF.refl F2616 rfl) (A_126 hw) u2625 rfl) : mF [126999] w μ2349 μ2624) rfl) (((h2620.2.2.1 T2615 F2616) z2618 q2619) μ2624 u2625 T2626)
              have h2627 : 0 ≤ z2347 ∧ z2347 ≤ 999 := (vc_X12_hear_W_30 h2609 h2456 h2457 h2364 h2367)
              have h2628 : 1 ≤ z2362 ∧ z2362 ≤ 1000 := (vc_X12_hear_W_31 h2609 h2456 h2627 h2364 h2367)
              refine sv_aload_n (pc := 152) dX12_hear_152 rfl rfl ?_
              refine mr_sipush (pc := 153) (z := 130) dX12_hear_153 (by decide) ?_
              refine mr_iload (pc := 156) (z := z2553) dX12_hear_156 rfl ?_
              refine mr_iadd (pc := 158) (x := 130) (y := z2553) dX12_hear_158 ?_
              refine mr_cVV (pc := 159) (c_X12_nothing_W hw T2353 (rW (c := 0) (d := 2099) (rAdd (e := 130) (f := 529) (rR (x := 130)) h2554 rfl) rfl) ((h2552.2.2.1 h2552.1).2 h2609)) (gOk _ _ _ _ _) dX12_hear_159 (tX12_nothing _ _ _ _ _) ⟨wV_X12_nothing, wL_X12_nothing⟩ wM_X12_539 (gCX12 _ _ _ _ _) rfl (A_106 hw) rfl ⟨le_t rfl, le_t rfl⟩ ⟨le_t rfl, le_t rfl⟩ rfl (le_t rfl) fun μ2629 T2630 F2631 h2632 => ?_
              obtain ⟨z2633, q2634, h2635⟩ := h2632
              have h2636 := rt7 T2630 (A_126 hw) (vc_X12_hear_W_23 h2552.2.1 h7.2.1 h7.2.2.1 h13 h19.2.1 h19.2.2.1 h23 h2547 h14 h24 h15 h22 h2548 h2484 h2554 h12) q2634
              have h2637 : (-1) ≤ z2633 ∧ z2633 ≤ 9 := h2636.2.1 (vc_X12_hear_W_24 h2552.2.1 h7.2.1 h7.2.2.1 h13 h19.2.1 h19.2.2.1 h23 h2547 h14 h24 h15 h22 h2548 h2484 h2554 h12)
              have q2638 : μ2629 126 ((40 * (130 + z2553)).toNat) = (-1) := q2634.trans h2635.2.1
              have h2639 : (-1) ≤ z2633 ∧ z2633 ≤ (-1) := (vc_X12_candidate_4 h2635.2.1 h2637)
              refine sv_goto (pc := 162) (tgt := 193) dX12_hear_162 (by decide) ?_
              refine mr_lvS (lv' := [(0, .ref 106), (1, iv p1), (2, iv p2), (3, iv z2348), (4, iv z2347), (5, iv z2482), (6, iv z2553)]) (List.forall_mem_cons.mpr ⟨rfl, List.forall_mem_cons.mpr ⟨rfl, List.forall_mem_cons.mpr ⟨rfl, List.forall_mem_cons.mpr ⟨rfl, List.forall_mem_cons.mpr ⟨rfl, List.forall_mem_cons.mpr ⟨rfl, List.forall_mem_cons.mpr ⟨rfl, fun _ h => absurd h List.not_mem_nil⟩⟩⟩⟩⟩⟩⟩) ?_
              exact J2592 μ2629 T2630 (mF.call mF.refl F2631 rfl) (G1.keep I2356 hw ((mF.call mF.refl F2631 rfl) : mF [126999] w μ2349 μ2629) rfl rfl ((mG.call mG.refl h2635.1 (List.forall_mem_cons.mpr ⟨⟨_, List.mem_cons_self, (vc_X12_hear_W_33 h2552.2.1 h7.2.1 h7.2.2.1 h13 h19.2.1 h19.2.2.1 h23 h2547 h14 h24 h15 h22 h2548 h2484 h2554 h12)⟩, (fun _ h => absurd h List.not_mem_nil)⟩)) : mG [((40 * (130 + z2553)), ((40 * (130 + z2553)) + 1))] μ2349 μ2629) (List.forall_mem_cons.mpr ⟨(vc_X12_hear_W_28 h2552.2.1 h7.2.1 h7.2.2.1 h13 h19.2.1 h19.2.2.1 h23 h2547 h14 h24 h15 h22 h2548 h2484 h2554 h12), (fun _ h => absurd h List.not_mem_nil)⟩)) (EV.keep I2357 hw ((mF.call mF.refl F2631 rfl) : mF [126999] w μ2349 μ2629) rfl) (PK.keep I2358 hw ((mF.call mF.refl F2631 rfl) : mF [126999] w μ2349 μ2629) rfl) ((h2635.2.2.1 T2630 F2631) z2633 q2634)
            have h2640 : (-99999999) ≤ z2482 ∧ z2482 ≤ (-99999999) := (vc_X12_sends_5 h2547 h2483 h2484)
            refine sv_goto (pc := 131) (tgt := 223) dX12_hear_131 (by decide) ?_
            refine mr_iinc (pc := 223) (lv' := [(4, iv (z2347 + 1)), (5, iv z2482), (0, .ref 106), (1, iv p1), (2, iv p2), (3, iv z2348)]) dX12_hear_223 rfl (by decide) rfl ?_
            refine sv_goto (pc := 226) (tgt := 50) dX12_hear_226 (by decide) ?_
            refine mr_lvS (lv' := [(0, .ref 106), (1, iv p1), (2, iv p2), (3, iv z2348), (4, iv (z2347 + 1))]) (List.forall_mem_cons.mpr ⟨rfl, List.forall_mem_cons.mpr ⟨rfl, List.forall_mem_cons.mpr ⟨rfl, List.forall_mem_cons.mpr ⟨rfl, List.forall_mem_cons.mpr ⟨rfl, fun _ h => absurd h List.not_mem_nil⟩⟩⟩⟩⟩) ?_
            exact ih2361 z2348 (z2347 + 1) μ2349 T2353 (mF.call mF.refl F2354 rfl) h2351 (rW (c := 0) (d := 2000) (rAdd (e := 1) (f := 2000) h2457 (rR (x := 1)) rfl) rfl) I2356 I2357 I2358 (vc_X12_hear_W_19 (nS h2359) h2456 h2457 h2364 h2367) ((W2486 h2483).2 h2547)
          refine mr_icmp_ge (pc := 70) (tgt := 94) dX12_hear_70 (by decide) (r32 h2457 rfl) (r32 h2364 rfl) (fun h2641 => ?_) (fun h2641 => ?_)
          · refine sv_aload_n (pc := 94) dX12_hear_94 rfl rfl ?_
            refine sv_aload_n (pc := 95) dX12_hear_95 rfl rfl ?_
            refine gf_X12_89 (pc := 96) dX12_hear_96 wF_X12_466 (A_106 hw) T2353 ?_
            refine mr_iload (pc := 99) (z := z2347) dX12_hear_99 rfl ?_
            refine sv_aload_n (pc := 101) dX12_hear_101 rfl rfl ?_
            refine gk_X12_88 (pc := 102) dX12_hear_102 wF_X12_625 (A_106 hw) q2363 ?_
            refine mr_isub (pc := 105) (x := z2347) (y := z2362) dX12_hear_105 ?_
            refine la_168 (pc := 106) dX12_hear_106 (A_168 hw) T2353 (vc_X12_hear_W_35 h2456 h2641 h2457 h2364 h2367) fun z2642 q2643 h2644 => ?_
            refine sv_aload_n (pc := 107) dX12_hear_107 rfl rfl ?_
            refine gf_X12_90 (pc := 108) dX12_hear_108 wF_X12_469 (A_106 hw) T2353 ?_
            refine mr_iload (pc := 111) (z := z2347) dX12_hear_111 rfl ?_
            refine sv_aload_n (pc := 113) dX12_hear_113 rfl rfl ?_
            refine gk_X12_88 (pc := 114) dX12_hear_114 wF_X12_625 (A_106 hw) q2363 ?_
            refine mr_isub (pc := 117) (x := z2347) (y := z2362) dX12_hear_117 ?_
            refine la_169 (pc := 118) dX12_hear_118 (A_169 hw) T2353 (vc_X12_hear_W_35 h2456 h2641 h2457 h2364 h2367) fun z2645 q2646 h2647 => ?_
            have W2653 := (((((((W2360 z2348 z2347 μ2349 rfl h2351 h2352 T2353 F2354) z2362 q2363 h2364) z2365 q2366 h2367).2 h2456).1 h2641) z2642 q2643 h2644) z2645 q2646 h2647)
            refine mr_cVP (pc := 119) (c_X12_prefixOf_W hw T2353 h2644 h2647 W2653) (gOk _ _ _ _ _) dX12_hear_119 (tX12_prefixOf _ _ _ _ _) ⟨wV_X12_prefixOf, wL_X12_prefixOf⟩ wM_X12_30 (gCX12 _ _ _ _ _) rfl (A_106 hw) rfl ⟨le_t rfl, le_t rfl⟩ ⟨le_t rfl, le_t rfl⟩ rfl (le_t rfl) fun z2652 h2651 => ?_
            exact J2485 z2652 h2651.1 (vc_X12_hear_W_36 h2651.2.1 h2651.1) (h2651.2.2.1 h2651.1)
          have h2654 : 0 ≤ z2347 ∧ z2347 ≤ 999 := (vc_X12_hear_W_30 h2641 h2456 h2457 h2364 h2367)
          have h2655 : 1 ≤ z2362 ∧ z2362 ≤ 1000 := (vc_X12_hear_W_31 h2641 h2456 h2654 h2364 h2367)
          refine sv_aload_n (pc := 73) dX12_hear_73 rfl rfl ?_
          refine sv_aload_n (pc := 74) dX12_hear_74 rfl rfl ?_
          refine gf_X12_86 (pc := 75) dX12_hear_75 wF_X12_460 (A_106 hw) T2353 ?_
          refine mr_iload (pc := 78) (z := z2347) dX12_hear_78 rfl ?_
          refine la_166 (pc := 80) dX12_hear_80 (A_166 hw) T2353 (rIx (n := 1000) h2654 rfl) fun z2656 q2657 h2658 => ?_
          refine sv_aload_n (pc := 81) dX12_hear_81 rfl rfl ?_
          refine gf_X12_87 (pc := 82) dX12_hear_82 wF_X12_463 (A_106 hw) T2353 ?_
          refine mr_iload (pc := 85) (z := z2347) dX12_hear_85 rfl ?_
          refine la_167 (pc := 87) dX12_hear_87 (A_167 hw) T2353 (rIx (n := 1000) h2654 rfl) fun z2659 q2660 h2661 => ?_
          have W2667 := (((((((W2360 z2348 z2347 μ2349 rfl h2351 h2352 T2353 F2354) z2362 q2363 h2364) z2365 q2366 h2367).2 h2456).2 h2641) z2656 q2657 h2658) z2659 q2660 h2661)
          refine mr_cVP (pc := 88) (c_X12_prefixOf_W hw T2353 h2658 h2661 W2667) (gOk _ _ _ _ _) dX12_hear_88 (tX12_prefixOf _ _ _ _ _) ⟨wV_X12_prefixOf, wL_X12_prefixOf⟩ wM_X12_30 (gCX12 _ _ _ _ _) rfl (A_106 hw) rfl ⟨le_t rfl, le_t rfl⟩ ⟨le_t rfl, le_t rfl⟩ rfl (le_t rfl) fun z2666 h2665 => ?_
          refine sv_goto (pc := 91) (tgt := 122) dX12_hear_91 (by decide) ?_
          exact J2485 z2666 h2665.1 (vc_X12_hear_W_36 h2665.2.1 h2665.1) (h2665.2.2.1 h2665.1)
      refine mr_lvS (lv' := [(0, .ref 106), (1, iv p1), (2, iv p2), (3, iv 0), (4, iv 0)]) (List.forall_mem_cons.mpr ⟨rfl, List.forall_mem_cons.mpr ⟨rfl, List.forall_mem_cons.mpr ⟨rfl, List.forall_mem_cons.mpr ⟨rfl, List.forall_mem_cons.mpr ⟨rfl, fun _ h => absurd h List.not_mem_nil⟩⟩⟩⟩⟩) ?_
      exact L2350 2002 0 0 μ hT mF.refl (rW (c := (-2147483648)) (d := 2147483647) (rR (x := 0)) rfl) (rW (c := 0) (d := 2000) (rR (x := 0)) rfl) hIG1 hIEV hIPK vc_X1_goThrough_W12_41 ((((((((h19.2.2.2.1 h19.1).1 h21) z25 q26 h27).2 h28) z31 q32 h33).2 h34) z37 q38 h39).1 h40)
    have h2668 : 0 ≤ z37 ∧ z37 ≤ 0 := (vc_X12_ring_22 h40 h39)
    refine mr_bipush (pc := 42) (z := (-2)) dX12_hear_42 (by decide) ?_
    exact mr_iret dX12_hear_44 rfl (le_t rfl) (le_t rfl) hT mF.refl ⟨(rW (c := (-2147483648)) (d := 2147483647) (rR (x := (-2))) rfl), hIG1, hIEV, ((((((((h19.2.2.2.1 h19.1).1 h21) z25 q26 h27).2 h28) z31 q32 h33).2 h34) z37 q38 h39).2 h40), trivial⟩
  have h2669 : 0 ≤ z20 ∧ z20 ≤ 0 := (vc_X12_write_7 h21 h19.2.1 h19.2.2.1 hp2 h19.1)
  have h2670 : p2 < (0 : Int) ∨ (1 : Int) < p2 := (h19.2.2.1 (vc_X12_write_8 h19.2.1 h19.2.2.1 h21 hp2 h2669))
  refine mr_iconst (pc := 17) (z := (-1)) dX12_hear_17 ?_
  exact mr_iret dX12_hear_18 rfl (le_t rfl) (le_t rfl) hT mF.refl ⟨(rW (c := (-2147483648)) (d := 2147483647) (rR (x := (-1))) rfl), hIG1, hIEV, ((h19.2.2.2.1 h19.1).2 h21), trivial⟩
def WP_X3_forget_Wz (w : mW) (μ : mM) (Q : mM → Prop) : Prop := ∀ μ1 : mM, mQF μ 80 4 ((-99999999) : Int) μ1 → mT w μ1 → ∀ μ5 : mM, mQF μ1 77 256 (0 : Int) μ5 → mT w μ5 → WP_X7_begin_W w μ5 81 (0) (0) (fun μ9 => mT w μ9 → mF [200002, 200003, 200004, 200005, 200006, 200007, 200008] w μ5 μ9 → ∀ μ13 : mM, mU μ9 76 (5) (0 : Int) μ13 → mT w μ13 → ∀ μ16 : mM, mU μ13 76 (6) (0 : Int) μ16 → mT w μ16 → ∀ μ19 : mM, mU μ16 76 (7) (0 : Int) μ19 → mT w μ19 → ∀ μ22 : mM, mU μ19 76 (8) (0 : Int) μ22 → mT w μ22 → ∀ μ25 : mM, mU μ22 76 (13) (0 : Int) μ25 → mT w μ25 → ∀ μ28 : mM, mU μ25 76 (14) (0 : Int) μ28 → mT w μ28 → ∀ μ31 : mM, mU μ28 76 (16) (0 : Int) μ31 → mT w μ31 → Q μ31)
set_option maxRecDepth 4000 in
set_option maxHeartbeats 4000000 in
theorem c_X3_forget_Wz {l : Launch} {D : va_G} {c : Nat → ClassId} {H0 : Heap} {sa : Nat × Nat × (Nat → Int32)} {w : mW} {μ : mM} (hw : mWF w) (hT : mT w μ) {Q : mM → Prop} (hQ : WP_X3_forget_Wz w μ  Q) : sC (gG l D c H0 sa) mX3_forget 3 0 0 [.ref 76] (mk w μ) (qV w [76005, 76006, 76007, 76008, 76013, 76014, 76016, 77999, 80999, 200002, 200003, 200004, 200005, 200006, 200007, 200008] μ (fun μ1 => ∃ o_cc o_wd o_an : Int, μ1 76 5 = o_cc ∧ μ1 76 13 = o_wd ∧ μ1 76 14 = o_an ∧ (o_cc = 0) ∧ (o_wd = 0) ∧ (o_an = 0) ∧ Q μ1 ∧ True)) := by
  refine sC.of rfl (by decide) (le_t rfl) ?_
  refine mr_lvE (lv' := [(0, .ref 76)]) rfl ?_
  refine sv_aload_n (pc := 0) dX3_forget_0 rfl rfl ?_
  refine gf_X3_3 (pc := 1) dX3_forget_1 wF_X3_22 (A_76 hw) hT ?_
  refine mr_ldc (pc := 4) (z := (-99999999)) dX3_forget_4 wG_X3_21 (by decide) ?_
  refine mr_fillI (pc := 6) dX3_forget_6 wM_X3_69 (A_80 hw) rfl ((A_80 hw).2.2.2 rfl) (lt_t rfl) hT (fun _ => (rW (c := (-2147483648)) (d := 2147483647) (rR (x := (-99999999))) rfl)) ⟨le_t rfl, le_t rfl⟩ ⟨le_t rfl, le_t rfl⟩ (le_t rfl) fun μ1 q2 T3 => ?_
  have F4 : mF [80999] w μ μ1 := mF.cell q2.1 (A_80 hw) rfl
  refine sv_aload_n (pc := 9) dX3_forget_9 rfl rfl ?_
  refine gf_X3_0 (pc := 10) dX3_forget_10 wF_X3_11 (A_76 hw) T3 ?_
  refine mr_iconst (pc := 13) (z := 0) dX3_forget_13 ?_
  refine mr_fillI (pc := 14) dX3_forget_14 wM_X3_69 (A_77 hw) rfl ((A_77 hw).2.2.2 rfl) (lt_t rfl) T3 (fun _ => (rW (c := 0) (d := 1) (rR (x := 0)) rfl)) ⟨le_t rfl, le_t rfl⟩ ⟨le_t rfl, le_t rfl⟩ (le_t rfl) fun μ5 q6 T7 => ?_
  have F8 : mF [77999] w μ1 μ5 := mF.cell q6.1 (A_77 hw) rfl
  refine sv_aload_n (pc := 17) dX3_forget_17 rfl rfl ?_
  refine gf_X3_9 (pc := 18) dX3_forget_18 wF_X3_28 (A_76 hw) T7 ?_
  refine mr_iconst (pc := 21) (z := 0) dX3_forget_21 ?_
  refine mr_iconst (pc := 22) (z := 0) dX3_forget_22 ?_
  refine mr_cVV (pc := 23) (c_X7_begin_W hw T7 (A_81 hw) (rW (c := 0) (d := 9) (rR (x := 0)) rfl) (rW (c := (-2147483648)) (d := 2147483647) (rR (x := 0)) rfl) ((hQ μ1 q2 T3) μ5 q6 T7)) (gOk _ _ _ _ _) dX3_forget_23 (tX7_begin _ _ _ _ _) ⟨wV_X7_begin, wL_X7_begin⟩ wM_X3_75 (gCX7 _ _ _ _ _) rfl (A_81 hw) rfl ⟨le_t rfl, le_t rfl⟩ ⟨le_t rfl, le_t rfl⟩ rfl (le_t rfl) fun μ9 T10 F11 h12 => ?_
  refine sv_aload_n (pc := 26) dX3_forget_26 rfl rfl ?_
  refine mr_iconst (pc := 27) (z := 0) dX3_forget_27 ?_
  refine pf_X3_5 (pc := 28) dX3_forget_28 wF_X3_79 (A_76 hw) T10 (rW (c := 0) (d := 256) (rR (x := 0)) rfl) fun μ13 u14 T15 => ?_
  refine sv_aload_n (pc := 31) dX3_forget_31 rfl rfl ?_
  refine mr_iconst (pc := 32) (z := 0) dX3_forget_32 ?_
  refine pf_X3_6 (pc := 33) dX3_forget_33 wF_X3_59 (A_76 hw) T15 (rW (c := 0) (d := 8) (rR (x := 0)) rfl) fun μ16 u17 T18 => ?_
  refine sv_aload_n (pc := 36) dX3_forget_36 rfl rfl ?_
  refine mr_iconst (pc := 37) (z := 0) dX3_forget_37 ?_
  refine pf_X3_7 (pc := 38) dX3_forget_38 wF_X3_82 (A_76 hw) T18 (rW (c := 0) (d := 1) (rR (x := 0)) rfl) fun μ19 u20 T21 => ?_
  refine sv_aload_n (pc := 41) dX3_forget_41 rfl rfl ?_
  refine mr_iconst (pc := 42) (z := 0) dX3_forget_42 ?_
  refine pf_X3_8 (pc := 43) dX3_forget_43 wF_X3_85 (A_76 hw) T21 (rW (c := 0) (d := 1) (rR (x := 0)) rfl) fun μ22 u23 T24 => ?_
  refine sv_aload_n (pc := 46) dX3_forget_46 rfl rfl ?_
  refine mr_iconst (pc := 47) (z := 0) dX3_forget_47 ?_
  refine pf_X3_13 (pc := 48) dX3_forget_48 wF_X3_63 (A_76 hw) T24 (rW (c := 0) (d := 1000) (rR (x := 0)) rfl) fun μ25 u26 T27 => ?_
  refine sv_aload_n (pc := 51) dX3_forget_51 rfl rfl ?_
  refine mr_iconst (pc := 52) (z := 0) dX3_forget_52 ?_
  refine pf_X3_14 (pc := 53) dX3_forget_53 wF_X3_66 (A_76 hw) T27 (rW (c := 0) (d := 1000) (rR (x := 0)) rfl) fun μ28 u29 T30 => ?_
  refine sv_aload_n (pc := 56) dX3_forget_56 rfl rfl ?_
  refine mr_iconst (pc := 57) (z := 0) dX3_forget_57 ?_
  refine pf_X3_16 (pc := 58) dX3_forget_58 wF_X3_51 (A_76 hw) T30 (rW (c := 0) (d := 1) (rR (x := 0)) rfl) fun μ31 u32 T33 => ?_
  exact mr_vret dX3_forget_61 rfl (le_t rfl) (le_t rfl) T33 (mF.up (mF.up (mF.up (mF.up (mF.up (mF.up (mF.up (mF.call (mF.call (mF.call mF.refl F4 rfl) F8 rfl) F11 rfl) (A_76 hw) u14 rfl) (A_76 hw) u17 rfl) (A_76 hw) u20 rfl) (A_76 hw) u23 rfl) (A_76 hw) u26 rfl) (A_76 hw) u29 rfl) (A_76 hw) u32 rfl) ⟨0, 0, 0, (u32.f (Or.inr (by decide)) (u29.f (Or.inr (by decide)) (u26.f (Or.inr (by decide)) (u23.f (Or.inr (by decide)) (u20.f (Or.inr (by decide)) (u17.f (Or.inr (by decide)) u14.1)))))), (u32.f (Or.inr (by decide)) (u29.f (Or.inr (by decide)) u26.1)), (u32.f (Or.inr (by decide)) u29.1), vc_X12_next_v_403, vc_X12_next_v_403, vc_X12_next_v_403, ((((((((h12.1 T10 F11) μ13 u14 T15) μ16 u17 T18) μ19 u20 T21) μ22 u23 T24) μ25 u26 T27) μ28 u29 T30) μ31 u32 T33), trivial⟩
def WP_X3_pairAt_W (w : mW) (μ : mM) (p1 : Int) (Q : Int → mM → Prop) : Prop := ∀ b1 : Nat, μ 76 4 = (b1 : Int) → mAt w b1 1 → ∀ z4 : Int, μ b1 (p1.toNat) = z4 → (0 ≤ z4 ∧ z4 ≤ 255) → ∀ z7 : Int, bShl z4 (8 : Int) = z7 → ∀ z10 : Int, μ b1 ((p1 + 1).toNat) = z10 → (0 ≤ z10 ∧ z10 ≤ 255) → ∀ z13 : Int, bOr z7 z10 = z13 → Q z13 μ
set_option maxRecDepth 4000 in
set_option maxHeartbeats 4000000 in
theorem c_X3_pairAt_W {l : Launch} {D : va_G} {c : Nat → ClassId} {H0 : Heap} {sa : Nat × Nat × (Nat → Int32)} {w : mW} {μ : mM} (hw : mWF w) (hT : mT w μ) {p1 : Int} (hp1 : 0 ≤ p1 ∧ p1 ≤ 998) (hIOC : OC μ) {Q : Int → mM → Prop} (hQ : WP_X3_pairAt_W w μ p1 Q) : sC (gG l D c H0 sa) mX3_pairAt 1 0 0 [.ref 76, iv p1] (mk w μ) (qP w μ (fun z => (0 ≤ z ∧ z ≤ 65535) ∧ Q z μ ∧ True)) := by
  refine sC.of rfl (by decide) (le_t rfl) ?_
  refine mr_lvE (lv' := [(0, .ref 76), (1, iv p1)]) rfl ?_
  refine sv_aload_n (pc := 0) dX3_pairAt_0 rfl rfl ?_
  refine gf_X3_4 (pc := 1) dX3_pairAt_1 wF_X3_41 (A_76 hw) hT hIOC fun b1 q2 A3 => ?_
  refine mr_iload_n (pc := 4) (z := p1) dX3_pairAt_4 rfl rfl ?_
  refine la_1 (pc := 5) dX3_pairAt_5 A3 hT (rIx (n := 1000) hp1 rfl) fun z4 q5 h6 => ?_
  refine mr_bipush (pc := 6) (z := 8) dX3_pairAt_6 (by decide) ?_
  refine mr_ishl (pc := 8) (x := z4) (y := 8) dX3_pairAt_8 ?_
  refine mr_gen (P := fun z => 0 ≤ z ∧ z ≤ 65280) (rShl (k := 8) h6 rfl) fun z7 q8 h9 => ?_
  refine sv_aload_n (pc := 9) dX3_pairAt_9 rfl rfl ?_
  refine gk_X3_4 (pc := 10) dX3_pairAt_10 wF_X3_41 (A_76 hw) q2 ?_
  refine mr_iload_n (pc := 13) (z := p1) dX3_pairAt_13 rfl rfl ?_
  refine mr_iconst (pc := 14) (z := 1) dX3_pairAt_14 ?_
  refine mr_iadd (pc := 15) (x := p1) (y := 1) dX3_pairAt_15 ?_
  refine la_1 (pc := 16) dX3_pairAt_16 A3 hT (rIx (n := 1000) (rAdd (e := 1) (f := 999) hp1 (rR (x := 1)) rfl) rfl) fun z10 q11 h12 => ?_
  refine mr_ior (pc := 17) (x := z7) (y := z10) dX3_pairAt_17 ?_
  refine mr_gen (P := fun z => 0 ≤ z ∧ z ≤ 65535) (rOr 16 h9 h12 rfl) fun z13 q14 h15 => ?_
  exact mr_iretP dX3_pairAt_18 rfl (le_t rfl) (le_t rfl) ⟨h15, (((((hQ b1 q2 A3) z4 q5 h6) z7 q8) z10 q11 h12) z13 q14), trivial⟩
def WP_X3_note_W (w : mW) (μ : mM) (p1 : Int) (p2 : Int) (Q : mM → Prop) : Prop := ∀ z1 : Int, μ 80 (p1.toNat) = z1 → ((-2147483648) ≤ z1 ∧ z1 ≤ 2147483647) → ((¬ z1 = (-99999999)) → Q μ) ∧ ((z1 = (-99999999)) → ∀ μ10 : mM, mU μ 80 (p1.toNat) p2 μ10 → mT w μ10 → Q μ10)
set_option maxRecDepth 4000 in
set_option maxHeartbeats 4000000 in
theorem c_X3_note_W {l : Launch} {D : va_G} {c : Nat → ClassId} {H0 : Heap} {sa : Nat × Nat × (Nat → Int32)} {w : mW} {μ : mM} (hw : mWF w) (hT : mT w μ) {p1 : Int} (hp1 : 0 ≤ p1 ∧ p1 ≤ 3) {p2 : Int} (hp2 : (-2147483648) ≤ p2 ∧ p2 ≤ 2147483647) {Q : mM → Prop} (hQ : WP_X3_note_W w μ p1 p2 Q) : sC (gG l D c H0 sa) mX3_note 1 0 0 [.ref 76, iv p1, iv p2] (mk w μ) (qV w [80999] μ (fun μ1 => Q μ1 ∧ True)) := by
  refine sC.of rfl (by decide) (le_t rfl) ?_
  refine mr_lvE (lv' := [(0, .ref 76), (1, iv p1), (2, iv p2)]) rfl ?_
  refine sv_aload_n (pc := 0) dX3_note_0 rfl rfl ?_
  refine gf_X3_3 (pc := 1) dX3_note_1 wF_X3_22 (A_76 hw) hT ?_
  refine mr_iload_n (pc := 4) (z := p1) dX3_note_4 rfl rfl ?_
  refine la_80 (pc := 5) dX3_note_5 (A_80 hw) hT (rIx (n := 4) hp1 rfl) fun z1 q2 h3 => ?_
  refine mr_ldc (pc := 6) (z := (-99999999)) dX3_note_6 wG_X3_21 (by decide) ?_
  refine mr_icmp_ne (pc := 8) (tgt := 18) dX3_note_8 (by decide) h3 (r32 (rR (x := (-99999999))) rfl) (fun h8 => ?_) (fun h8 => ?_)
  · exact mr_vret dX3_note_18 rfl (le_t rfl) (le_t rfl) hT mF.refl ⟨((hQ z1 q2 h3).1 h8), trivial⟩
  have h9 : (-99999999) ≤ z1 ∧ z1 ≤ (-99999999) := (vc_X12_judgedAnew_21 h8 h3)
  refine sv_aload_n (pc := 11) dX3_note_11 rfl rfl ?_
  refine gf_X3_3 (pc := 12) dX3_note_12 wF_X3_22 (A_76 hw) hT ?_
  refine mr_iload_n (pc := 15) (z := p1) dX3_note_15 rfl rfl ?_
  refine mr_iload_n (pc := 16) (z := p2) dX3_note_16 rfl rfl ?_
  refine ss_80 (pc := 17) dX3_note_17 (A_80 hw) hT (rIx (n := 4) hp1 rfl) hp2 fun μ10 u11 T12 => ?_
  exact mr_vret dX3_note_18 rfl (le_t rfl) (le_t rfl) T12 (mF.up mF.refl (A_80 hw) u11 rfl) ⟨(((hQ z1 q2 h3).2 h8) μ10 u11 T12), trivial⟩
def WL_X3_readPrefixes_W_2 (w : mW) (p3 : Int) (rec1 : (Int × Int × mM) → Prop) (z1702 : Int) (z1701 : Int) (μ1703 : mM) (b1718 : Nat) (z1721 : Int) (z1724 : Int) (rec2 : (Int × Int) → Prop) (s : (Int × Int)) : Prop := ∀ z2177 : Int, ∀ z2176 : Int, s = (z2177, z2176) → ((-2147483648) ≤ z2177 ∧ z2177 ≤ 2147483647) → (0 ≤ z2176 ∧ z2176 ≤ 32) → ((z1724 ≤ z2176) → WP_X10_maskOf_W w μ1703 z1721 (fun z2203 _ => ((-2147483648) ≤ z2203 ∧ z2203 ≤ 2147483647) → ∀ z2204 : Int, bAnd z2177 z2203 = z2204 → ∀ μ2207 : mM, mU μ1703 84 ((p3 + z1701).toNat) z2204 μ2207 → mT w μ2207 → ∀ μ2210 : mM, mU μ2207 85 ((p3 + z1701).toNat) z1721 μ2210 → mT w μ2210 → rec1 ((z1702 + (1 + z1724)), (z1701 + 1), μ2210))) ∧ ((z2176 < z1724) → ∀ z2215 : Int, μ1703 b1718 (((z1702 + 1) + z2176).toNat) = z2215 → (0 ≤ z2215 ∧ z2215 ≤ 255) → ∀ z2218 : Int, bShl z2215 (24 - (8 * z2176)) = z2218 → ∀ z2221 : Int, bOr z2177 z2218 = z2221 → rec2 (z2221, (z2176 + 1)))
def WL_X3_readPrefixes_W_1 (w : mW) (μ : mM) (p2 : Int) (p3 : Int) (Q : Int → mM → Prop) (rec1 : (Int × Int × mM) → Prop) (s : (Int × Int × mM)) : Prop := ∀ z1702 : Int, ∀ z1701 : Int, ∀ μ1703 : mM, s = (z1702, z1701, μ1703) → (0 ≤ z1702 ∧ z1702 ≤ 1000) → (0 ≤ z1701 ∧ z1701 ≤ 1000) → mT w μ1703 → mF [84999, 85999] w μ μ1703 → ((p2 ≤ z1702) → Q z1701 μ1703) ∧ ((z1702 < p2) → ∀ b1718 : Nat, μ1703 76 4 = (b1718 : Int) → mAt w b1718 1 → ∀ z1721 : Int, μ1703 b1718 (z1702.toNat) = z1721 → (0 ≤ z1721 ∧ z1721 ≤ 255) → ∀ z1724 : Int, (z1721 + 7) / 8 = z1724 → ((32 < z1721) → WP_X3_note_W w μ1703 (1) z1702 (fun μ1729 => mT w μ1729 → mF [80999] w μ1703 μ1729 → Q z1701 μ1729)) ∧ ((z1721 ≤ 32) → ((p2 < ((z1702 + 1) + z1724)) → WP_X3_note_W w μ1703 (1) z1702 (fun μ1736 => mT w μ1736 → mF [80999] w μ1703 μ1736 → Q z1701 μ1736)) ∧ ((((z1702 + 1) + z1724) ≤ p2) → (((p3 + z1701) < 1000) → loopF (WL_X3_readPrefixes_W_2 w p3 rec1 z1702 z1701 μ1703 b1718 z1721 z1724) False 34 ((0 : Int), (0 : Int))) ∧ ((1000 ≤ (p3 + z1701)) → WP_X3_note_W w μ1703 (1) z1702 (fun μ2224 => mT w μ2224 → mF [80999] w μ1703 μ2224 → Q z1701 μ2224)))))
def WP_X3_readPrefixes_W (w : mW) (μ : mM) (p1 : Int) (p2 : Int) (p3 : Int) (Q : Int → mM → Prop) : Prop := loopF (WL_X3_readPrefixes_W_1 w μ p2 p3 Q) False 1002 (p1, (0 : Int), μ)
theorem vc_X3_readPrefixes_W_3 {p2 z1702 : Int} (h0 : z1702 < p2) (h1 : 0 ≤ p2 ∧ p2 ≤ 1000) (h2 : 0 ≤ z1702 ∧ z1702 ≤ 1000) : 0 ≤ z1702 ∧ z1702 ≤ 999 := by omega
theorem vc_X3_readPrefixes_W_6 {z1721 z1724 : Int} (h0 : 32 < z1721) (h1 : (z1721 + 7) / 8 = z1724) (h2 : 0 ≤ z1721 ∧ z1721 ≤ 255) (h3 : 0 ≤ z1724 ∧ z1724 ≤ 32) : 33 ≤ z1721 ∧ z1721 ≤ 255 := by omega
theorem vc_X3_readPrefixes_W_7 {z1721 z1724 : Int} (h0 : z1721 ≤ 32) (h1 : (z1721 + 7) / 8 = z1724) (h2 : 0 ≤ z1721 ∧ z1721 ≤ 255) (h3 : 0 ≤ z1724 ∧ z1724 ≤ 32) : 0 ≤ z1721 ∧ z1721 ≤ 32 := by omega
theorem vc_X3_readPrefixes_W_8 {p3 z1701 : Int} (h0 : (p3 + z1701) < 1000) (h1 : z1701 + p3 ≤ 1000) (h2 : 0 ≤ p3 ∧ p3 ≤ 1000) (h3 : 0 ≤ z1701 ∧ z1701 ≤ 1000) : 0 ≤ p3 ∧ p3 ≤ 999 := by omega
theorem vc_X3_readPrefixes_W_9 {p3 z1701 : Int} (h0 : (p3 + z1701) < 1000) (h1 : z1701 + p3 ≤ 1000) (h2 : 0 ≤ p3 ∧ p3 ≤ 999) (h3 : 0 ≤ z1701 ∧ z1701 ≤ 1000) : 0 ≤ z1701 ∧ z1701 ≤ 999 := by omega
theorem vc_X3_readPrefixes_W_10 {z2176 : Int} (h0 : (33 - z2176) < ((0 : Nat) : Int)) (h1 : 0 ≤ z2176 ∧ z2176 ≤ 32) : False := by omega
theorem vc_X3_readPrefixes_W_11 {p3 z1701 : Int} (h0 : z1701 + p3 ≤ 1000) (h1 : (p3 + z1701) < 1000) (h2 : 0 ≤ p3 ∧ p3 ≤ 999) (h3 : 0 ≤ z1701 ∧ z1701 ≤ 999) : 0 ≤ (p3 + z1701) ∧ (p3 + z1701) < 1000 := by omega
theorem vc_X3_readPrefixes_W_12 {p2 z1702 z1721 z1724 z2176 : Int} (h0 : z1702 < p2) (h1 : (z1721 + 7) / 8 = z1724) (h2 : ((z1702 + 1) + z1724) ≤ p2) (h3 : z1724 ≤ z2176) (h4 : z1721 ≤ 32) (h5 : 1 ≤ p2 ∧ p2 ≤ 1000) (h6 : 0 ≤ z1702 ∧ z1702 ≤ 999) (h7 : 0 ≤ z1721 ∧ z1721 ≤ 32) (h8 : 0 ≤ z1724 ∧ z1724 ≤ 32) (h9 : 0 ≤ z2176 ∧ z2176 ≤ 32) : 0 ≤ (z1702 + (1 + z1724)) ∧ (z1702 + (1 + z1724)) ≤ 1000 := by omega
theorem vc_X3_readPrefixes_W_13 {p3 z1701 : Int} (h0 : z1701 + p3 ≤ 1000) (h1 : (p3 + z1701) < 1000) (h2 : 0 ≤ p3 ∧ p3 ≤ 999) (h3 : 0 ≤ z1701 ∧ z1701 ≤ 999) : (z1701 + 1) + p3 ≤ 1000 := by omega
theorem vc_X3_readPrefixes_W_14 {N p2 z1702 z1721 z1724 z2176 : Int} (h0 : (1001 - z1702) < N + 1) (h1 : z1702 < p2) (h2 : (z1721 + 7) / 8 = z1724) (h3 : ((z1702 + 1) + z1724) ≤ p2) (h4 : z1724 ≤ z2176) (h5 : z1721 ≤ 32) (h6 : 1 ≤ p2 ∧ p2 ≤ 1000) (h7 : 0 ≤ z1702 ∧ z1702 ≤ 999) (h8 : 0 ≤ z1721 ∧ z1721 ≤ 32) (h9 : 0 ≤ z1724 ∧ z1724 ≤ 32) (h10 : 0 ≤ z2176 ∧ z2176 ≤ 32) : (1001 - (z1702 + (1 + z1724))) < N := by omega
theorem vc_X3_readPrefixes_W_15 {p2 z1702 z1721 z1724 z2176 : Int} (h0 : z2176 < z1724) (h1 : (z1721 + 7) / 8 = z1724) (h2 : ((z1702 + 1) + z1724) ≤ p2) (h3 : 1 ≤ p2 ∧ p2 ≤ 1000) (h4 : 0 ≤ z1702 ∧ z1702 ≤ 999) (h5 : 0 ≤ z1721 ∧ z1721 ≤ 32) (h6 : 0 ≤ z1724 ∧ z1724 ≤ 32) (h7 : 0 ≤ z2176 ∧ z2176 ≤ 32) : 0 ≤ z2176 ∧ z2176 ≤ 31 := by omega
theorem vc_X3_readPrefixes_W_16 {p2 z1702 z1721 z1724 z2176 : Int} (h0 : z2176 < z1724) (h1 : (z1721 + 7) / 8 = z1724) (h2 : ((z1702 + 1) + z1724) ≤ p2) (h3 : 1 ≤ p2 ∧ p2 ≤ 1000) (h4 : 0 ≤ z1702 ∧ z1702 ≤ 999) (h5 : 0 ≤ z1721 ∧ z1721 ≤ 32) (h6 : 0 ≤ z1724 ∧ z1724 ≤ 32) (h7 : 0 ≤ z2176 ∧ z2176 ≤ 31) : 1 ≤ z1724 ∧ z1724 ≤ 32 := by omega
theorem vc_X3_readPrefixes_W_17 {p2 z1702 z1721 z1724 z2176 : Int} (h0 : z1702 < p2) (h1 : ((z1702 + 1) + z1724) ≤ p2) (h2 : z2176 < z1724) (h3 : (z1721 + 7) / 8 = z1724) (h4 : 1 ≤ p2 ∧ p2 ≤ 1000) (h5 : 0 ≤ z1702 ∧ z1702 ≤ 999) (h6 : 0 ≤ z1721 ∧ z1721 ≤ 32) (h7 : 1 ≤ z1724 ∧ z1724 ≤ 32) (h8 : 0 ≤ z2176 ∧ z2176 ≤ 31) : 0 ≤ ((z1702 + 1) + z2176) ∧ ((z1702 + 1) + z2176) < 1000 := by omega
theorem vc_X3_readPrefixes_W_18 {N p2 z1702 z1721 z1724 z2176 : Int} (h0 : (33 - z2176) < N + 1) (h1 : z2176 < z1724) (h2 : (z1721 + 7) / 8 = z1724) (h3 : ((z1702 + 1) + z1724) ≤ p2) (h4 : 1 ≤ p2 ∧ p2 ≤ 1000) (h5 : 0 ≤ z1702 ∧ z1702 ≤ 999) (h6 : 0 ≤ z1721 ∧ z1721 ≤ 32) (h7 : 1 ≤ z1724 ∧ z1724 ≤ 32) (h8 : 0 ≤ z2176 ∧ z2176 ≤ 31) : (33 - (z2176 + 1)) < N := by omega
theorem vc_X3_readPrefixes_W_19  : (33 - 0) < ((34 : Nat) : Int) := by omega
theorem vc_X3_readPrefixes_W_20 {p3 z1701 : Int} (h0 : z1701 + p3 ≤ 1000) (h1 : 1000 ≤ (p3 + z1701)) (h2 : 0 ≤ p3 ∧ p3 ≤ 1000) (h3 : 0 ≤ z1701 ∧ z1701 ≤ 1000) : z1701 + p3 ≤ 1000 := by omega
theorem vc_X3_readPrefixes_W_21 {p3 : Int} (h0 : 0 ≤ p3 ∧ p3 ≤ 1000) : (0 : Int) + p3 ≤ 1000 := by omega
set_option maxRecDepth 4000 in
set_option maxHeartbeats 4000000 in
theorem c_X3_readPrefixes_W {l : Launch} {D : va_G} {c : Nat → ClassId} {H0 : Heap} {sa : Nat × Nat × (Nat → Int32)} {w : mW} {μ : mM} (hw : mWF w) (hT : mT w μ) {p1 : Int} (hp1 : 0 ≤ p1 ∧ p1 ≤ 1000) {p2 : Int} (hp2 : 0 ≤ p2 ∧ p2 ≤ 1000) {p3 : Int} (hp3 : 0 ≤ p3 ∧ p3 ≤ 1000) (hIOC : OC μ) {Q : Int → mM → Prop} (hQ : WP_X3_readPrefixes_W w μ p1 p2 p3 Q) : sC (gG l D c H0 sa) mX3_readPrefixes 2 0 0 [.ref 76, iv p1, iv p2, iv p3] (mk w μ) (qI w [80999, 84999, 85999] μ (fun z μ1 => (0 ≤ z ∧ z ≤ 1000) ∧ (z + p3 ≤ 1000) ∧ Q z μ1 ∧ True)) := by
  refine sC.of rfl (by decide) (le_t rfl) ?_
  refine mr_lvE (lv' := [(0, .ref 76), (1, iv p1), (2, iv p2), (3, iv p3)]) rfl ?_
  refine mr_iload_n (pc := 0) (z := p1) dX3_readPrefixes_0 rfl rfl ?_
  refine mr_istore (pc := 1) (lv' := [(4, iv p1), (0, .ref 76), (1, iv p1), (2, iv p2), (3, iv p3)]) dX3_readPrefixes_1 (by decide) rfl ?_
  refine mr_iconst (pc := 3) (z := 0) dX3_readPrefixes_3 ?_
  refine mr_istore (pc := 4) (lv' := [(5, iv 0), (4, iv p1), (0, .ref 76), (1, iv p1), (2, iv p2), (3, iv p3)]) dX3_readPrefixes_4 (by decide) rfl ?_
  have L1704 : ∀ (nL1704 : Nat) (z1702 z1701 : Int) (μ1703 : mM), mT w μ1703 → mF [84999, 85999] w μ μ1703 → (0 ≤ z1702 ∧ z1702 ≤ 1000) → (0 ≤ z1701 ∧ z1701 ≤ 1000) → (z1701 + p3 ≤ 1000) → OC μ1703 → (1001 - z1702) < (nL1704 : Int) → loopF (WL_X3_readPrefixes_W_1 w μ p2 p3 Q) False nL1704 (z1702, z1701, μ1703) → sV (gG l D c H0 sa) mX3_readPrefixes (sRm 2 0 0) (sZ (gG l D c H0 sa) 0 0 (qI w [80999, 84999, 85999] μ (fun z μ1 => (0 ≤ z ∧ z ≤ 1000) ∧ (z + p3 ≤ 1000) ∧ Q z μ1 ∧ True))) 6 [(0, .ref 76), (2, iv p2), (3, iv p3), (4, iv z1702), (5, iv z1701)] [] (mk w μ1703) 0 0 := by
    intro nL1704
    induction nL1704 with
    | zero => intro z1702 z1701 μ1703 T1707 F1708 h1705 h1706 h1710 I1711 h1712 W1713; exact ((vc_X1_doActs_W12_1 h1712 h1705)).elim
    | succ nL1704 ih1714 =>
      intro z1702 z1701 μ1703 T1707 F1708 h1705 h1706 h1710 I1711 h1712 W1713
      refine mr_iload (pc := 6) (z := z1702) dX3_readPrefixes_6 rfl ?_
      refine mr_iload_n (pc := 8) (z := p2) dX3_readPrefixes_8 rfl rfl ?_
      refine mr_icmp_ge (pc := 9) (tgt := 157) dX3_readPrefixes_9 (by decide) (r32 h1705 rfl) (r32 hp2 rfl) (fun h1715 => ?_) (fun h1715 => ?_)
      · refine mr_iload (pc := 157) (z := z1701) dX3_readPrefixes_157 rfl ?_
        exact mr_iret dX3_readPrefixes_159 rfl (le_t rfl) (le_t rfl) T1707 (mF.call mF.refl F1708 rfl) ⟨h1706, (vc_X3_told_5 h1710 hp3 h1706), ((W1713 z1702 z1701 μ1703 rfl h1705 h1706 T1707 F1708).1 h1715), trivial⟩
      have h1716 : 0 ≤ z1702 ∧ z1702 ≤ 999 := (vc_X3_readPrefixes_W_3 h1715 hp2 h1705)
      have h1717 : 1 ≤ p2 ∧ p2 ≤ 1000 := (vc_X12_byteAt_g_5 h1715 hp2 h1716)
      refine sv_aload_n (pc := 12) dX3_readPrefixes_12 rfl rfl ?_
      refine gf_X3_4 (pc := 13) dX3_readPrefixes_13 wF_X3_41 (A_76 hw) T1707 I1711 fun b1718 q1719 A1720 => ?_
      refine mr_iload (pc := 16) (z := z1702) dX3_readPrefixes_16 rfl ?_
      refine la_1 (pc := 18) dX3_readPrefixes_18 A1720 T1707 (rIx (n := 1000) h1716 rfl) fun z1721 q1722 h1723 => ?_
      refine mr_istore (pc := 19) (lv' := [(6, iv z1721), (0, .ref 76), (2, iv p2), (3, iv p3), (4, iv z1702), (5, iv z1701)]) dX3_readPrefixes_19 (by decide) rfl ?_
      refine mr_iload (pc := 21) (z := z1721) dX3_readPrefixes_21 rfl ?_
      refine mr_bipush (pc := 23) (z := 7) dX3_readPrefixes_23 (by decide) ?_
      refine mr_iadd (pc := 25) (x := z1721) (y := 7) dX3_readPrefixes_25 ?_
      refine mr_bipush (pc := 26) (z := 8) dX3_readPrefixes_26 (by decide) ?_
      refine mr_idiv (pc := 28) (x := (z1721 + 7)) (y := 8) dX3_readPrefixes_28 (rW (c := 0) (d := 2147483647) (rAdd (e := 7) (f := 262) h1723 (rR (x := 7)) rfl) rfl) vc_X12_prefixOut_4 ?_
      refine mr_gen (P := fun z => 0 ≤ z ∧ z ≤ 32) (rDiv (rAdd (e := 7) (f := 262) h1723 (rR (x := 7)) rfl) rfl) fun z1724 q1725 h1726 => ?_
      refine mr_istore (pc := 29) (lv' := [(7, iv z1724), (6, iv z1721), (0, .ref 76), (2, iv p2), (3, iv p3), (4, iv z1702), (5, iv z1701)]) dX3_readPrefixes_29 (by decide) rfl ?_
      refine mr_iload (pc := 31) (z := z1721) dX3_readPrefixes_31 rfl ?_
      refine mr_bipush (pc := 33) (z := 32) dX3_readPrefixes_33 (by decide) ?_
      refine mr_icmp_gt (pc := 35) (tgt := 59) dX3_readPrefixes_35 (by decide) (r32 h1723 rfl) (r32 (rR (x := 32)) rfl) (fun h1727 => ?_) (fun h1727 => ?_)
      · have h1728 : 33 ≤ z1721 ∧ z1721 ≤ 255 := (vc_X3_readPrefixes_W_6 h1727 q1725 h1723 h1726)
        refine sv_aload_n (pc := 59) dX3_readPrefixes_59 rfl rfl ?_
        refine mr_iconst (pc := 60) (z := 1) dX3_readPrefixes_60 ?_
        refine mr_iload (pc := 61) (z := z1702) dX3_readPrefixes_61 rfl ?_
        have W1733 := ((((((W1713 z1702 z1701 μ1703 rfl h1705 h1706 T1707 F1708).2 h1715) b1718 q1719 A1720) z1721 q1722 h1723) z1724 q1725).1 h1727)
        refine mr_cVV (pc := 63) (c_X3_note_W hw T1707 (rW (c := 0) (d := 3) (rR (x := 1)) rfl) (rW (c := (-2147483648)) (d := 2147483647) h1716 rfl) W1733) (gOk _ _ _ _ _) dX3_readPrefixes_63 (tX3_note _ _ _ _ _) ⟨wV_X3_note, wL_X3_note⟩ wM_X3_92 (gCX3 _ _ _ _ _) rfl (A_76 hw) rfl ⟨le_t rfl, le_t rfl⟩ ⟨le_t rfl, le_t rfl⟩ rfl (le_t rfl) fun μ1729 T1730 F1731 h1732 => ?_
        refine mr_iload (pc := 66) (z := z1701) dX3_readPrefixes_66 rfl ?_
        exact mr_iret dX3_readPrefixes_68 rfl (le_t rfl) (le_t rfl) T1730 (mF.call (mF.call mF.refl F1708 rfl) F1731 rfl) ⟨h1706, (vc_X3_told_5 h1710 hp3 h1706), (h1732.1 T1730 F1731), trivial⟩
      have h1734 : 0 ≤ z1721 ∧ z1721 ≤ 32 := (vc_X3_readPrefixes_W_7 h1727 q1725 h1723 h1726)
      refine mr_iload (pc := 38) (z := z1702) dX3_readPrefixes_38 rfl ?_
      refine mr_iconst (pc := 40) (z := 1) dX3_readPrefixes_40 ?_
      refine mr_iadd (pc := 41) (x := z1702) (y := 1) dX3_readPrefixes_41 ?_
      refine mr_iload (pc := 42) (z := z1724) dX3_readPrefixes_42 rfl ?_
      refine mr_iadd (pc := 44) (x := (z1702 + 1)) (y := z1724) dX3_readPrefixes_44 ?_
      refine mr_iload_n (pc := 45) (z := p2) dX3_readPrefixes_45 rfl rfl ?_
      refine mr_icmp_gt (pc := 46) (tgt := 59) dX3_readPrefixes_46 (by decide) (r32 (rAdd (e := 1) (f := 1032) (rAdd (e := 1) (f := 1000) h1716 (rR (x := 1)) rfl) h1726 rfl) rfl) (r32 h1717 rfl) (fun h1735 => ?_) (fun h1735 => ?_)
      · refine sv_aload_n (pc := 59) dX3_readPrefixes_59 rfl rfl ?_
        refine mr_iconst (pc := 60) (z := 1) dX3_readPrefixes_60 ?_
        refine mr_iload (pc := 61) (z := z1702) dX3_readPrefixes_61 rfl ?_
        have W1740 := (((((((W1713 z1702 z1701 μ1703 rfl h1705 h1706 T1707 F1708).2 h1715) b1718 q1719 A1720) z1721 q1722 h1723) z1724 q1725).2 h1727).1 h1735)
        refine mr_cVV (pc := 63) (c_X3_note_W hw T1707 (rW (c := 0) (d := 3) (rR (x := 1)) rfl) (rW (c := (-2147483648)) (d := 2147483647) h1716 rfl) W1740) (gOk _ _ _ _ _) dX3_readPrefixes_63 (tX3_note _ _ _ _ _) ⟨wV_X3_note, wL_X3_note⟩ wM_X3_92 (gCX3 _ _ _ _ _) rfl (A_76 hw) rfl ⟨le_t rfl, le_t rfl⟩ ⟨le_t rfl, le_t rfl⟩ rfl (le_t rfl) fun μ1736 T1737 F1738 h1739 => ?_
        refine mr_iload (pc := 66) (z := z1701) dX3_readPrefixes_66 rfl ?_
        exact mr_iret dX3_readPrefixes_68 rfl (le_t rfl) (le_t rfl) T1737 (mF.call (mF.call mF.refl F1708 rfl) F1738 rfl) ⟨h1706, (vc_X3_told_5 h1710 hp3 h1706), (h1739.1 T1737 F1738), trivial⟩
      refine mr_iload_n (pc := 49) (z := p3) dX3_readPrefixes_49 rfl rfl ?_
      refine mr_iload (pc := 50) (z := z1701) dX3_readPrefixes_50 rfl ?_
      refine mr_iadd (pc := 52) (x := p3) (y := z1701) dX3_readPrefixes_52 ?_
      refine mr_sipush (pc := 53) (z := 1000) dX3_readPrefixes_53 (by decide) ?_
      refine mr_icmp_lt (pc := 56) (tgt := 69) dX3_readPrefixes_56 (by decide) (r32 (rAdd (e := 0) (f := 2000) hp3 h1706 rfl) rfl) (r32 (rR (x := 1000)) rfl) (fun h1741 => ?_) (fun h1741 => ?_)
      · have h1742 : 0 ≤ p3 ∧ p3 ≤ 999 := (vc_X3_readPrefixes_W_8 h1741 h1710 hp3 h1706)
        have h1743 : 0 ≤ z1701 ∧ z1701 ≤ 999 := (vc_X3_readPrefixes_W_9 h1741 h1710 h1742 h1706)
        refine mr_iconst (pc := 69) (z := 0) dX3_readPrefixes_69 ?_
        refine mr_istore (pc := 70) (lv' := [(8, iv 0), (7, iv z1724), (6, iv z1721), (0, .ref 76), (2, iv p2), (3, iv p3), (4, iv z1702), (5, iv z1701)]) dX3_readPrefixes_70 (by decide) rfl ?_
        refine mr_iconst (pc := 72) (z := 0) dX3_readPrefixes_72 ?_
        refine mr_istore (pc := 73) (lv' := [(9, iv 0), (8, iv 0), (7, iv z1724), (6, iv z1721), (0, .ref 76), (2, iv p2), (3, iv p3), (4, iv z1702), (5, iv z1701)]) dX3_readPrefixes_73 (by decide) rfl ?_
        have L2178 : ∀ (nL2178 : Nat) (z2177 z2176 : Int), True → ((-2147483648) ≤ z2177 ∧ z2177 ≤ 2147483647) → (0 ≤ z2176 ∧ z2176 ≤ 32) → (33 - z2176) < (nL2178 : Int) → loopF (WL_X3_readPrefixes_W_2 w p3 (loopF (WL_X3_readPrefixes_W_1 w μ p2 p3 Q) False nL1704) z1702 z1701 μ1703 b1718 z1721 z1724) False nL2178 (z2177, z2176) → sV (gG l D c H0 sa) mX3_readPrefixes (sRm 2 0 0) (sZ (gG l D c H0 sa) 0 0 (qI w [80999, 84999, 85999] μ (fun z μ1 => (0 ≤ z ∧ z ≤ 1000) ∧ (z + p3 ≤ 1000) ∧ Q z μ1 ∧ True))) 75 [(0, .ref 76), (2, iv p2), (3, iv p3), (4, iv z1702), (5, iv z1701), (6, iv z1721), (7, iv z1724), (8, iv z2177), (9, iv z2176)] [] (mk w μ1703) 0 0 := by
          intro nL2178
          induction nL2178 with
          | zero => intro z2177 z2176 _ h2179 h2180 h2184 W2185; exact ((vc_X3_readPrefixes_W_10 h2184 h2180)).elim
          | succ nL2178 ih2186 =>
            intro z2177 z2176 _ h2179 h2180 h2184 W2185
            refine mr_iload (pc := 75) (z := z2176) dX3_readPrefixes_75 rfl ?_
            refine mr_iload (pc := 77) (z := z1724) dX3_readPrefixes_77 rfl ?_
            refine mr_icmp_ge (pc := 79) (tgt := 114) dX3_readPrefixes_79 (by decide) (r32 h2180 rfl) (r32 h1726 rfl) (fun h2198 => ?_) (fun h2198 => ?_)
            · refine sv_aload_n (pc := 114) dX3_readPrefixes_114 rfl rfl ?_
              refine gf_X3_10 (pc := 115) dX3_readPrefixes_115 wF_X3_32 (A_76 hw) T1707 ?_
              refine mr_iload_n (pc := 118) (z := p3) dX3_readPrefixes_118 rfl rfl ?_
              refine mr_iload (pc := 119) (z := z1701) dX3_readPrefixes_119 rfl ?_
              refine mr_iadd (pc := 121) (x := p3) (y := z1701) dX3_readPrefixes_121 ?_
              refine mr_iload (pc := 122) (z := z2177) dX3_readPrefixes_122 rfl ?_
              refine mr_iload (pc := 124) (z := z1721) dX3_readPrefixes_124 rfl ?_
              refine mr_cSP (pc := 126) (c_X10_maskOf_W hw T1707 (rW (c := (-2147483648)) (d := 2147483647) h1734 rfl) ((W2185 z2177 z2176 rfl h2179 h2180).1 h2198)) (gOk _ _ _ _ _) dX3_readPrefixes_126 (tX10_maskOf _ _ _ _ _) wS_X10_maskOf wM_X3_102 ⟨le_t rfl, le_t rfl⟩ ⟨le_t rfl, le_t rfl⟩ rfl (le_t rfl) fun z2203 h2202 => ?_
              refine mr_iand (pc := 129) (x := z2177) (y := z2203) dX3_readPrefixes_129 ?_
              refine mr_gen (P := fun z => (-2147483648) ≤ z ∧ z ≤ 2147483647) (r32i _) fun z2204 q2205 h2206 => ?_
              refine ss_84 (pc := 130) dX3_readPrefixes_130 (A_84 hw) T1707 (vc_X3_readPrefixes_W_11 h1710 h1741 h1742 h1743) h2206 fun μ2207 u2208 T2209 => ?_
              refine sv_aload_n (pc := 131) dX3_readPrefixes_131 rfl rfl ?_
              refine gf_X3_11 (pc := 132) dX3_readPrefixes_132 wF_X3_35 (A_76 hw) T2209 ?_
              refine mr_iload_n (pc := 135) (z := p3) dX3_readPrefixes_135 rfl rfl ?_
              refine mr_iload (pc := 136) (z := z1701) dX3_readPrefixes_136 rfl ?_
              refine mr_iadd (pc := 138) (x := p3) (y := z1701) dX3_readPrefixes_138 ?_
              refine mr_iload (pc := 139) (z := z1721) dX3_readPrefixes_139 rfl ?_
              refine ss_85 (pc := 141) dX3_readPrefixes_141 (A_85 hw) T2209 (vc_X3_readPrefixes_W_11 h1710 h1741 h1742 h1743) (rW (c := (-2147483648)) (d := 2147483647) h1734 rfl) fun μ2210 u2211 T2212 => ?_
              refine mr_iinc (pc := 142) (lv' := [(5, iv (z1701 + 1)), (0, .ref 76), (2, iv p2), (3, iv p3), (4, iv z1702), (6, iv z1721), (7, iv z1724), (8, iv z2177), (9, iv z2176)]) dX3_readPrefixes_142 rfl (by decide) rfl ?_
              refine mr_iload (pc := 145) (z := z1702) dX3_readPrefixes_145 rfl ?_
              refine mr_iconst (pc := 147) (z := 1) dX3_readPrefixes_147 ?_
              refine mr_iload (pc := 148) (z := z1724) dX3_readPrefixes_148 rfl ?_
              refine mr_iadd (pc := 150) (x := 1) (y := z1724) dX3_readPrefixes_150 ?_
              refine mr_iadd (pc := 151) (x := z1702) (y := (1 + z1724)) dX3_readPrefixes_151 ?_
              refine mr_istore (pc := 152) (lv' := [(4, iv (z1702 + (1 + z1724))), (5, iv (z1701 + 1)), (0, .ref 76), (2, iv p2), (3, iv p3), (6, iv z1721), (7, iv z1724), (8, iv z2177), (9, iv z2176)]) dX3_readPrefixes_152 (by decide) rfl ?_
              refine sv_goto (pc := 154) (tgt := 6) dX3_readPrefixes_154 (by decide) ?_
              refine mr_lvS (lv' := [(0, .ref 76), (2, iv p2), (3, iv p3), (4, iv (z1702 + (1 + z1724))), (5, iv (z1701 + 1))]) (List.forall_mem_cons.mpr ⟨rfl, List.forall_mem_cons.mpr ⟨rfl, List.forall_mem_cons.mpr ⟨rfl, List.forall_mem_cons.mpr ⟨rfl, List.forall_mem_cons.mpr ⟨rfl, fun _ h => absurd h List.not_mem_nil⟩⟩⟩⟩⟩) ?_
              exact ih1714 (z1702 + (1 + z1724)) (z1701 + 1) μ2210 T2212 (mF.up (mF.up (mF.call mF.refl F1708 rfl) (A_84 hw) u2208 rfl) (A_85 hw) u2211 rfl) (vc_X3_readPrefixes_W_12 h1715 q1725 h1735 h2198 h1727 h1717 h1716 h1734 h1726 h2180) (rW (c := 0) (d := 1000) (rAdd (e := 1) (f := 1000) h1743 (rR (x := 1)) rfl) rfl) (vc_X3_readPrefixes_W_13 h1710 h1741 h1742 h1743) (OC.keep I1711 hw ((mF.up (mF.up mF.refl (A_84 hw) u2208 rfl) (A_85 hw) u2211 rfl) : mF [84999, 85999] w μ1703 μ2210) rfl) (vc_X3_readPrefixes_W_14 (nS h1712) h1715 q1725 h1735 h2198 h1727 h1717 h1716 h1734 h1726 h2180) ((((h2202.2.1 h2202.1) z2204 q2205) μ2207 u2208 T2209) μ2210 u2211 T2212)
            have h2213 : 0 ≤ z2176 ∧ z2176 ≤ 31 := (vc_X3_readPrefixes_W_15 h2198 q1725 h1735 h1717 h1716 h1734 h1726 h2180)
            have h2214 : 1 ≤ z1724 ∧ z1724 ≤ 32 := (vc_X3_readPrefixes_W_16 h2198 q1725 h1735 h1717 h1716 h1734 h1726 h2213)
            refine mr_iload (pc := 82) (z := z2177) dX3_readPrefixes_82 rfl ?_
            refine sv_aload_n (pc := 84) dX3_readPrefixes_84 rfl rfl ?_
            refine gk_X3_4 (pc := 85) dX3_readPrefixes_85 wF_X3_41 (A_76 hw) q1719 ?_
            refine mr_iload (pc := 88) (z := z1702) dX3_readPrefixes_88 rfl ?_
            refine mr_iconst (pc := 90) (z := 1) dX3_readPrefixes_90 ?_
            refine mr_iadd (pc := 91) (x := z1702) (y := 1) dX3_readPrefixes_91 ?_
            refine mr_iload (pc := 92) (z := z2176) dX3_readPrefixes_92 rfl ?_
            refine mr_iadd (pc := 94) (x := (z1702 + 1)) (y := z2176) dX3_readPrefixes_94 ?_
            refine la_1 (pc := 95) dX3_readPrefixes_95 A1720 T1707 (vc_X3_readPrefixes_W_17 h1715 h1735 h2198 q1725 h1717 h1716 h1734 h2214 h2213) fun z2215 q2216 h2217 => ?_
            refine mr_bipush (pc := 96) (z := 24) dX3_readPrefixes_96 (by decide) ?_
            refine mr_bipush (pc := 98) (z := 8) dX3_readPrefixes_98 (by decide) ?_
            refine mr_iload (pc := 100) (z := z2176) dX3_readPrefixes_100 rfl ?_
            refine mr_imul (pc := 102) (x := 8) (y := z2176) dX3_readPrefixes_102 ?_
            refine mr_isub (pc := 103) (x := 24) (y := (8 * z2176)) dX3_readPrefixes_103 ?_
            refine mr_ishl (pc := 104) (x := z2215) (y := (24 - (8 * z2176))) dX3_readPrefixes_104 ?_
            refine mr_gen (P := fun z => (-2147483648) ≤ z ∧ z ≤ 2147483647) (r32i _) fun z2218 q2219 h2220 => ?_
            refine mr_ior (pc := 105) (x := z2177) (y := z2218) dX3_readPrefixes_105 ?_
            refine mr_gen (P := fun z => (-2147483648) ≤ z ∧ z ≤ 2147483647) (r32i _) fun z2221 q2222 h2223 => ?_
            refine mr_istore (pc := 106) (lv' := [(8, iv z2221), (0, .ref 76), (2, iv p2), (3, iv p3), (4, iv z1702), (5, iv z1701), (6, iv z1721), (7, iv z1724), (9, iv z2176)]) dX3_readPrefixes_106 (by decide) rfl ?_
            refine mr_iinc (pc := 108) (lv' := [(9, iv (z2176 + 1)), (8, iv z2221), (0, .ref 76), (2, iv p2), (3, iv p3), (4, iv z1702), (5, iv z1701), (6, iv z1721), (7, iv z1724)]) dX3_readPrefixes_108 rfl (by decide) rfl ?_
            refine sv_goto (pc := 111) (tgt := 75) dX3_readPrefixes_111 (by decide) ?_
            refine mr_lvS (lv' := [(0, .ref 76), (2, iv p2), (3, iv p3), (4, iv z1702), (5, iv z1701), (6, iv z1721), (7, iv z1724), (8, iv z2221), (9, iv (z2176 + 1))]) (List.forall_mem_cons.mpr ⟨rfl, List.forall_mem_cons.mpr ⟨rfl, List.forall_mem_cons.mpr ⟨rfl, List.forall_mem_cons.mpr ⟨rfl, List.forall_mem_cons.mpr ⟨rfl, List.forall_mem_cons.mpr ⟨rfl, List.forall_mem_cons.mpr ⟨rfl, List.forall_mem_cons.mpr ⟨rfl, List.forall_mem_cons.mpr ⟨rfl, fun _ h => absurd h List.not_mem_nil⟩⟩⟩⟩⟩⟩⟩⟩⟩) ?_
            exact ih2186 z2221 (z2176 + 1) trivial h2223 (rW (c := 0) (d := 32) (rAdd (e := 1) (f := 32) h2213 (rR (x := 1)) rfl) rfl) (vc_X3_readPrefixes_W_18 (nS h2184) h2198 q1725 h1735 h1717 h1716 h1734 h2214 h2213) (((((W2185 z2177 z2176 rfl h2179 h2180).2 h2198) z2215 q2216 h2217) z2218 q2219) z2221 q2222)
        refine mr_lvS (lv' := [(0, .ref 76), (2, iv p2), (3, iv p3), (4, iv z1702), (5, iv z1701), (6, iv z1721), (7, iv z1724), (8, iv 0), (9, iv 0)]) (List.forall_mem_cons.mpr ⟨rfl, List.forall_mem_cons.mpr ⟨rfl, List.forall_mem_cons.mpr ⟨rfl, List.forall_mem_cons.mpr ⟨rfl, List.forall_mem_cons.mpr ⟨rfl, List.forall_mem_cons.mpr ⟨rfl, List.forall_mem_cons.mpr ⟨rfl, List.forall_mem_cons.mpr ⟨rfl, List.forall_mem_cons.mpr ⟨rfl, fun _ h => absurd h List.not_mem_nil⟩⟩⟩⟩⟩⟩⟩⟩⟩) ?_
        exact L2178 34 0 0 trivial (rW (c := (-2147483648)) (d := 2147483647) (rR (x := 0)) rfl) (rW (c := 0) (d := 32) (rR (x := 0)) rfl) vc_X3_readPrefixes_W_19 ((((((((W1713 z1702 z1701 μ1703 rfl h1705 h1706 T1707 F1708).2 h1715) b1718 q1719 A1720) z1721 q1722 h1723) z1724 q1725).2 h1727).2 h1735).1 h1741)
      refine sv_aload_n (pc := 59) dX3_readPrefixes_59 rfl rfl ?_
      refine mr_iconst (pc := 60) (z := 1) dX3_readPrefixes_60 ?_
      refine mr_iload (pc := 61) (z := z1702) dX3_readPrefixes_61 rfl ?_
      have W2228 := ((((((((W1713 z1702 z1701 μ1703 rfl h1705 h1706 T1707 F1708).2 h1715) b1718 q1719 A1720) z1721 q1722 h1723) z1724 q1725).2 h1727).2 h1735).2 h1741)
      refine mr_cVV (pc := 63) (c_X3_note_W hw T1707 (rW (c := 0) (d := 3) (rR (x := 1)) rfl) (rW (c := (-2147483648)) (d := 2147483647) h1716 rfl) W2228) (gOk _ _ _ _ _) dX3_readPrefixes_63 (tX3_note _ _ _ _ _) ⟨wV_X3_note, wL_X3_note⟩ wM_X3_92 (gCX3 _ _ _ _ _) rfl (A_76 hw) rfl ⟨le_t rfl, le_t rfl⟩ ⟨le_t rfl, le_t rfl⟩ rfl (le_t rfl) fun μ2224 T2225 F2226 h2227 => ?_
      refine mr_iload (pc := 66) (z := z1701) dX3_readPrefixes_66 rfl ?_
      exact mr_iret dX3_readPrefixes_68 rfl (le_t rfl) (le_t rfl) T2225 (mF.call (mF.call mF.refl F1708 rfl) F2226 rfl) ⟨h1706, (vc_X3_readPrefixes_W_20 h1710 h1741 hp3 h1706), (h2227.1 T2225 F2226), trivial⟩
  refine mr_lvS (lv' := [(0, .ref 76), (2, iv p2), (3, iv p3), (4, iv p1), (5, iv 0)]) (List.forall_mem_cons.mpr ⟨rfl, List.forall_mem_cons.mpr ⟨rfl, List.forall_mem_cons.mpr ⟨rfl, List.forall_mem_cons.mpr ⟨rfl, List.forall_mem_cons.mpr ⟨rfl, fun _ h => absurd h List.not_mem_nil⟩⟩⟩⟩⟩) ?_
  exact L1704 1002 p1 0 μ hT mF.refl hp1 (rW (c := 0) (d := 1000) (rR (x := 0)) rfl) (vc_X3_readPrefixes_W_21 hp3) hIOC (vc_X12_next_v_412 hp1) hQ
def WP_X3_readOrigin_W (w : mW) (μ : mM) (p1 : Int) (p2 : Int) (Q : Int → mM → Prop) : Prop := ((¬ p2 = 1) → Q (0 : Int) μ) ∧ ((p2 = 1) → ∀ b3 : Nat, μ 76 4 = (b3 : Int) → mAt w b3 1 → ∀ z6 : Int, μ b3 (p1.toNat) = z6 → (0 ≤ z6 ∧ z6 ≤ 255) → ((z6 ≤ 2) → ∀ μ11 : mM, mU μ 81 (5) z6 μ11 → mT w μ11 → Q (1 : Int) μ11) ∧ ((2 < z6) → Q (0 : Int) μ))
theorem vc_X3_readOrigin_W_1 {p1 p2 : Int} (h0 : p2 = 1) (h1 : p1 + p2 ≤ 1000) (h2 : 0 ≤ p1 ∧ p1 ≤ 1000) (h3 : (-2147483648) ≤ p2 ∧ p2 ≤ 2147483647) : 1 ≤ p2 ∧ p2 ≤ 1 := by omega
theorem vc_X3_readOrigin_W_2 {p1 p2 : Int} (h0 : p1 + p2 ≤ 1000) (h1 : p2 = 1) (h2 : 0 ≤ p1 ∧ p1 ≤ 1000) (h3 : 1 ≤ p2 ∧ p2 ≤ 1) : 0 ≤ p1 ∧ p1 < 1000 := by omega
theorem vc_X3_readOrigin_W_3 {z6 : Int} (h0 : z6 ≤ 2) (h1 : 0 ≤ z6 ∧ z6 ≤ 255) : 0 ≤ z6 ∧ z6 ≤ 2 := by omega
theorem vc_X3_readOrigin_W_4 {z6 : Int} (h0 : 2 < z6) (h1 : 0 ≤ z6 ∧ z6 ≤ 255) : 3 ≤ z6 ∧ z6 ≤ 255 := by omega
set_option maxRecDepth 4000 in
set_option maxHeartbeats 4000000 in
theorem c_X3_readOrigin_W {l : Launch} {D : va_G} {c : Nat → ClassId} {H0 : Heap} {sa : Nat × Nat × (Nat → Int32)} {w : mW} {μ : mM} (hw : mWF w) (hT : mT w μ) {p1 : Int} (hp1 : 0 ≤ p1 ∧ p1 ≤ 1000) {p2 : Int} (hp2 : (-2147483648) ≤ p2 ∧ p2 ≤ 2147483647) (hq0 : p1 + p2 ≤ 1000) (hIOC : OC μ) {Q : Int → mM → Prop} (hQ : WP_X3_readOrigin_W w μ p1 p2 Q) : sC (gG l D c H0 sa) mX3_readOrigin 1 0 0 [.ref 76, iv p1, iv p2] (mk w μ) (qI w [200005] μ (fun z μ1 => (0 ≤ z ∧ z ≤ 1) ∧ Q z μ1 ∧ True)) := by
  refine sC.of rfl (by decide) (le_t rfl) ?_
  refine mr_lvE (lv' := [(0, .ref 76), (1, iv p1), (2, iv p2)]) rfl ?_
  refine mr_iload_n (pc := 0) (z := p2) dX3_readOrigin_0 rfl rfl ?_
  refine mr_iconst (pc := 1) (z := 1) dX3_readOrigin_1 ?_
  refine mr_icmp_ne (pc := 2) (tgt := 15) dX3_readOrigin_2 (by decide) hp2 (r32 (rR (x := 1)) rfl) (fun h1 => ?_) (fun h1 => ?_)
  · refine mr_iconst (pc := 15) (z := 0) dX3_readOrigin_15 ?_
    exact mr_zret dX3_readOrigin_16 rfl (rW (c := 0) (d := 1) (rR (x := 0)) rfl) (le_t rfl) (le_t rfl) hT mF.refl ⟨(rW (c := 0) (d := 1) (rR (x := 0)) rfl), (hQ.1 h1), trivial⟩
  have h2 : 1 ≤ p2 ∧ p2 ≤ 1 := (vc_X3_readOrigin_W_1 h1 hq0 hp1 hp2)
  refine sv_aload_n (pc := 5) dX3_readOrigin_5 rfl rfl ?_
  refine gf_X3_4 (pc := 6) dX3_readOrigin_6 wF_X3_41 (A_76 hw) hT hIOC fun b3 q4 A5 => ?_
  refine mr_iload_n (pc := 9) (z := p1) dX3_readOrigin_9 rfl rfl ?_
  refine la_1 (pc := 10) dX3_readOrigin_10 A5 hT (vc_X3_readOrigin_W_2 hq0 h1 hp1 h2) fun z6 q7 h8 => ?_
  refine mr_iconst (pc := 11) (z := 2) dX3_readOrigin_11 ?_
  refine mr_icmp_le (pc := 12) (tgt := 17) dX3_readOrigin_12 (by decide) (r32 h8 rfl) (r32 (rR (x := 2)) rfl) (fun h9 => ?_) (fun h9 => ?_)
  · have h10 : 0 ≤ z6 ∧ z6 ≤ 2 := (vc_X3_readOrigin_W_3 h9 h8)
    refine sv_aload_n (pc := 17) dX3_readOrigin_17 rfl rfl ?_
    refine gf_X3_9 (pc := 18) dX3_readOrigin_18 wF_X3_28 (A_76 hw) hT ?_
    refine sv_aload_n (pc := 21) dX3_readOrigin_21 rfl rfl ?_
    refine gk_X3_4 (pc := 22) dX3_readOrigin_22 wF_X3_41 (A_76 hw) q4 ?_
    refine mr_iload_n (pc := 25) (z := p1) dX3_readOrigin_25 rfl rfl ?_
    refine lk_1 (pc := 26) dX3_readOrigin_26 A5 (vc_X3_readOrigin_W_2 hq0 h1 hp1 h2) q7 ?_
    refine pf_X7_5 (pc := 27) dX3_readOrigin_27 wF_X3_127 (A_81 hw) hT (rW (c := (-2147483648)) (d := 2147483647) h10 rfl) fun μ11 u12 T13 => ?_
    refine mr_iconst (pc := 30) (z := 1) dX3_readOrigin_30 ?_
    exact mr_zret dX3_readOrigin_31 rfl (rW (c := 0) (d := 1) (rR (x := 1)) rfl) (le_t rfl) (le_t rfl) T13 (mF.up mF.refl (A_81 hw) u12 rfl) ⟨(rW (c := 0) (d := 1) (rR (x := 1)) rfl), (((((hQ.2 h1) b3 q4 A5) z6 q7 h8).1 h9) μ11 u12 T13), trivial⟩
  have h14 : 3 ≤ z6 ∧ z6 ≤ 255 := (vc_X3_readOrigin_W_4 h9 h8)
  refine mr_iconst (pc := 15) (z := 0) dX3_readOrigin_15 ?_
  exact mr_zret dX3_readOrigin_16 rfl (rW (c := 0) (d := 1) (rR (x := 0)) rfl) (le_t rfl) (le_t rfl) hT mF.refl ⟨(rW (c := 0) (d := 1) (rR (x := 0)) rfl), ((((hQ.2 h1) b3 q4 A5) z6 q7 h8).2 h9), trivial⟩
def WP_X3_fourAt_W (w : mW) (μ : mM) (p1 : Int) (Q : Int → mM → Prop) : Prop := WP_X3_pairAt_W w μ p1 (fun z5 _ => (0 ≤ z5 ∧ z5 ≤ 65535) → ∀ z6 : Int, bShl z5 (16 : Int) = z6 → WP_X3_pairAt_W w μ (p1 + 2) (fun z13 _ => (0 ≤ z13 ∧ z13 ≤ 65535) → ∀ z14 : Int, bOr z6 z13 = z14 → Q z14 μ))
set_option maxRecDepth 4000 in
set_option maxHeartbeats 4000000 in
theorem c_X3_fourAt_W {l : Launch} {D : va_G} {c : Nat → ClassId} {H0 : Heap} {sa : Nat × Nat × (Nat → Int32)} {w : mW} {μ : mM} (hw : mWF w) (hT : mT w μ) {p1 : Int} (hp1 : 0 ≤ p1 ∧ p1 ≤ 996) (hIOC : OC μ) {Q : Int → mM → Prop} (hQ : WP_X3_fourAt_W w μ p1 Q) : sC (gG l D c H0 sa) mX3_fourAt 2 0 0 [.ref 76, iv p1] (mk w μ) (qP w μ (fun z => ((-2147483648) ≤ z ∧ z ≤ 2147483647) ∧ Q z μ ∧ True)) := by
  refine sC.of rfl (by decide) (le_t rfl) ?_
  refine mr_lvE (lv' := [(0, .ref 76), (1, iv p1)]) rfl ?_
  refine sv_aload_n (pc := 0) dX3_fourAt_0 rfl rfl ?_
  refine mr_iload_n (pc := 1) (z := p1) dX3_fourAt_1 rfl rfl ?_
  refine mr_cVP (pc := 2) (c_X3_pairAt_W hw hT (rW (c := 0) (d := 998) hp1 rfl) hIOC hQ) (gOk _ _ _ _ _) dX3_fourAt_2 (tX3_pairAt _ _ _ _ _) ⟨wV_X3_pairAt, wL_X3_pairAt⟩ wM_X3_88 (gCX3 _ _ _ _ _) rfl (A_76 hw) rfl ⟨le_t rfl, le_t rfl⟩ ⟨le_t rfl, le_t rfl⟩ rfl (le_t rfl) fun z5 h4 => ?_
  refine mr_bipush (pc := 5) (z := 16) dX3_fourAt_5 (by decide) ?_
  refine mr_ishl (pc := 7) (x := z5) (y := 16) dX3_fourAt_7 ?_
  refine mr_gen (P := fun z => (-2147483648) ≤ z ∧ z ≤ 2147483647) (r32i _) fun z6 q7 h8 => ?_
  refine sv_aload_n (pc := 8) dX3_fourAt_8 rfl rfl ?_
  refine mr_iload_n (pc := 9) (z := p1) dX3_fourAt_9 rfl rfl ?_
  refine mr_iconst (pc := 10) (z := 2) dX3_fourAt_10 ?_
  refine mr_iadd (pc := 11) (x := p1) (y := 2) dX3_fourAt_11 ?_
  refine mr_cVP (pc := 12) (c_X3_pairAt_W hw hT (rW (c := 0) (d := 998) (rAdd (e := 2) (f := 998) hp1 (rR (x := 2)) rfl) rfl) hIOC ((h4.2.1 h4.1) z6 q7)) (gOk _ _ _ _ _) dX3_fourAt_12 (tX3_pairAt _ _ _ _ _) ⟨wV_X3_pairAt, wL_X3_pairAt⟩ wM_X3_88 (gCX3 _ _ _ _ _) rfl (A_76 hw) rfl ⟨le_t rfl, le_t rfl⟩ ⟨le_t rfl, le_t rfl⟩ rfl (le_t rfl) fun z13 h12 => ?_
  refine mr_ior (pc := 15) (x := z6) (y := z13) dX3_fourAt_15 ?_
  refine mr_gen (P := fun z => (-2147483648) ≤ z ∧ z ≤ 2147483647) (r32i _) fun z14 q15 h16 => ?_
  exact mr_iretP dX3_fourAt_16 rfl (le_t rfl) (le_t rfl) ⟨h16, ((h12.2.1 h12.1) z14 q15), trivial⟩
def WL_X3_sortWithoutSign_W_2 (w : mW) (a1 : Nat) (p2 : Int) (rec1 : (Int × mM) → Prop) (z111 : Int) (μ112 : mM) (z177 : Int) (rec2 : (Int × mM) → Prop) (s : (Int × mM)) : Prop := ∀ z252 : Int, ∀ μ253 : mM, s = (z252, μ253) → (0 ≤ z252 ∧ z252 ≤ 19) → mT w μ253 → mF [201999] w μ112 μ253 → ((z252 ≤ p2) → ∀ μ279 : mM, mU μ253 a1 (z252.toNat) z177 μ279 → mT w μ279 → rec1 ((z111 + 1), μ279)) ∧ ((p2 < z252) → ∀ z284 : Int, μ253 a1 ((z252 - 1).toNat) = z284 → ((-2147483648) ≤ z284 ∧ z284 ≤ 2147483647) → ∀ z287 : Int, bXor z284 ((-2147483648) : Int) = z287 → ∀ z290 : Int, bXor z177 ((-2147483648) : Int) = z290 → ((z287 ≤ z290) → ∀ μ299 : mM, mU μ253 a1 (z252.toNat) z177 μ299 → mT w μ299 → rec1 ((z111 + 1), μ299)) ∧ ((z290 < z287) → ∀ μ304 : mM, mU μ253 a1 (z252.toNat) z284 μ304 → mT w μ304 → rec2 ((z252 + (-1)), μ304)))
def WL_X3_sortWithoutSign_W_1 (w : mW) (μ : mM) (a1 : Nat) (p2 : Int) (p3 : Int) (Q : mM → Prop) (rec1 : (Int × mM) → Prop) (s : (Int × mM)) : Prop := ∀ z111 : Int, ∀ μ112 : mM, s = (z111, μ112) → (1 ≤ z111 ∧ z111 ≤ 21) → mT w μ112 → mF [201999] w μ μ112 → ((p3 ≤ z111) → Q μ112) ∧ ((z111 < p3) → ∀ z177 : Int, μ112 a1 (z111.toNat) = z177 → ((-2147483648) ≤ z177 ∧ z177 ≤ 2147483647) → loopF (WL_X3_sortWithoutSign_W_2 w a1 p2 rec1 z111 μ112 z177) False 21 (z111, μ112))
def WP_X3_sortWithoutSign_W (w : mW) (μ : mM) (a1 : Nat) (p2 : Int) (p3 : Int) (Q : mM → Prop) : Prop := loopF (WL_X3_sortWithoutSign_W_1 w μ a1 p2 p3 Q) False 22 ((p2 + 1), μ)
theorem vc_X3_sortWithoutSign_W_1 {z111 : Int} (h0 : (22 - z111) < ((0 : Nat) : Int)) (h1 : 1 ≤ z111 ∧ z111 ≤ 21) : False := by omega
theorem vc_X3_sortWithoutSign_W_2 {p3 z111 : Int} (h0 : z111 < p3) (h1 : 0 ≤ p3 ∧ p3 ≤ 20) (h2 : 1 ≤ z111 ∧ z111 ≤ 21) : 1 ≤ z111 ∧ z111 ≤ 19 := by omega
theorem vc_X3_sortWithoutSign_W_3 {p3 z111 : Int} (h0 : z111 < p3) (h1 : 0 ≤ p3 ∧ p3 ≤ 20) (h2 : 1 ≤ z111 ∧ z111 ≤ 19) : 2 ≤ p3 ∧ p3 ≤ 20 := by omega
theorem vc_X3_sortWithoutSign_W_5 {N p3 z111 : Int} (h0 : (22 - z111) < N + 1) (h1 : z111 < p3) (h2 : 2 ≤ p3 ∧ p3 ≤ 20) (h3 : 1 ≤ z111 ∧ z111 ≤ 19) : (22 - (z111 + 1)) < N := by omega
theorem vc_X3_sortWithoutSign_W_6 {p2 z252 : Int} (h0 : p2 < z252) (h1 : 0 ≤ p2 ∧ p2 ≤ 20) (h2 : 0 ≤ z252 ∧ z252 ≤ 19) : 1 ≤ z252 ∧ z252 ≤ 19 := by omega
theorem vc_X3_sortWithoutSign_W_7 {p2 z252 : Int} (h0 : p2 < z252) (h1 : 0 ≤ p2 ∧ p2 ≤ 20) (h2 : 1 ≤ z252 ∧ z252 ≤ 19) : 0 ≤ p2 ∧ p2 ≤ 18 := by omega
theorem vc_X3_sortWithoutSign_W_10 {N p2 z252 : Int} (h0 : (z252 - (-1)) < N + 1) (h1 : p2 < z252) (h2 : 0 ≤ p2 ∧ p2 ≤ 18) (h3 : 1 ≤ z252 ∧ z252 ≤ 19) : ((z252 + (-1)) - (-1)) < N := by omega
theorem vc_X3_sortWithoutSign_W_11 {p3 z111 : Int} (h0 : z111 < p3) (h1 : 2 ≤ p3 ∧ p3 ≤ 20) (h2 : 1 ≤ z111 ∧ z111 ≤ 19) : (z111 - (-1)) < ((21 : Nat) : Int) := by omega
theorem vc_X3_sortWithoutSign_W_12 {p2 : Int} (h0 : 0 ≤ p2 ∧ p2 ≤ 20) : (22 - (p2 + 1)) < ((22 : Nat) : Int) := by omega
set_option maxRecDepth 4000 in
set_option maxHeartbeats 4000000 in
theorem c_X3_sortWithoutSign_W {l : Launch} {D : va_G} {c : Nat → ClassId} {H0 : Heap} {sa : Nat × Nat × (Nat → Int32)} {w : mW} {μ : mM} (hw : mWF w) (hT : mT w μ) {a1 : Nat} (hA1 : mAt w a1 201) {p2 : Int} (hp2 : 0 ≤ p2 ∧ p2 ≤ 20) {p3 : Int} (hp3 : 0 ≤ p3 ∧ p3 ≤ 20) {Q : mM → Prop} (hQ : WP_X3_sortWithoutSign_W w μ a1 p2 p3 Q) : sC (gG l D c H0 sa) mX3_sortWithoutSign 1 0 0 [.ref a1, iv p2, iv p3] (mk w μ) (qV w [201999] μ (fun μ1 => Q μ1 ∧ True)) := by
  refine sC.of rfl (by decide) (le_t rfl) ?_
  refine mr_lvE (lv' := [(0, .ref a1), (1, iv p2), (2, iv p3)]) rfl ?_
  refine mr_iload_n (pc := 0) (z := p2) dX3_sortWithoutSign_0 rfl rfl ?_
  refine mr_iconst (pc := 1) (z := 1) dX3_sortWithoutSign_1 ?_
  refine mr_iadd (pc := 2) (x := p2) (y := 1) dX3_sortWithoutSign_2 ?_
  refine mr_istore_n (pc := 3) (lv' := [(3, iv (p2 + 1)), (0, .ref a1), (1, iv p2), (2, iv p3)]) dX3_sortWithoutSign_3 rfl (by decide) rfl ?_
  have L113 : ∀ (nL113 : Nat) (z111 : Int) (μ112 : mM), mT w μ112 → mF [201999] w μ μ112 → (1 ≤ z111 ∧ z111 ≤ 21) → (22 - z111) < (nL113 : Int) → loopF (WL_X3_sortWithoutSign_W_1 w μ a1 p2 p3 Q) False nL113 (z111, μ112) → sV (gG l D c H0 sa) mX3_sortWithoutSign (sRm 1 0 0) (sZ (gG l D c H0 sa) 0 0 (qV w [201999] μ (fun μ1 => Q μ1 ∧ True))) 4 [(0, .ref a1), (1, iv p2), (2, iv p3), (3, iv z111)] [] (mk w μ112) 0 0 := by
    intro nL113
    induction nL113 with
    | zero => intro z111 μ112 T115 F116 h114 h118 W119; exact ((vc_X3_sortWithoutSign_W_1 h118 h114)).elim
    | succ nL113 ih120 =>
      intro z111 μ112 T115 F116 h114 h118 W119
      refine mr_iload_n (pc := 4) (z := z111) dX3_sortWithoutSign_4 rfl rfl ?_
      refine mr_iload_n (pc := 5) (z := p3) dX3_sortWithoutSign_5 rfl rfl ?_
      refine mr_icmp_ge (pc := 6) (tgt := 68) dX3_sortWithoutSign_6 (by decide) (r32 h114 rfl) (r32 hp3 rfl) (fun h174 => ?_) (fun h174 => ?_)
      · exact mr_vret dX3_sortWithoutSign_68 rfl (le_t rfl) (le_t rfl) T115 (mF.call mF.refl F116 rfl) ⟨((W119 z111 μ112 rfl h114 T115 F116).1 h174), trivial⟩
      have h175 : 1 ≤ z111 ∧ z111 ≤ 19 := (vc_X3_sortWithoutSign_W_2 h174 hp3 h114)
      have h176 : 2 ≤ p3 ∧ p3 ≤ 20 := (vc_X3_sortWithoutSign_W_3 h174 hp3 h175)
      refine sv_aload_n (pc := 9) dX3_sortWithoutSign_9 rfl rfl ?_
      refine mr_iload_n (pc := 10) (z := z111) dX3_sortWithoutSign_10 rfl rfl ?_
      refine la_201 (pc := 11) dX3_sortWithoutSign_11 hA1 T115 (rIx (n := 20) h175 rfl) fun z177 q178 h179 => ?_
      refine mr_istore (pc := 12) (lv' := [(4, iv z177), (0, .ref a1), (1, iv p2), (2, iv p3), (3, iv z111)]) dX3_sortWithoutSign_12 (by decide) rfl ?_
      refine mr_iload_n (pc := 14) (z := z111) dX3_sortWithoutSign_14 rfl rfl ?_
      refine mr_istore (pc := 15) (lv' := [(5, iv z111), (4, iv z177), (0, .ref a1), (1, iv p2), (2, iv p3), (3, iv z111)]) dX3_sortWithoutSign_15 (by decide) rfl ?_
      have L254 : ∀ (nL254 : Nat) (z252 : Int) (μ253 : mM), mT w μ253 → mF [201999] w μ112 μ253 → (0 ≤ z252 ∧ z252 ≤ 19) → (z252 - (-1)) < (nL254 : Int) → loopF (WL_X3_sortWithoutSign_W_2 w a1 p2 (loopF (WL_X3_sortWithoutSign_W_1 w μ a1 p2 p3 Q) False nL113) z111 μ112 z177) False nL254 (z252, μ253) → sV (gG l D c H0 sa) mX3_sortWithoutSign (sRm 1 0 0) (sZ (gG l D c H0 sa) 0 0 (qV w [201999] μ (fun μ1 => Q μ1 ∧ True))) 17 [(0, .ref a1), (1, iv p2), (2, iv p3), (3, iv z111), (4, iv z177), (5, iv z252)] [] (mk w μ253) 0 0 := by
        intro nL254
        induction nL254 with
        | zero => intro z252 μ253 T256 F257 h255 h259 W260; exact ((vc_X12_front_3 h259 h255)).elim
        | succ nL254 ih261 =>
          intro z252 μ253 T256 F257 h255 h259 W260
          refine mr_iload (pc := 17) (z := z252) dX3_sortWithoutSign_17 rfl ?_
          refine mr_iload_n (pc := 19) (z := p2) dX3_sortWithoutSign_19 rfl rfl ?_
          refine mr_icmp_le (pc := 20) (tgt := 56) dX3_sortWithoutSign_20 (by decide) (r32 h255 rfl) (r32 hp2 rfl) (fun h278 => ?_) (fun h278 => ?_)
          · refine sv_aload_n (pc := 56) dX3_sortWithoutSign_56 rfl rfl ?_
            refine mr_iload (pc := 57) (z := z252) dX3_sortWithoutSign_57 rfl ?_
            refine mr_iload (pc := 59) (z := z177) dX3_sortWithoutSign_59 rfl ?_
            refine ss_201 (pc := 61) dX3_sortWithoutSign_61 hA1 T256 (rIx (n := 20) h255 rfl) h179 fun μ279 u280 T281 => ?_
            refine mr_iinc (pc := 62) (lv' := [(3, iv (z111 + 1)), (0, .ref a1), (1, iv p2), (2, iv p3), (4, iv z177), (5, iv z252)]) dX3_sortWithoutSign_62 rfl (by decide) rfl ?_
            refine sv_goto (pc := 65) (tgt := 4) dX3_sortWithoutSign_65 (by decide) ?_
            refine mr_lvS (lv' := [(0, .ref a1), (1, iv p2), (2, iv p3), (3, iv (z111 + 1))]) (List.forall_mem_cons.mpr ⟨rfl, List.forall_mem_cons.mpr ⟨rfl, List.forall_mem_cons.mpr ⟨rfl, List.forall_mem_cons.mpr ⟨rfl, fun _ h => absurd h List.not_mem_nil⟩⟩⟩⟩) ?_
            exact ih120 (z111 + 1) μ279 T281 (mF.up (mF.call (mF.call mF.refl F116 rfl) F257 rfl) hA1 u280 rfl) (rW (c := 1) (d := 21) (rAdd (e := 2) (f := 20) h175 (rR (x := 1)) rfl) rfl) (vc_X3_sortWithoutSign_W_5 (nS h118) h174 h176 h175) (((W260 z252 μ253 rfl h255 T256 F257).1 h278) μ279 u280 T281)
          have h282 : 1 ≤ z252 ∧ z252 ≤ 19 := (vc_X3_sortWithoutSign_W_6 h278 hp2 h255)
          have h283 : 0 ≤ p2 ∧ p2 ≤ 18 := (vc_X3_sortWithoutSign_W_7 h278 hp2 h282)
          refine sv_aload_n (pc := 23) dX3_sortWithoutSign_23 rfl rfl ?_
          refine mr_iload (pc := 24) (z := z252) dX3_sortWithoutSign_24 rfl ?_
          refine mr_iconst (pc := 26) (z := 1) dX3_sortWithoutSign_26 ?_
          refine mr_isub (pc := 27) (x := z252) (y := 1) dX3_sortWithoutSign_27 ?_
          refine la_201 (pc := 28) dX3_sortWithoutSign_28 hA1 T256 (rIx (n := 20) (rSub (e := 0) (f := 18) h282 (rR (x := 1)) rfl) rfl) fun z284 q285 h286 => ?_
          refine mr_ldc (pc := 29) (z := (-2147483648)) dX3_sortWithoutSign_29 wG_X3_152 (by decide) ?_
          refine mr_ixor (pc := 31) (x := z284) (y := (-2147483648)) dX3_sortWithoutSign_31 ?_
          refine mr_gen (P := fun z => (-2147483648) ≤ z ∧ z ≤ 2147483647) (r32i _) fun z287 q288 h289 => ?_
          refine mr_iload (pc := 32) (z := z177) dX3_sortWithoutSign_32 rfl ?_
          refine mr_ldc (pc := 34) (z := (-2147483648)) dX3_sortWithoutSign_34 wG_X3_152 (by decide) ?_
          refine mr_ixor (pc := 36) (x := z177) (y := (-2147483648)) dX3_sortWithoutSign_36 ?_
          refine mr_gen (P := fun z => (-2147483648) ≤ z ∧ z ≤ 2147483647) (r32i _) fun z290 q291 h292 => ?_
          refine mr_icmp_le (pc := 37) (tgt := 56) dX3_sortWithoutSign_37 (by decide) h289 h292 (fun h298 => ?_) (fun h298 => ?_)
          · refine sv_aload_n (pc := 56) dX3_sortWithoutSign_56 rfl rfl ?_
            refine mr_iload (pc := 57) (z := z252) dX3_sortWithoutSign_57 rfl ?_
            refine mr_iload (pc := 59) (z := z177) dX3_sortWithoutSign_59 rfl ?_
            refine ss_201 (pc := 61) dX3_sortWithoutSign_61 hA1 T256 (rIx (n := 20) h282 rfl) h179 fun μ299 u300 T301 => ?_
            refine mr_iinc (pc := 62) (lv' := [(3, iv (z111 + 1)), (0, .ref a1), (1, iv p2), (2, iv p3), (4, iv z177), (5, iv z252)]) dX3_sortWithoutSign_62 rfl (by decide) rfl ?_
            refine sv_goto (pc := 65) (tgt := 4) dX3_sortWithoutSign_65 (by decide) ?_
            refine mr_lvS (lv' := [(0, .ref a1), (1, iv p2), (2, iv p3), (3, iv (z111 + 1))]) (List.forall_mem_cons.mpr ⟨rfl, List.forall_mem_cons.mpr ⟨rfl, List.forall_mem_cons.mpr ⟨rfl, List.forall_mem_cons.mpr ⟨rfl, fun _ h => absurd h List.not_mem_nil⟩⟩⟩⟩) ?_
            exact ih120 (z111 + 1) μ299 T301 (mF.up (mF.call (mF.call mF.refl F116 rfl) F257 rfl) hA1 u300 rfl) (rW (c := 1) (d := 21) (rAdd (e := 2) (f := 20) h175 (rR (x := 1)) rfl) rfl) (vc_X3_sortWithoutSign_W_5 (nS h118) h174 h176 h175) (((((((W260 z252 μ253 rfl h255 T256 F257).2 h278) z284 q285 h286) z287 q288) z290 q291).1 h298) μ299 u300 T301)
          have h302 : (-2147483647) ≤ z287 ∧ z287 ≤ 2147483647 := (vc_X12_related_1 h298 h289 h292)
          have h303 : (-2147483648) ≤ z290 ∧ z290 ≤ 2147483646 := (vc_X12_related_2 h298 h302 h292)
          refine sv_aload_n (pc := 40) dX3_sortWithoutSign_40 rfl rfl ?_
          refine mr_iload (pc := 41) (z := z252) dX3_sortWithoutSign_41 rfl ?_
          refine sv_aload_n (pc := 43) dX3_sortWithoutSign_43 rfl rfl ?_
          refine mr_iload (pc := 44) (z := z252) dX3_sortWithoutSign_44 rfl ?_
          refine mr_iconst (pc := 46) (z := 1) dX3_sortWithoutSign_46 ?_
          refine mr_isub (pc := 47) (x := z252) (y := 1) dX3_sortWithoutSign_47 ?_
          refine lk_201 (pc := 48) dX3_sortWithoutSign_48 hA1 (rIx (n := 20) (rSub (e := 0) (f := 18) h282 (rR (x := 1)) rfl) rfl) q285 ?_
          refine ss_201 (pc := 49) dX3_sortWithoutSign_49 hA1 T256 (rIx (n := 20) h282 rfl) h286 fun μ304 u305 T306 => ?_
          refine mr_iinc (pc := 50) (lv' := [(5, iv (z252 + (-1))), (0, .ref a1), (1, iv p2), (2, iv p3), (3, iv z111), (4, iv z177)]) dX3_sortWithoutSign_50 rfl (by decide) rfl ?_
          refine sv_goto (pc := 53) (tgt := 17) dX3_sortWithoutSign_53 (by decide) ?_
          refine mr_lvS (lv' := [(0, .ref a1), (1, iv p2), (2, iv p3), (3, iv z111), (4, iv z177), (5, iv (z252 + (-1)))]) (List.forall_mem_cons.mpr ⟨rfl, List.forall_mem_cons.mpr ⟨rfl, List.forall_mem_cons.mpr ⟨rfl, List.forall_mem_cons.mpr ⟨rfl, List.forall_mem_cons.mpr ⟨rfl, List.forall_mem_cons.mpr ⟨rfl, fun _ h => absurd h List.not_mem_nil⟩⟩⟩⟩⟩⟩) ?_
          exact ih261 (z252 + (-1)) μ304 T306 (mF.up (mF.call mF.refl F257 rfl) hA1 u305 rfl) (rW (c := 0) (d := 19) (rAdd (e := 0) (f := 18) h282 (rR (x := (-1))) rfl) rfl) (vc_X3_sortWithoutSign_W_10 (nS h259) h278 h283 h282) (((((((W260 z252 μ253 rfl h255 T256 F257).2 h278) z284 q285 h286) z287 q288) z290 q291).2 h298) μ304 u305 T306)
      refine mr_lvS (lv' := [(0, .ref a1), (1, iv p2), (2, iv p3), (3, iv z111), (4, iv z177), (5, iv z111)]) (List.forall_mem_cons.mpr ⟨rfl, List.forall_mem_cons.mpr ⟨rfl, List.forall_mem_cons.mpr ⟨rfl, List.forall_mem_cons.mpr ⟨rfl, List.forall_mem_cons.mpr ⟨rfl, List.forall_mem_cons.mpr ⟨rfl, fun _ h => absurd h List.not_mem_nil⟩⟩⟩⟩⟩⟩) ?_
      exact L254 21 z111 μ112 T115 mF.refl (rW (c := 0) (d := 19) h175 rfl) (vc_X3_sortWithoutSign_W_11 h174 h176 h175) (((W119 z111 μ112 rfl h114 T115 F116).2 h174) z177 q178 h179)
  refine mr_lvS (lv' := [(0, .ref a1), (1, iv p2), (2, iv p3), (3, iv (p2 + 1))]) (List.forall_mem_cons.mpr ⟨rfl, List.forall_mem_cons.mpr ⟨rfl, List.forall_mem_cons.mpr ⟨rfl, List.forall_mem_cons.mpr ⟨rfl, fun _ h => absurd h List.not_mem_nil⟩⟩⟩⟩) ?_
  exact L113 22 (p2 + 1) μ hT mF.refl (rAdd (e := 1) (f := 21) hp2 (rR (x := 1)) rfl) (vc_X3_sortWithoutSign_W_12 hp2) hQ
def WJ_X3_readWay_W_3 (w : mW) (rec1 : (Int × Int × mM) → Prop) (z221 : Int) (z220 : Int) (z244 : Int) (μ546 : mM) (μ576 : mM) : Prop := mT w μ576 → mF [201999] w μ546 μ576 → rec1 ((z221 + (2 + (4 * z244))), (z220 + z244), μ576)
def WL_X3_readWay_W_2 (w : mW) (rec1 : (Int × Int × mM) → Prop) (z221 : Int) (z220 : Int) (μ222 : mM) (z241 : Int) (z244 : Int) (rec2 : (Int × mM) → Prop) (s : (Int × mM)) : Prop := ∀ z545 : Int, ∀ μ546 : mM, s = (z545, μ546) → (0 ≤ z545 ∧ z545 ≤ 20) → mT w μ546 → mF [201999] w μ222 μ546 → ((z244 ≤ z545) → ((¬ z241 = 1) → (WJ_X3_readWay_W_3 w rec1 z221 z220 z244 μ546) μ546) ∧ ((z241 = 1) → WP_X3_sortWithoutSign_W w μ546 (81 + 1) z220 (z220 + z244) (fun μ587 => mT w μ587 → mF [201999] w μ546 μ587 → (WJ_X3_readWay_W_3 w rec1 z221 z220 z244 μ546) μ587))) ∧ ((z545 < z244) → WP_X3_fourAt_W w μ546 ((z221 + 2) + (4 * z545)) (fun z597 _ => ((-2147483648) ≤ z597 ∧ z597 ≤ 2147483647) → ∀ μ598 : mM, mU μ546 (81 + 1) ((z220 + z545).toNat) z597 μ598 → mT w μ598 → rec2 ((z545 + 1), μ598)))
def WL_X3_readWay_W_1 (w : mW) (μ : mM) (p1 : Int) (p2 : Int) (Q : Int → mM → Prop) (rec1 : (Int × Int × mM) → Prop) (s : (Int × Int × mM)) : Prop := ∀ z221 : Int, ∀ z220 : Int, ∀ μ222 : mM, s = (z221, z220, μ222) → (0 ≤ z221 ∧ z221 ≤ 1000) → (0 ≤ z220 ∧ z220 ≤ 20) → mT w μ222 → mF [201999] w μ μ222 → (((p1 + p2) ≤ z221) → ∀ μ234 : mM, mU μ222 81 (7) z220 μ234 → mT w μ234 → Q (1 : Int) μ234) ∧ ((z221 < (p1 + p2)) → (((z221 + 2) ≤ (p1 + p2)) → ∀ b238 : Nat, μ222 76 4 = (b238 : Int) → mAt w b238 1 → ∀ z241 : Int, μ222 b238 (z221.toNat) = z241 → (0 ≤ z241 ∧ z241 ≤ 255) → ∀ z244 : Int, μ222 b238 ((z221 + 1).toNat) = z244 → (0 ≤ z244 ∧ z244 ≤ 255) → ((z241 < 1) → Q (0 : Int) μ222) ∧ ((1 ≤ z241) → ((2 < z241) → Q (0 : Int) μ222) ∧ ((z241 ≤ 2) → ((1 ≤ z244) → (((p1 + p2) < ((z221 + 2) + (4 * z244))) → Q (0 : Int) μ222) ∧ ((((z221 + 2) + (4 * z244)) ≤ (p1 + p2)) → (((z220 + z244) ≤ 20) → loopF (WL_X3_readWay_W_2 w rec1 z221 z220 μ222 z241 z244) False 22 ((0 : Int), μ222)) ∧ ((20 < (z220 + z244)) → Q (0 : Int) μ222))) ∧ ((z244 < 1) → Q (0 : Int) μ222)))) ∧ (((p1 + p2) < (z221 + 2)) → Q (0 : Int) μ222))
def WP_X3_readWay_W (w : mW) (μ : mM) (p1 : Int) (p2 : Int) (Q : Int → mM → Prop) : Prop := loopF (WL_X3_readWay_W_1 w μ p1 p2 Q) False 1002 (p1, (0 : Int), μ)
theorem vc_X3_readWay_W_2 {p1 p2 z221 : Int} (h0 : z221 < (p1 + p2)) (h1 : (z221 + 2) ≤ (p1 + p2)) (h2 : p1 + p2 ≤ 1000) (h3 : 0 ≤ p1 ∧ p1 ≤ 1000) (h4 : 0 ≤ p2 ∧ p2 ≤ 1000) (h5 : 0 ≤ z221 ∧ z221 ≤ 1000) : 0 ≤ z221 ∧ z221 < 1000 := by omega
theorem vc_X3_readWay_W_3 {p1 p2 z221 : Int} (h0 : z221 < (p1 + p2)) (h1 : (z221 + 2) ≤ (p1 + p2)) (h2 : p1 + p2 ≤ 1000) (h3 : 0 ≤ p1 ∧ p1 ≤ 1000) (h4 : 0 ≤ p2 ∧ p2 ≤ 1000) (h5 : 0 ≤ z221 ∧ z221 ≤ 1000) : 0 ≤ (z221 + 1) ∧ (z221 + 1) < 1000 := by omega
theorem vc_X3_readWay_W_4 {z241 : Int} (h0 : z241 < 1) (h1 : 0 ≤ z241 ∧ z241 ≤ 255) : 0 ≤ z241 ∧ z241 ≤ 0 := by omega
theorem vc_X3_readWay_W_5 {z241 : Int} (h0 : 1 ≤ z241) (h1 : 0 ≤ z241 ∧ z241 ≤ 255) : 1 ≤ z241 ∧ z241 ≤ 255 := by omega
theorem vc_X3_readWay_W_6 {z241 : Int} (h0 : 2 < z241) (h1 : 1 ≤ z241) (h2 : 1 ≤ z241 ∧ z241 ≤ 255) : 3 ≤ z241 ∧ z241 ≤ 255 := by omega
theorem vc_X3_readWay_W_7 {z241 : Int} (h0 : z241 ≤ 2) (h1 : 1 ≤ z241) (h2 : 1 ≤ z241 ∧ z241 ≤ 255) : 1 ≤ z241 ∧ z241 ≤ 2 := by omega
theorem vc_X3_readWay_W_9 {p1 p2 z220 z221 z244 : Int} (h0 : (z220 + z244) ≤ 20) (h1 : 1 ≤ z244) (h2 : ((z221 + 2) + (4 * z244)) ≤ (p1 + p2)) (h3 : 0 ≤ p1 ∧ p1 ≤ 1000) (h4 : 0 ≤ p2 ∧ p2 ≤ 1000) (h5 : 0 ≤ z220 ∧ z220 ≤ 20) (h6 : 0 ≤ z221 ∧ z221 ≤ 1000) (h7 : 1 ≤ z244 ∧ z244 ≤ 255) : 0 ≤ z220 ∧ z220 ≤ 19 := by omega
theorem vc_X3_readWay_W_10 {p1 p2 z220 z221 z244 : Int} (h0 : (z220 + z244) ≤ 20) (h1 : 1 ≤ z244) (h2 : ((z221 + 2) + (4 * z244)) ≤ (p1 + p2)) (h3 : 0 ≤ p1 ∧ p1 ≤ 1000) (h4 : 0 ≤ p2 ∧ p2 ≤ 1000) (h5 : 0 ≤ z220 ∧ z220 ≤ 19) (h6 : 0 ≤ z221 ∧ z221 ≤ 1000) (h7 : 1 ≤ z244 ∧ z244 ≤ 255) : 1 ≤ z244 ∧ z244 ≤ 20 := by omega
theorem vc_X3_readWay_W_12 {p1 p2 z220 z221 z244 z545 : Int} (h0 : z244 ≤ z545) (h1 : 1 ≤ z244) (h2 : ((z221 + 2) + (4 * z244)) ≤ (p1 + p2)) (h3 : (z220 + z244) ≤ 20) (h4 : 0 ≤ p1 ∧ p1 ≤ 1000) (h5 : 0 ≤ p2 ∧ p2 ≤ 1000) (h6 : 0 ≤ z220 ∧ z220 ≤ 19) (h7 : 0 ≤ z221 ∧ z221 ≤ 1000) (h8 : 1 ≤ z244 ∧ z244 ≤ 20) (h9 : 0 ≤ z545 ∧ z545 ≤ 20) : 1 ≤ z545 ∧ z545 ≤ 20 := by omega
theorem vc_X3_readWay_W_13 {p1 p2 z220 z221 z244 z545 : Int} (h0 : z221 < (p1 + p2)) (h1 : (z221 + 2) ≤ (p1 + p2)) (h2 : 1 ≤ z244) (h3 : ((z221 + 2) + (4 * z244)) ≤ (p1 + p2)) (h4 : (z220 + z244) ≤ 20) (h5 : z244 ≤ z545) (h6 : p1 + p2 ≤ 1000) (h7 : 0 ≤ p1 ∧ p1 ≤ 1000) (h8 : 0 ≤ p2 ∧ p2 ≤ 1000) (h9 : 0 ≤ z220 ∧ z220 ≤ 19) (h10 : 0 ≤ z221 ∧ z221 ≤ 1000) (h11 : 1 ≤ z244 ∧ z244 ≤ 20) (h12 : 1 ≤ z545 ∧ z545 ≤ 20) : 0 ≤ (z221 + (2 + (4 * z244))) ∧ (z221 + (2 + (4 * z244))) ≤ 1000 := by omega
theorem vc_X3_readWay_W_14 {p1 p2 z220 z221 z244 z545 : Int} (h0 : 1 ≤ z244) (h1 : ((z221 + 2) + (4 * z244)) ≤ (p1 + p2)) (h2 : (z220 + z244) ≤ 20) (h3 : z244 ≤ z545) (h4 : p1 + p2 ≤ 1000) (h5 : z221 < (p1 + p2)) (h6 : (z221 + 2) ≤ (p1 + p2)) (h7 : 0 ≤ p1 ∧ p1 ≤ 1000) (h8 : 0 ≤ p2 ∧ p2 ≤ 1000) (h9 : 0 ≤ z220 ∧ z220 ≤ 19) (h10 : 0 ≤ z221 ∧ z221 ≤ 1000) (h11 : 1 ≤ z244 ∧ z244 ≤ 20) (h12 : 1 ≤ z545 ∧ z545 ≤ 20) : 0 ≤ (z220 + z244) ∧ (z220 + z244) ≤ 20 := by omega
theorem vc_X3_readWay_W_15 {N p1 p2 z220 z221 z244 z545 : Int} (h0 : (1001 - z221) < N + 1) (h1 : z221 < (p1 + p2)) (h2 : (z221 + 2) ≤ (p1 + p2)) (h3 : 1 ≤ z244) (h4 : ((z221 + 2) + (4 * z244)) ≤ (p1 + p2)) (h5 : (z220 + z244) ≤ 20) (h6 : z244 ≤ z545) (h7 : p1 + p2 ≤ 1000) (h8 : 0 ≤ p1 ∧ p1 ≤ 1000) (h9 : 0 ≤ p2 ∧ p2 ≤ 1000) (h10 : 0 ≤ z220 ∧ z220 ≤ 19) (h11 : 0 ≤ z221 ∧ z221 ≤ 1000) (h12 : 1 ≤ z244 ∧ z244 ≤ 20) (h13 : 1 ≤ z545 ∧ z545 ≤ 20) : (1001 - (z221 + (2 + (4 * z244)))) < N := by omega
theorem vc_X3_readWay_W_16 {z241 : Int} (h0 : ¬ z241 = 1) (h1 : 1 ≤ z241) (h2 : z241 ≤ 2) (h3 : 1 ≤ z241 ∧ z241 ≤ 2) : 2 ≤ z241 ∧ z241 ≤ 2 := by omega
theorem vc_X3_readWay_W_17 {z241 : Int} (h0 : z241 = 1) (h1 : 1 ≤ z241) (h2 : z241 ≤ 2) (h3 : 1 ≤ z241 ∧ z241 ≤ 2) : 1 ≤ z241 ∧ z241 ≤ 1 := by omega
theorem vc_X3_readWay_W_18 {p1 p2 z220 z221 z244 z545 : Int} (h0 : z545 < z244) (h1 : 1 ≤ z244) (h2 : ((z221 + 2) + (4 * z244)) ≤ (p1 + p2)) (h3 : (z220 + z244) ≤ 20) (h4 : 0 ≤ p1 ∧ p1 ≤ 1000) (h5 : 0 ≤ p2 ∧ p2 ≤ 1000) (h6 : 0 ≤ z220 ∧ z220 ≤ 19) (h7 : 0 ≤ z221 ∧ z221 ≤ 1000) (h8 : 1 ≤ z244 ∧ z244 ≤ 20) (h9 : 0 ≤ z545 ∧ z545 ≤ 20) : 0 ≤ z545 ∧ z545 ≤ 19 := by omega
theorem vc_X3_readWay_W_19 {p1 p2 z220 z221 z244 z545 : Int} (h0 : z221 < (p1 + p2)) (h1 : (z221 + 2) ≤ (p1 + p2)) (h2 : ((z221 + 2) + (4 * z244)) ≤ (p1 + p2)) (h3 : z545 < z244) (h4 : p1 + p2 ≤ 1000) (h5 : 1 ≤ z244) (h6 : (z220 + z244) ≤ 20) (h7 : 0 ≤ p1 ∧ p1 ≤ 1000) (h8 : 0 ≤ p2 ∧ p2 ≤ 1000) (h9 : 0 ≤ z220 ∧ z220 ≤ 19) (h10 : 0 ≤ z221 ∧ z221 ≤ 1000) (h11 : 1 ≤ z244 ∧ z244 ≤ 20) (h12 : 0 ≤ z545 ∧ z545 ≤ 19) : 0 ≤ ((z221 + 2) + (4 * z545)) ∧ ((z221 + 2) + (4 * z545)) ≤ 996 := by omega
theorem vc_X3_readWay_W_20 {p1 p2 z220 z221 z244 z545 : Int} (h0 : (z220 + z244) ≤ 20) (h1 : z545 < z244) (h2 : 1 ≤ z244) (h3 : ((z221 + 2) + (4 * z244)) ≤ (p1 + p2)) (h4 : 0 ≤ p1 ∧ p1 ≤ 1000) (h5 : 0 ≤ p2 ∧ p2 ≤ 1000) (h6 : 0 ≤ z220 ∧ z220 ≤ 19) (h7 : 0 ≤ z221 ∧ z221 ≤ 1000) (h8 : 1 ≤ z244 ∧ z244 ≤ 20) (h9 : 0 ≤ z545 ∧ z545 ≤ 19) : 0 ≤ (z220 + z545) ∧ (z220 + z545) < 20 := by omega
theorem vc_X3_readWay_W_21 {N p1 p2 z220 z221 z244 z545 : Int} (h0 : (21 - z545) < N + 1) (h1 : z545 < z244) (h2 : 1 ≤ z244) (h3 : ((z221 + 2) + (4 * z244)) ≤ (p1 + p2)) (h4 : (z220 + z244) ≤ 20) (h5 : 0 ≤ p1 ∧ p1 ≤ 1000) (h6 : 0 ≤ p2 ∧ p2 ≤ 1000) (h7 : 0 ≤ z220 ∧ z220 ≤ 19) (h8 : 0 ≤ z221 ∧ z221 ≤ 1000) (h9 : 1 ≤ z244 ∧ z244 ≤ 20) (h10 : 0 ≤ z545 ∧ z545 ≤ 19) : (21 - (z545 + 1)) < N := by omega
theorem vc_X3_readWay_W_24 {p1 p2 : Int} (h0 : p1 + p2 ≤ 1000) (h1 : 0 ≤ p1 ∧ p1 ≤ 1000) (h2 : 0 ≤ p2 ∧ p2 ≤ 1000) : (1001 - p1) < ((1002 : Nat) : Int) := by omega
set_option maxRecDepth 4000 in
set_option maxHeartbeats 4000000 in
theorem c_X3_readWay_W {l : Launch} {D : va_G} {c : Nat → ClassId} {H0 : Heap} {sa : Nat × Nat × (Nat → Int32)} {w : mW} {μ : mM} (hw : mWF w) (hT : mT w μ) {p1 : Int} (hp1 : 0 ≤ p1 ∧ p1 ≤ 1000) {p2 : Int} (hp2 : 0 ≤ p2 ∧ p2 ≤ 1000) (hq0 : p1 + p2 ≤ 1000) (hIOC : OC μ) {Q : Int → mM → Prop} (hQ : WP_X3_readWay_W w μ p1 p2 Q) : sC (gG l D c H0 sa) mX3_readWay 3 0 0 [.ref 76, iv p1, iv p2] (mk w μ) (qI w [200007, 201999] μ (fun z μ1 => (0 ≤ z ∧ z ≤ 1) ∧ Q z μ1 ∧ True)) := by
  refine sC.of rfl (by decide) (le_t rfl) ?_
  refine mr_lvE (lv' := [(0, .ref 76), (1, iv p1), (2, iv p2)]) rfl ?_
  refine mr_iload_n (pc := 0) (z := p1) dX3_readWay_0 rfl rfl ?_
  refine mr_iload_n (pc := 1) (z := p2) dX3_readWay_1 rfl rfl ?_
  refine mr_iadd (pc := 2) (x := p1) (y := p2) dX3_readWay_2 ?_
  refine mr_istore_n (pc := 3) (lv' := [(3, iv (p1 + p2)), (0, .ref 76), (1, iv p1), (2, iv p2)]) dX3_readWay_3 rfl (by decide) rfl ?_
  refine mr_iload_n (pc := 4) (z := p1) dX3_readWay_4 rfl rfl ?_
  refine mr_istore (pc := 5) (lv' := [(4, iv p1), (3, iv (p1 + p2)), (0, .ref 76), (1, iv p1), (2, iv p2)]) dX3_readWay_5 (by decide) rfl ?_
  refine mr_iconst (pc := 7) (z := 0) dX3_readWay_7 ?_
  refine mr_istore (pc := 8) (lv' := [(5, iv 0), (4, iv p1), (3, iv (p1 + p2)), (0, .ref 76), (1, iv p1), (2, iv p2)]) dX3_readWay_8 (by decide) rfl ?_
  have L223 : ∀ (nL223 : Nat) (z221 z220 : Int) (μ222 : mM), mT w μ222 → mF [201999] w μ μ222 → (0 ≤ z221 ∧ z221 ≤ 1000) → (0 ≤ z220 ∧ z220 ≤ 20) → OC μ222 → (1001 - z221) < (nL223 : Int) → loopF (WL_X3_readWay_W_1 w μ p1 p2 Q) False nL223 (z221, z220, μ222) → sV (gG l D c H0 sa) mX3_readWay (sRm 3 0 0) (sZ (gG l D c H0 sa) 0 0 (qI w [200007, 201999] μ (fun z μ1 => (0 ≤ z ∧ z ≤ 1) ∧ Q z μ1 ∧ True))) 10 [(0, .ref 76), (3, iv (p1 + p2)), (4, iv z221), (5, iv z220)] [] (mk w μ222) 0 0 := by
    intro nL223
    induction nL223 with
    | zero => intro z221 z220 μ222 T226 F227 h224 h225 I229 h230 W231; exact ((vc_X1_doActs_W12_1 h230 h224)).elim
    | succ nL223 ih232 =>
      intro z221 z220 μ222 T226 F227 h224 h225 I229 h230 W231
      refine mr_iload (pc := 10) (z := z221) dX3_readWay_10 rfl ?_
      refine mr_iload_n (pc := 12) (z := (p1 + p2)) dX3_readWay_12 rfl rfl ?_
      refine mr_icmp_ge (pc := 13) (tgt := 177) dX3_readWay_13 (by decide) (r32 h224 rfl) (r32 (rAdd (e := 0) (f := 2000) hp1 hp2 rfl) rfl) (fun h233 => ?_) (fun h233 => ?_)
      · refine sv_aload_n (pc := 177) dX3_readWay_177 rfl rfl ?_
        refine gf_X3_9 (pc := 178) dX3_readWay_178 wF_X3_28 (A_76 hw) T226 ?_
        refine mr_iload (pc := 181) (z := z220) dX3_readWay_181 rfl ?_
        refine pf_X7_7 (pc := 183) dX3_readWay_183 wF_X3_147 (A_81 hw) T226 h225 fun μ234 u235 T236 => ?_
        refine mr_iconst (pc := 186) (z := 1) dX3_readWay_186 ?_
        exact mr_zret dX3_readWay_187 rfl (rW (c := 0) (d := 1) (rR (x := 1)) rfl) (le_t rfl) (le_t rfl) T236 (mF.up (mF.call mF.refl F227 rfl) (A_81 hw) u235 rfl) ⟨(rW (c := 0) (d := 1) (rR (x := 1)) rfl), (((W231 z221 z220 μ222 rfl h224 h225 T226 F227).1 h233) μ234 u235 T236), trivial⟩
      refine mr_iload (pc := 16) (z := z221) dX3_readWay_16 rfl ?_
      refine mr_iconst (pc := 18) (z := 2) dX3_readWay_18 ?_
      refine mr_iadd (pc := 19) (x := z221) (y := 2) dX3_readWay_19 ?_
      refine mr_iload_n (pc := 20) (z := (p1 + p2)) dX3_readWay_20 rfl rfl ?_
      refine mr_icmp_le (pc := 21) (tgt := 26) dX3_readWay_21 (by decide) (r32 (rAdd (e := 2) (f := 1002) h224 (rR (x := 2)) rfl) rfl) (r32 (rAdd (e := 0) (f := 2000) hp1 hp2 rfl) rfl) (fun h237 => ?_) (fun h237 => ?_)
      · refine sv_aload_n (pc := 26) dX3_readWay_26 rfl rfl ?_
        refine gf_X3_4 (pc := 27) dX3_readWay_27 wF_X3_41 (A_76 hw) T226 I229 fun b238 q239 A240 => ?_
        refine mr_iload (pc := 30) (z := z221) dX3_readWay_30 rfl ?_
        refine la_1 (pc := 32) dX3_readWay_32 A240 T226 (vc_X3_readWay_W_2 h233 h237 hq0 hp1 hp2 h224) fun z241 q242 h243 => ?_
        refine mr_istore (pc := 33) (lv' := [(6, iv z241), (0, .ref 76), (3, iv (p1 + p2)), (4, iv z221), (5, iv z220)]) dX3_readWay_33 (by decide) rfl ?_
        refine sv_aload_n (pc := 35) dX3_readWay_35 rfl rfl ?_
        refine gk_X3_4 (pc := 36) dX3_readWay_36 wF_X3_41 (A_76 hw) q239 ?_
        refine mr_iload (pc := 39) (z := z221) dX3_readWay_39 rfl ?_
        refine mr_iconst (pc := 41) (z := 1) dX3_readWay_41 ?_
        refine mr_iadd (pc := 42) (x := z221) (y := 1) dX3_readWay_42 ?_
        refine la_1 (pc := 43) dX3_readWay_43 A240 T226 (vc_X3_readWay_W_3 h233 h237 hq0 hp1 hp2 h224) fun z244 q245 h246 => ?_
        refine mr_istore (pc := 44) (lv' := [(7, iv z244), (6, iv z241), (0, .ref 76), (3, iv (p1 + p2)), (4, iv z221), (5, iv z220)]) dX3_readWay_44 (by decide) rfl ?_
        refine mr_iload (pc := 46) (z := z241) dX3_readWay_46 rfl ?_
        refine mr_iconst (pc := 48) (z := 1) dX3_readWay_48 ?_
        refine mr_icmp_lt (pc := 49) (tgt := 64) dX3_readWay_49 (by decide) (r32 h243 rfl) (r32 (rR (x := 1)) rfl) (fun h247 => ?_) (fun h247 => ?_)
        · have h248 : 0 ≤ z241 ∧ z241 ≤ 0 := (vc_X3_readWay_W_4 h247 h243)
          refine mr_iconst (pc := 64) (z := 0) dX3_readWay_64 ?_
          exact mr_zret dX3_readWay_65 rfl (rW (c := 0) (d := 1) (rR (x := 0)) rfl) (le_t rfl) (le_t rfl) T226 (mF.call mF.refl F227 rfl) ⟨(rW (c := 0) (d := 1) (rR (x := 0)) rfl), (((((((W231 z221 z220 μ222 rfl h224 h225 T226 F227).2 h233).1 h237) b238 q239 A240) z241 q242 h243) z244 q245 h246).1 h247), trivial⟩
        have h249 : 1 ≤ z241 ∧ z241 ≤ 255 := (vc_X3_readWay_W_5 h247 h243)
        refine mr_iload (pc := 52) (z := z241) dX3_readWay_52 rfl ?_
        refine mr_iconst (pc := 54) (z := 2) dX3_readWay_54 ?_
        refine mr_icmp_gt (pc := 55) (tgt := 64) dX3_readWay_55 (by decide) (r32 h249 rfl) (r32 (rR (x := 2)) rfl) (fun h250 => ?_) (fun h250 => ?_)
        · have h251 : 3 ≤ z241 ∧ z241 ≤ 255 := (vc_X3_readWay_W_6 h250 h247 h249)
          refine mr_iconst (pc := 64) (z := 0) dX3_readWay_64 ?_
          exact mr_zret dX3_readWay_65 rfl (rW (c := 0) (d := 1) (rR (x := 0)) rfl) (le_t rfl) (le_t rfl) T226 (mF.call mF.refl F227 rfl) ⟨(rW (c := 0) (d := 1) (rR (x := 0)) rfl), ((((((((W231 z221 z220 μ222 rfl h224 h225 T226 F227).2 h233).1 h237) b238 q239 A240) z241 q242 h243) z244 q245 h246).2 h247).1 h250), trivial⟩
        have h252 : 1 ≤ z241 ∧ z241 ≤ 2 := (vc_X3_readWay_W_7 h250 h247 h249)
        refine mr_iload (pc := 58) (z := z244) dX3_readWay_58 rfl ?_
        refine mr_iconst (pc := 60) (z := 1) dX3_readWay_60 ?_
        refine mr_icmp_ge (pc := 61) (tgt := 66) dX3_readWay_61 (by decide) (r32 h246 rfl) (r32 (rR (x := 1)) rfl) (fun h253 => ?_) (fun h253 => ?_)
        · have h254 : 1 ≤ z244 ∧ z244 ≤ 255 := (vc_X3_readWay_W_5 h253 h246)
          refine mr_iload (pc := 66) (z := z221) dX3_readWay_66 rfl ?_
          refine mr_iconst (pc := 68) (z := 2) dX3_readWay_68 ?_
          refine mr_iadd (pc := 69) (x := z221) (y := 2) dX3_readWay_69 ?_
          refine mr_iconst (pc := 70) (z := 4) dX3_readWay_70 ?_
          refine mr_iload (pc := 71) (z := z244) dX3_readWay_71 rfl ?_
          refine mr_imul (pc := 73) (x := 4) (y := z244) dX3_readWay_73 ?_
          refine mr_iadd (pc := 74) (x := (z221 + 2)) (y := (4 * z244)) dX3_readWay_74 ?_
          refine mr_iload_n (pc := 75) (z := (p1 + p2)) dX3_readWay_75 rfl rfl ?_
          refine mr_icmp_gt (pc := 76) (tgt := 89) dX3_readWay_76 (by decide) (r32 (rAdd (e := 6) (f := 2022) (rAdd (e := 2) (f := 1002) h224 (rR (x := 2)) rfl) (rMulL (n := 4) (e := 4) (f := 1020) h254 rfl) rfl) rfl) (r32 (rAdd (e := 0) (f := 2000) hp1 hp2 rfl) rfl) (fun h255 => ?_) (fun h255 => ?_)
          · refine mr_iconst (pc := 89) (z := 0) dX3_readWay_89 ?_
            exact mr_zret dX3_readWay_90 rfl (rW (c := 0) (d := 1) (rR (x := 0)) rfl) (le_t rfl) (le_t rfl) T226 (mF.call mF.refl F227 rfl) ⟨(rW (c := 0) (d := 1) (rR (x := 0)) rfl), ((((((((((W231 z221 z220 μ222 rfl h224 h225 T226 F227).2 h233).1 h237) b238 q239 A240) z241 q242 h243) z244 q245 h246).2 h247).2 h250).1 h253).1 h255), trivial⟩
          refine mr_iload (pc := 79) (z := z220) dX3_readWay_79 rfl ?_
          refine mr_iload (pc := 81) (z := z244) dX3_readWay_81 rfl ?_
          refine mr_iadd (pc := 83) (x := z220) (y := z244) dX3_readWay_83 ?_
          refine mr_bipush (pc := 84) (z := 20) dX3_readWay_84 (by decide) ?_
          refine mr_icmp_le (pc := 86) (tgt := 91) dX3_readWay_86 (by decide) (r32 (rAdd (e := 1) (f := 275) h225 h254 rfl) rfl) (r32 (rR (x := 20)) rfl) (fun h256 => ?_) (fun h256 => ?_)
          · have h257 : 0 ≤ z220 ∧ z220 ≤ 19 := (vc_X3_readWay_W_9 h256 h253 h255 hp1 hp2 h225 h224 h254)
            have h258 : 1 ≤ z244 ∧ z244 ≤ 20 := (vc_X3_readWay_W_10 h256 h253 h255 hp1 hp2 h257 h224 h254)
            refine mr_iconst (pc := 91) (z := 0) dX3_readWay_91 ?_
            refine mr_istore (pc := 92) (lv' := [(8, iv 0), (7, iv z244), (6, iv z241), (0, .ref 76), (3, iv (p1 + p2)), (4, iv z221), (5, iv z220)]) dX3_readWay_92 (by decide) rfl ?_
            have L547 : ∀ (nL547 : Nat) (z545 : Int) (μ546 : mM), mT w μ546 → mF [201999] w μ222 μ546 → (0 ≤ z545 ∧ z545 ≤ 20) → OC μ546 → (21 - z545) < (nL547 : Int) → loopF (WL_X3_readWay_W_2 w (loopF (WL_X3_readWay_W_1 w μ p1 p2 Q) False nL223) z221 z220 μ222 z241 z244) False nL547 (z545, μ546) → sV (gG l D c H0 sa) mX3_readWay (sRm 3 0 0) (sZ (gG l D c H0 sa) 0 0 (qI w [200007, 201999] μ (fun z μ1 => (0 ≤ z ∧ z ≤ 1) ∧ Q z μ1 ∧ True))) 94 [(0, .ref 76), (3, iv (p1 + p2)), (4, iv z221), (5, iv z220), (6, iv z241), (7, iv z244), (8, iv z545)] [] (mk w μ546) 0 0 := by
              intro nL547
              induction nL547 with
              | zero => intro z545 μ546 T549 F550 h548 I552 h553 W554; exact ((vc_X12_tieOf_1 h553 h548)).elim
              | succ nL547 ih555 =>
                intro z545 μ546 T549 F550 h548 I552 h553 W554
                refine mr_iload (pc := 94) (z := z545) dX3_readWay_94 rfl ?_
                refine mr_iload (pc := 96) (z := z244) dX3_readWay_96 rfl ?_
                refine mr_icmp_ge (pc := 98) (tgt := 133) dX3_readWay_98 (by decide) (r32 h548 rfl) (r32 h258 rfl) (fun h567 => ?_) (fun h567 => ?_)
                · have h568 : 1 ≤ z545 ∧ z545 ≤ 20 := (vc_X3_readWay_W_12 h567 h253 h255 h256 hp1 hp2 h257 h224 h258 h548)
                  refine mr_iload (pc := 133) (z := z241) dX3_readWay_133 rfl ?_
                  refine mr_iconst (pc := 135) (z := 1) dX3_readWay_135 ?_
                  have J581 : ∀ (μ576 : mM), (mT w μ576) → (mF [201999] w μ546 μ576) → (OC μ576) → ((WJ_X3_readWay_W_3 w (loopF (WL_X3_readWay_W_1 w μ p1 p2 Q) False nL223) z221 z220 z244 μ546) μ576) → sV (gG l D c H0 sa) mX3_readWay (sRm 3 0 0) (sZ (gG l D c H0 sa) 0 0 (qI w [200007, 201999] μ (fun z μ1 => (0 ≤ z ∧ z ≤ 1) ∧ Q z μ1 ∧ True))) 156 [(0, .ref 76), (3, iv (p1 + p2)), (4, iv z221), (5, iv z220), (7, iv z244)] [] (mk w μ576) 0 0 := by
                    intro μ576 T577 F578 I580 W582
                    refine mr_iload (pc := 156) (z := z220) dX3_readWay_156 rfl ?_
                    refine mr_iload (pc := 158) (z := z244) dX3_readWay_158 rfl ?_
                    refine mr_iadd (pc := 160) (x := z220) (y := z244) dX3_readWay_160 ?_
                    refine mr_istore (pc := 161) (lv' := [(5, iv (z220 + z244)), (0, .ref 76), (3, iv (p1 + p2)), (4, iv z221), (7, iv z244)]) dX3_readWay_161 (by decide) rfl ?_
                    refine mr_iload (pc := 163) (z := z221) dX3_readWay_163 rfl ?_
                    refine mr_iconst (pc := 165) (z := 2) dX3_readWay_165 ?_
                    refine mr_iconst (pc := 166) (z := 4) dX3_readWay_166 ?_
                    refine mr_iload (pc := 167) (z := z244) dX3_readWay_167 rfl ?_
                    refine mr_imul (pc := 169) (x := 4) (y := z244) dX3_readWay_169 ?_
                    refine mr_iadd (pc := 170) (x := 2) (y := (4 * z244)) dX3_readWay_170 ?_
                    refine mr_iadd (pc := 171) (x := z221) (y := (2 + (4 * z244))) dX3_readWay_171 ?_
                    refine mr_istore (pc := 172) (lv' := [(4, iv (z221 + (2 + (4 * z244)))), (5, iv (z220 + z244)), (0, .ref 76), (3, iv (p1 + p2)), (7, iv z244)]) dX3_readWay_172 (by decide) rfl ?_
                    refine sv_goto (pc := 174) (tgt := 10) dX3_readWay_174 (by decide) ?_
                    refine mr_lvS (lv' := [(0, .ref 76), (3, iv (p1 + p2)), (4, iv (z221 + (2 + (4 * z244)))), (5, iv (z220 + z244))]) (List.forall_mem_cons.mpr ⟨rfl, List.forall_mem_cons.mpr ⟨rfl, List.forall_mem_cons.mpr ⟨rfl, List.forall_mem_cons.mpr ⟨rfl, fun _ h => absurd h List.not_mem_nil⟩⟩⟩⟩) ?_
                    exact ih232 (z221 + (2 + (4 * z244))) (z220 + z244) μ576 T577 (mF.call (mF.call (mF.call mF.refl F227 rfl) F550 rfl) F578 rfl) (vc_X3_readWay_W_13 h233 h237 h253 h255 h256 h567 hq0 hp1 hp2 h257 h224 h258 h568) (vc_X3_readWay_W_14 h253 h255 h256 h567 hq0 h233 h237 hp1 hp2 h257 h224 h258 h568) I580 (vc_X3_readWay_W_15 (nS h230) h233 h237 h253 h255 h256 h567 hq0 hp1 hp2 h257 h224 h258 h568) (W582 T577 F578)
                  refine mr_icmp_ne (pc := 136) (tgt := 156) dX3_readWay_136 (by decide) (r32 h252 rfl) (r32 (rR (x := 1)) rfl) (fun h583 => ?_) (fun h583 => ?_)
                  · have h584 : 2 ≤ z241 ∧ z241 ≤ 2 := (vc_X3_readWay_W_16 h583 h247 h250 h252)
                    refine mr_lvS (lv' := [(0, .ref 76), (3, iv (p1 + p2)), (4, iv z221), (5, iv z220), (7, iv z244)]) (List.forall_mem_cons.mpr ⟨rfl, List.forall_mem_cons.mpr ⟨rfl, List.forall_mem_cons.mpr ⟨rfl, List.forall_mem_cons.mpr ⟨rfl, List.forall_mem_cons.mpr ⟨rfl, fun _ h => absurd h List.not_mem_nil⟩⟩⟩⟩⟩) ?_
                    exact J581 μ546 T549 mF.refl I552 (((W554 z545 μ546 rfl h548 T549 F550).1 h567).1 h583)
                  have h585 : 1 ≤ z241 ∧ z241 ≤ 1 := (vc_X3_readWay_W_17 h583 h247 h250 h252)
                  refine sv_aload_n (pc := 139) dX3_readWay_139 rfl rfl ?_
                  refine gf_X3_9 (pc := 140) dX3_readWay_140 wF_X3_28 (A_76 hw) T549 ?_
                  refine gf_X7_0 (pc := 143) dX3_readWay_143 wF_X3_140 (A_81 hw) T549 fun A586 => ?_
                  refine mr_iload (pc := 146) (z := z220) dX3_readWay_146 rfl ?_
                  refine mr_iload (pc := 148) (z := z220) dX3_readWay_148 rfl ?_
                  refine mr_iload (pc := 150) (z := z244) dX3_readWay_150 rfl ?_
                  refine mr_iadd (pc := 152) (x := z220) (y := z244) dX3_readWay_152 ?_
                  refine mr_cSV (pc := 153) (c_X3_sortWithoutSign_W hw T549 A586 (rW (c := 0) (d := 20) h257 rfl) (vc_X3_readWay_W_14 h253 h255 h256 h567 hq0 h233 h237 hp1 hp2 h257 h224 h258 h568) (((W554 z545 μ546 rfl h548 T549 F550).1 h567).2 h583)) (gOk _ _ _ _ _) dX3_readWay_153 (tX3_sortWithoutSign _ _ _ _ _) wS_X3_sortWithoutSign wM_X3_143 ⟨le_t rfl, le_t rfl⟩ ⟨le_t rfl, le_t rfl⟩ rfl (le_t rfl) fun μ587 T588 F589 h590 => ?_
                  refine mr_lvS (lv' := [(0, .ref 76), (3, iv (p1 + p2)), (4, iv z221), (5, iv z220), (7, iv z244)]) (List.forall_mem_cons.mpr ⟨rfl, List.forall_mem_cons.mpr ⟨rfl, List.forall_mem_cons.mpr ⟨rfl, List.forall_mem_cons.mpr ⟨rfl, List.forall_mem_cons.mpr ⟨rfl, fun _ h => absurd h List.not_mem_nil⟩⟩⟩⟩⟩) ?_
                  exact J581 μ587 T588 (mF.call mF.refl F589 rfl) (OC.keep I552 hw ((mF.call mF.refl F589 rfl) : mF [201999] w μ546 μ587) rfl) (h590.1 T588 F589)
                have h591 : 0 ≤ z545 ∧ z545 ≤ 19 := (vc_X3_readWay_W_18 h567 h253 h255 h256 hp1 hp2 h257 h224 h258 h548)
                refine sv_aload_n (pc := 101) dX3_readWay_101 rfl rfl ?_
                refine gf_X3_9 (pc := 102) dX3_readWay_102 wF_X3_28 (A_76 hw) T549 ?_
                refine gf_X7_0 (pc := 105) dX3_readWay_105 wF_X3_140 (A_81 hw) T549 fun A592 => ?_
                refine mr_iload (pc := 108) (z := z220) dX3_readWay_108 rfl ?_
                refine mr_iload (pc := 110) (z := z545) dX3_readWay_110 rfl ?_
                refine mr_iadd (pc := 112) (x := z220) (y := z545) dX3_readWay_112 ?_
                refine sv_aload_n (pc := 113) dX3_readWay_113 rfl rfl ?_
                refine mr_iload (pc := 114) (z := z221) dX3_readWay_114 rfl ?_
                refine mr_iconst (pc := 116) (z := 2) dX3_readWay_116 ?_
                refine mr_iadd (pc := 117) (x := z221) (y := 2) dX3_readWay_117 ?_
                refine mr_iconst (pc := 118) (z := 4) dX3_readWay_118 ?_
                refine mr_iload (pc := 119) (z := z545) dX3_readWay_119 rfl ?_
                refine mr_imul (pc := 121) (x := 4) (y := z545) dX3_readWay_121 ?_
                refine mr_iadd (pc := 122) (x := (z221 + 2)) (y := (4 * z545)) dX3_readWay_122 ?_
                refine mr_cVP (pc := 123) (c_X3_fourAt_W hw T549 (vc_X3_readWay_W_19 h233 h237 h255 h567 hq0 h253 h256 hp1 hp2 h257 h224 h258 h591) I552 ((W554 z545 μ546 rfl h548 T549 F550).2 h567)) (gOk _ _ _ _ _) dX3_readWay_123 (tX3_fourAt _ _ _ _ _) ⟨wV_X3_fourAt, wL_X3_fourAt⟩ wM_X3_130 (gCX3 _ _ _ _ _) rfl (A_76 hw) rfl ⟨le_t rfl, le_t rfl⟩ ⟨le_t rfl, le_t rfl⟩ rfl (le_t rfl) fun z597 h596 => ?_
                refine ss_201 (pc := 126) dX3_readWay_126 A592 T549 (vc_X3_readWay_W_20 h256 h567 h253 h255 hp1 hp2 h257 h224 h258 h591) h596.1 fun μ598 u599 T600 => ?_
                refine mr_iinc (pc := 127) (lv' := [(8, iv (z545 + 1)), (0, .ref 76), (3, iv (p1 + p2)), (4, iv z221), (5, iv z220), (6, iv z241), (7, iv z244)]) dX3_readWay_127 rfl (by decide) rfl ?_
                refine sv_goto (pc := 130) (tgt := 94) dX3_readWay_130 (by decide) ?_
                refine mr_lvS (lv' := [(0, .ref 76), (3, iv (p1 + p2)), (4, iv z221), (5, iv z220), (6, iv z241), (7, iv z244), (8, iv (z545 + 1))]) (List.forall_mem_cons.mpr ⟨rfl, List.forall_mem_cons.mpr ⟨rfl, List.forall_mem_cons.mpr ⟨rfl, List.forall_mem_cons.mpr ⟨rfl, List.forall_mem_cons.mpr ⟨rfl, List.forall_mem_cons.mpr ⟨rfl, List.forall_mem_cons.mpr ⟨rfl, fun _ h => absurd h List.not_mem_nil⟩⟩⟩⟩⟩⟩⟩) ?_
                exact ih555 (z545 + 1) μ598 T600 (mF.up (mF.call mF.refl F550 rfl) A592 u599 rfl) (rW (c := 0) (d := 20) (rAdd (e := 1) (f := 20) h591 (rR (x := 1)) rfl) rfl) (OC.keep I552 hw ((mF.up mF.refl A592 u599 rfl) : mF [201999] w μ546 μ598) rfl) (vc_X3_readWay_W_21 (nS h553) h567 h253 h255 h256 hp1 hp2 h257 h224 h258 h591) ((h596.2.1 h596.1) μ598 u599 T600)
            refine mr_lvS (lv' := [(0, .ref 76), (3, iv (p1 + p2)), (4, iv z221), (5, iv z220), (6, iv z241), (7, iv z244), (8, iv 0)]) (List.forall_mem_cons.mpr ⟨rfl, List.forall_mem_cons.mpr ⟨rfl, List.forall_mem_cons.mpr ⟨rfl, List.forall_mem_cons.mpr ⟨rfl, List.forall_mem_cons.mpr ⟨rfl, List.forall_mem_cons.mpr ⟨rfl, List.forall_mem_cons.mpr ⟨rfl, fun _ h => absurd h List.not_mem_nil⟩⟩⟩⟩⟩⟩⟩) ?_
            exact L547 22 0 μ222 T226 mF.refl (rW (c := 0) (d := 20) (rR (x := 0)) rfl) I229 vc_X12_tieOf_12 (((((((((((W231 z221 z220 μ222 rfl h224 h225 T226 F227).2 h233).1 h237) b238 q239 A240) z241 q242 h243) z244 q245 h246).2 h247).2 h250).1 h253).2 h255).1 h256)
          refine mr_iconst (pc := 89) (z := 0) dX3_readWay_89 ?_
          exact mr_zret dX3_readWay_90 rfl (rW (c := 0) (d := 1) (rR (x := 0)) rfl) (le_t rfl) (le_t rfl) T226 (mF.call mF.refl F227 rfl) ⟨(rW (c := 0) (d := 1) (rR (x := 0)) rfl), (((((((((((W231 z221 z220 μ222 rfl h224 h225 T226 F227).2 h233).1 h237) b238 q239 A240) z241 q242 h243) z244 q245 h246).2 h247).2 h250).1 h253).2 h255).2 h256), trivial⟩
        have h601 : 0 ≤ z244 ∧ z244 ≤ 0 := (vc_X3_readWay_W_4 h253 h246)
        refine mr_iconst (pc := 64) (z := 0) dX3_readWay_64 ?_
        exact mr_zret dX3_readWay_65 rfl (rW (c := 0) (d := 1) (rR (x := 0)) rfl) (le_t rfl) (le_t rfl) T226 (mF.call mF.refl F227 rfl) ⟨(rW (c := 0) (d := 1) (rR (x := 0)) rfl), (((((((((W231 z221 z220 μ222 rfl h224 h225 T226 F227).2 h233).1 h237) b238 q239 A240) z241 q242 h243) z244 q245 h246).2 h247).2 h250).2 h253), trivial⟩
      refine mr_iconst (pc := 24) (z := 0) dX3_readWay_24 ?_
      exact mr_zret dX3_readWay_25 rfl (rW (c := 0) (d := 1) (rR (x := 0)) rfl) (le_t rfl) (le_t rfl) T226 (mF.call mF.refl F227 rfl) ⟨(rW (c := 0) (d := 1) (rR (x := 0)) rfl), (((W231 z221 z220 μ222 rfl h224 h225 T226 F227).2 h233).2 h237), trivial⟩
  refine mr_lvS (lv' := [(0, .ref 76), (3, iv (p1 + p2)), (4, iv p1), (5, iv 0)]) (List.forall_mem_cons.mpr ⟨rfl, List.forall_mem_cons.mpr ⟨rfl, List.forall_mem_cons.mpr ⟨rfl, List.forall_mem_cons.mpr ⟨rfl, fun _ h => absurd h List.not_mem_nil⟩⟩⟩⟩) ?_
  exact L223 1002 p1 0 μ hT mF.refl hp1 (rW (c := 0) (d := 20) (rR (x := 0)) rfl) hIOC (vc_X3_readWay_W_24 hq0 hp1 hp2) hQ
def WP_X3_readCost_W (w : mW) (μ : mM) (p1 : Int) (p2 : Int) (Q : Int → mM → Prop) : Prop := ((p2 = 4) → WP_X3_fourAt_W w μ p1 (fun z7 _ => ((-2147483648) ≤ z7 ∧ z7 ≤ 2147483647) → ((z7 < 0) → ∀ μ14 : mM, mU μ 81 (6) (1000000 : Int) μ14 → mT w μ14 → Q (1 : Int) μ14) ∧ ((0 ≤ z7) → ((z7 ≤ 1000000) → ∀ μ22 : mM, mU μ 81 (6) z7 μ22 → mT w μ22 → Q (1 : Int) μ22) ∧ ((1000000 < z7) → ∀ μ26 : mM, mU μ 81 (6) (1000000 : Int) μ26 → mT w μ26 → Q (1 : Int) μ26)))) ∧ ((¬ p2 = 4) → Q (0 : Int) μ)
theorem vc_X3_readCost_W_1 {p1 p2 : Int} (h0 : p2 = 4) (h1 : p1 + p2 ≤ 1000) (h2 : 0 ≤ p1 ∧ p1 ≤ 1000) (h3 : (-2147483648) ≤ p2 ∧ p2 ≤ 2147483647) : 4 ≤ p2 ∧ p2 ≤ 4 := by omega
theorem vc_X3_readCost_W_2 {p1 p2 : Int} (h0 : p1 + p2 ≤ 1000) (h1 : p2 = 4) (h2 : 0 ≤ p1 ∧ p1 ≤ 1000) (h3 : 4 ≤ p2 ∧ p2 ≤ 4) : 0 ≤ p1 ∧ p1 ≤ 996 := by omega
set_option maxRecDepth 4000 in
set_option maxHeartbeats 4000000 in
theorem c_X3_readCost_W {l : Launch} {D : va_G} {c : Nat → ClassId} {H0 : Heap} {sa : Nat × Nat × (Nat → Int32)} {w : mW} {μ : mM} (hw : mWF w) (hT : mT w μ) {p1 : Int} (hp1 : 0 ≤ p1 ∧ p1 ≤ 1000) {p2 : Int} (hp2 : (-2147483648) ≤ p2 ∧ p2 ≤ 2147483647) (hq0 : p1 + p2 ≤ 1000) (hIOC : OC μ) {Q : Int → mM → Prop} (hQ : WP_X3_readCost_W w μ p1 p2 Q) : sC (gG l D c H0 sa) mX3_readCost 3 0 0 [.ref 76, iv p1, iv p2] (mk w μ) (qI w [200006] μ (fun z μ1 => (0 ≤ z ∧ z ≤ 1) ∧ Q z μ1 ∧ True)) := by
  refine sC.of rfl (by decide) (le_t rfl) ?_
  refine mr_lvE (lv' := [(0, .ref 76), (1, iv p1), (2, iv p2)]) rfl ?_
  refine mr_iload_n (pc := 0) (z := p2) dX3_readCost_0 rfl rfl ?_
  refine mr_iconst (pc := 1) (z := 4) dX3_readCost_1 ?_
  refine mr_icmp_eq (pc := 2) (tgt := 7) dX3_readCost_2 (by decide) hp2 (r32 (rR (x := 4)) rfl) (fun h1 => ?_) (fun h1 => ?_)
  · have h2 : 4 ≤ p2 ∧ p2 ≤ 4 := (vc_X3_readCost_W_1 h1 hq0 hp1 hp2)
    refine sv_aload_n (pc := 7) dX3_readCost_7 rfl rfl ?_
    refine mr_iload_n (pc := 8) (z := p1) dX3_readCost_8 rfl rfl ?_
    refine mr_cVP (pc := 9) (c_X3_fourAt_W hw hT (vc_X3_readCost_W_2 hq0 h1 hp1 h2) hIOC (hQ.1 h1)) (gOk _ _ _ _ _) dX3_readCost_9 (tX3_fourAt _ _ _ _ _) ⟨wV_X3_fourAt, wL_X3_fourAt⟩ wM_X3_130 (gCX3 _ _ _ _ _) rfl (A_76 hw) rfl ⟨le_t rfl, le_t rfl⟩ ⟨le_t rfl, le_t rfl⟩ rfl (le_t rfl) fun z7 h6 => ?_
    refine mr_istore_n (pc := 12) (lv' := [(3, iv z7), (0, .ref 76), (1, iv p1), (2, iv p2)]) dX3_readCost_12 rfl (by decide) rfl ?_
    refine sv_aload_n (pc := 13) dX3_readCost_13 rfl rfl ?_
    refine gf_X3_9 (pc := 14) dX3_readCost_14 wF_X3_28 (A_76 hw) hT ?_
    refine mr_iload_n (pc := 17) (z := z7) dX3_readCost_17 rfl rfl ?_
    refine mr_if_lt (pc := 18) (tgt := 27) dX3_readCost_18 (by decide) h6.1 (fun h12 => ?_) (fun h12 => ?_)
    · have h13 : (-2147483648) ≤ z7 ∧ z7 ≤ (-1) := (vc_X12_ring_60 h12 h6.1)
      refine mr_ldc (pc := 27) (z := 1000000) dX3_readCost_27 wG_X3_133 (by decide) ?_
      refine sv_goto (pc := 29) (tgt := 33) dX3_readCost_29 (by decide) ?_
      refine pf_X7_6 (pc := 33) dX3_readCost_33 wF_X3_134 (A_81 hw) hT (rW (c := (-2147483648)) (d := 2147483647) (rR (x := 1000000)) rfl) fun μ14 u15 T16 => ?_
      refine mr_iconst (pc := 36) (z := 1) dX3_readCost_36 ?_
      exact mr_zret dX3_readCost_37 rfl (rW (c := 0) (d := 1) (rR (x := 1)) rfl) (le_t rfl) (le_t rfl) T16 (mF.up mF.refl (A_81 hw) u15 rfl) ⟨(rW (c := 0) (d := 1) (rR (x := 1)) rfl), (((h6.2.1 h6.1).1 h12) μ14 u15 T16), trivial⟩
    have h17 : 0 ≤ z7 ∧ z7 ≤ 2147483647 := (vc_X12_ring_1 h12 h6.1)
    refine mr_iload_n (pc := 21) (z := z7) dX3_readCost_21 rfl rfl ?_
    refine mr_ldc (pc := 22) (z := 1000000) dX3_readCost_22 wG_X3_133 (by decide) ?_
    refine mr_icmp_le (pc := 24) (tgt := 32) dX3_readCost_24 (by decide) (r32 h17 rfl) (r32 (rR (x := 1000000)) rfl) (fun h20 => ?_) (fun h20 => ?_)
    · have h21 : 0 ≤ z7 ∧ z7 ≤ 1000000 := (vc_X11_route_W_16 h20 h12 h17)
      refine mr_iload_n (pc := 32) (z := z7) dX3_readCost_32 rfl rfl ?_
      refine pf_X7_6 (pc := 33) dX3_readCost_33 wF_X3_134 (A_81 hw) hT (rW (c := (-2147483648)) (d := 2147483647) h21 rfl) fun μ22 u23 T24 => ?_
      refine mr_iconst (pc := 36) (z := 1) dX3_readCost_36 ?_
      exact mr_zret dX3_readCost_37 rfl (rW (c := 0) (d := 1) (rR (x := 1)) rfl) (le_t rfl) (le_t rfl) T24 (mF.up mF.refl (A_81 hw) u23 rfl) ⟨(rW (c := 0) (d := 1) (rR (x := 1)) rfl), ((((h6.2.1 h6.1).2 h12).1 h20) μ22 u23 T24), trivial⟩
    have h25 : 1000001 ≤ z7 ∧ z7 ≤ 2147483647 := (vc_X11_route_W_20 h20 h12 h17)
    refine mr_ldc (pc := 27) (z := 1000000) dX3_readCost_27 wG_X3_133 (by decide) ?_
    refine sv_goto (pc := 29) (tgt := 33) dX3_readCost_29 (by decide) ?_
    refine pf_X7_6 (pc := 33) dX3_readCost_33 wF_X3_134 (A_81 hw) hT (rW (c := (-2147483648)) (d := 2147483647) (rR (x := 1000000)) rfl) fun μ26 u27 T28 => ?_
    refine mr_iconst (pc := 36) (z := 1) dX3_readCost_36 ?_
    exact mr_zret dX3_readCost_37 rfl (rW (c := 0) (d := 1) (rR (x := 1)) rfl) (le_t rfl) (le_t rfl) T28 (mF.up mF.refl (A_81 hw) u27 rfl) ⟨(rW (c := 0) (d := 1) (rR (x := 1)) rfl), ((((h6.2.1 h6.1).2 h12).2 h20) μ26 u27 T28), trivial⟩
  refine mr_iconst (pc := 5) (z := 0) dX3_readCost_5 ?_
  exact mr_zret dX3_readCost_6 rfl (rW (c := 0) (d := 1) (rR (x := 0)) rfl) (le_t rfl) (le_t rfl) hT mF.refl ⟨(rW (c := 0) (d := 1) (rR (x := 0)) rfl), (hQ.2 h1), trivial⟩
def WL_X3_keepMark_W_1 (w : mW) (μ : mM) (p1 : Int) (Q : mM → Prop) (rec1 : (Int) → Prop) (s : (Int)) : Prop := ∀ z95 : Int, s = (z95) → (0 ≤ z95 ∧ z95 ≤ 8) → ∀ z104 : Int, μ 76 6 = z104 → (0 ≤ z104 ∧ z104 ≤ 8) → ((z104 ≤ z95) → ((8 ≤ z104) → Q μ) ∧ ((z104 < 8) → ∀ μ119 : mM, mU μ 79 (z104.toNat) p1 μ119 → mT w μ119 → ∀ μ122 : mM, mU μ119 76 (6) (z104 + 1) μ122 → mT w μ122 → Q μ122)) ∧ ((z95 < z104) → ∀ z127 : Int, μ 79 (z95.toNat) = z127 → ((-2147483648) ≤ z127 ∧ z127 ≤ 2147483647) → ((¬ z127 = p1) → rec1 ((z95 + 1))) ∧ ((z127 = p1) → Q μ))
def WP_X3_keepMark_W (w : mW) (μ : mM) (p1 : Int) (Q : mM → Prop) : Prop := loopF (WL_X3_keepMark_W_1 w μ p1 Q) False 10 ((0 : Int))
theorem vc_X3_keepMark_W_2 {z104 z95 : Int} (h0 : 8 ≤ z104) (h1 : z104 ≤ z95) (h2 : 0 ≤ z104 ∧ z104 ≤ 8) (h3 : 0 ≤ z95 ∧ z95 ≤ 8) : 8 ≤ z104 ∧ z104 ≤ 8 := by omega
theorem vc_X3_keepMark_W_3 {z104 z95 : Int} (h0 : z104 < 8) (h1 : z104 ≤ z95) (h2 : 0 ≤ z104 ∧ z104 ≤ 8) (h3 : 0 ≤ z95 ∧ z95 ≤ 8) : 0 ≤ z104 ∧ z104 ≤ 7 := by omega
theorem vc_X3_keepMark_W_4 {z104 z95 : Int} (h0 : z95 < z104) (h1 : 0 ≤ z104 ∧ z104 ≤ 8) (h2 : 0 ≤ z95 ∧ z95 ≤ 8) : 0 ≤ z95 ∧ z95 ≤ 7 := by omega
theorem vc_X3_keepMark_W_5 {z104 z95 : Int} (h0 : z95 < z104) (h1 : 0 ≤ z104 ∧ z104 ≤ 8) (h2 : 0 ≤ z95 ∧ z95 ≤ 7) : 1 ≤ z104 ∧ z104 ≤ 8 := by omega
theorem vc_X3_keepMark_W_6 {N z104 z95 : Int} (h0 : (9 - z95) < N + 1) (h1 : z95 < z104) (h2 : 1 ≤ z104 ∧ z104 ≤ 8) (h3 : 0 ≤ z95 ∧ z95 ≤ 7) : (9 - (z95 + 1)) < N := by omega
set_option maxRecDepth 4000 in
set_option maxHeartbeats 4000000 in
theorem c_X3_keepMark_W {l : Launch} {D : va_G} {c : Nat → ClassId} {H0 : Heap} {sa : Nat × Nat × (Nat → Int32)} {w : mW} {μ : mM} (hw : mWF w) (hT : mT w μ) {p1 : Int} (hp1 : (-2147483648) ≤ p1 ∧ p1 ≤ 2147483647) {Q : mM → Prop} (hQ : WP_X3_keepMark_W w μ p1 Q) : sC (gG l D c H0 sa) mX3_keepMark 1 0 0 [.ref 76, iv p1] (mk w μ) (qV w [76006, 79999] μ (fun μ1 => Q μ1 ∧ True)) := by
  refine sC.of rfl (by decide) (le_t rfl) ?_
  refine mr_lvE (lv' := [(0, .ref 76), (1, iv p1)]) rfl ?_
  refine mr_iconst (pc := 0) (z := 0) dX3_keepMark_0 ?_
  refine mr_istore_n (pc := 1) (lv' := [(2, iv 0), (0, .ref 76), (1, iv p1)]) dX3_keepMark_1 rfl (by decide) rfl ?_
  have L96 : ∀ (nL96 : Nat) (z95 : Int), True → (0 ≤ z95 ∧ z95 ≤ 8) → (9 - z95) < (nL96 : Int) → loopF (WL_X3_keepMark_W_1 w μ p1 Q) False nL96 (z95) → sV (gG l D c H0 sa) mX3_keepMark (sRm 1 0 0) (sZ (gG l D c H0 sa) 0 0 (qV w [76006, 79999] μ (fun μ1 => Q μ1 ∧ True))) 2 [(0, .ref 76), (1, iv p1), (2, iv z95)] [] (mk w μ) 0 0 := by
    intro nL96
    induction nL96 with
    | zero => intro z95 _ h97 h101 W102; exact ((vc_X12_marked_1 h101 h97)).elim
    | succ nL96 ih103 =>
      intro z95 _ h97 h101 W102
      refine mr_iload_n (pc := 2) (z := z95) dX3_keepMark_2 rfl rfl ?_
      refine sv_aload_n (pc := 3) dX3_keepMark_3 rfl rfl ?_
      refine gf_X3_6 (pc := 4) dX3_keepMark_4 wF_X3_59 (A_76 hw) hT fun z104 q105 h106 => ?_
      refine mr_icmp_ge (pc := 7) (tgt := 27) dX3_keepMark_7 (by decide) (r32 h97 rfl) (r32 h106 rfl) (fun h107 => ?_) (fun h107 => ?_)
      · refine sv_aload_n (pc := 27) dX3_keepMark_27 rfl rfl ?_
        refine gk_X3_6 (pc := 28) dX3_keepMark_28 wF_X3_59 (A_76 hw) q105 ?_
        refine mr_bipush (pc := 31) (z := 8) dX3_keepMark_31 (by decide) ?_
        refine mr_icmp_ge (pc := 33) (tgt := 56) dX3_keepMark_33 (by decide) (r32 h106 rfl) (r32 (rR (x := 8)) rfl) (fun h116 => ?_) (fun h116 => ?_)
        · have h117 : 8 ≤ z104 ∧ z104 ≤ 8 := (vc_X3_keepMark_W_2 h116 h107 h106 h97)
          exact mr_vret dX3_keepMark_56 rfl (le_t rfl) (le_t rfl) hT mF.refl ⟨((((W102 z95 rfl h97) z104 q105 h106).1 h107).1 h116), trivial⟩
        have h118 : 0 ≤ z104 ∧ z104 ≤ 7 := (vc_X3_keepMark_W_3 h116 h107 h106 h97)
        refine sv_aload_n (pc := 36) dX3_keepMark_36 rfl rfl ?_
        refine gf_X3_2 (pc := 37) dX3_keepMark_37 wF_X3_18 (A_76 hw) hT ?_
        refine sv_aload_n (pc := 40) dX3_keepMark_40 rfl rfl ?_
        refine gk_X3_6 (pc := 41) dX3_keepMark_41 wF_X3_59 (A_76 hw) q105 ?_
        refine mr_iload_n (pc := 44) (z := p1) dX3_keepMark_44 rfl rfl ?_
        refine ss_79 (pc := 45) dX3_keepMark_45 (A_79 hw) hT (rIx (n := 8) h118 rfl) hp1 fun μ119 u120 T121 => ?_
        refine sv_aload_n (pc := 46) dX3_keepMark_46 rfl rfl ?_
        refine sv_dup (pc := 47) dX3_keepMark_47 rfl ?_
        refine gk_X3_6 (pc := 48) dX3_keepMark_48 wF_X3_59 (A_76 hw) (u120.f (Or.inl (mAt.ne (A_79 hw) (A_76 hw) rfl)) q105) ?_
        refine mr_iconst (pc := 51) (z := 1) dX3_keepMark_51 ?_
        refine mr_iadd (pc := 52) (x := z104) (y := 1) dX3_keepMark_52 ?_
        refine pf_X3_6 (pc := 53) dX3_keepMark_53 wF_X3_59 (A_76 hw) T121 (rW (c := 0) (d := 8) (rAdd (e := 1) (f := 8) h118 (rR (x := 1)) rfl) rfl) fun μ122 u123 T124 => ?_
        exact mr_vret dX3_keepMark_56 rfl (le_t rfl) (le_t rfl) T124 (mF.up (mF.up mF.refl (A_79 hw) u120 rfl) (A_76 hw) u123 rfl) ⟨((((((W102 z95 rfl h97) z104 q105 h106).1 h107).2 h116) μ119 u120 T121) μ122 u123 T124), trivial⟩
      have h125 : 0 ≤ z95 ∧ z95 ≤ 7 := (vc_X3_keepMark_W_4 h107 h106 h97)
      have h126 : 1 ≤ z104 ∧ z104 ≤ 8 := (vc_X3_keepMark_W_5 h107 h106 h125)
      refine sv_aload_n (pc := 10) dX3_keepMark_10 rfl rfl ?_
      refine gf_X3_2 (pc := 11) dX3_keepMark_11 wF_X3_18 (A_76 hw) hT ?_
      refine mr_iload_n (pc := 14) (z := z95) dX3_keepMark_14 rfl rfl ?_
      refine la_79 (pc := 15) dX3_keepMark_15 (A_79 hw) hT (rIx (n := 8) h125 rfl) fun z127 q128 h129 => ?_
      refine mr_iload_n (pc := 16) (z := p1) dX3_keepMark_16 rfl rfl ?_
      refine mr_icmp_ne (pc := 17) (tgt := 21) dX3_keepMark_17 (by decide) h129 hp1 (fun h130 => ?_) (fun h130 => ?_)
      · refine mr_iinc (pc := 21) (lv' := [(2, iv (z95 + 1)), (0, .ref 76), (1, iv p1)]) dX3_keepMark_21 rfl (by decide) rfl ?_
        refine sv_goto (pc := 24) (tgt := 2) dX3_keepMark_24 (by decide) ?_
        refine mr_lvS (lv' := [(0, .ref 76), (1, iv p1), (2, iv (z95 + 1))]) (List.forall_mem_cons.mpr ⟨rfl, List.forall_mem_cons.mpr ⟨rfl, List.forall_mem_cons.mpr ⟨rfl, fun _ h => absurd h List.not_mem_nil⟩⟩⟩) ?_
        exact ih103 (z95 + 1) trivial (rW (c := 0) (d := 8) (rAdd (e := 1) (f := 8) h125 (rR (x := 1)) rfl) rfl) (vc_X3_keepMark_W_6 (nS h101) h107 h126 h125) (((((W102 z95 rfl h97) z104 q105 h106).2 h107) z127 q128 h129).1 h130)
      exact mr_vret dX3_keepMark_20 rfl (le_t rfl) (le_t rfl) hT mF.refl ⟨(((((W102 z95 rfl h97) z104 q105 h106).2 h107) z127 q128 h129).2 h130), trivial⟩
  refine mr_lvS (lv' := [(0, .ref 76), (1, iv p1), (2, iv 0)]) (List.forall_mem_cons.mpr ⟨rfl, List.forall_mem_cons.mpr ⟨rfl, List.forall_mem_cons.mpr ⟨rfl, fun _ h => absurd h List.not_mem_nil⟩⟩⟩) ?_
  exact L96 10 0 trivial (rW (c := 0) (d := 8) (rR (x := 0)) rfl) vc_X12_marked_10 hQ
def WL_X3_readMarks_W_1 (w : mW) (μ : mM) (p1 : Int) (p2 : Int) (Q : Int → mM → Prop) (rec1 : (Int × mM) → Prop) (s : (Int × mM)) : Prop := ∀ z32 : Int, ∀ μ33 : mM, s = (z32, μ33) → (0 ≤ z32 ∧ z32 ≤ 1000) → mT w μ33 → mF [76006, 79999] w μ μ33 → (((p1 + p2) ≤ z32) → Q (1 : Int) μ33) ∧ ((z32 < (p1 + p2)) → WP_X3_pairAt_W w μ33 (z32 + 2) (fun z59 _ => (0 ≤ z59 ∧ z59 ≤ 65535) → WP_X3_keepMark_W w μ33 z59 (fun μ60 => mT w μ60 → mF [76006, 79999] w μ33 μ60 → rec1 ((z32 + 4), μ60))))
def WP_X3_readMarks_W (w : mW) (μ : mM) (p1 : Int) (p2 : Int) (Q : Int → mM → Prop) : Prop := ∀ z1 : Int, p2 % 4 = z1 → ((z1 = 0) → loopF (WL_X3_readMarks_W_1 w μ p1 p2 Q) False 1002 (p1, μ)) ∧ ((¬ z1 = 0) → Q (0 : Int) μ)
theorem vc_X3_readMarks_W_2 {p2 z1 : Int} (h0 : z1 = 0) (h1 : p2 % 4 = z1) (h2 : 0 ≤ p2 ∧ p2 ≤ 1000) (h3 : 0 ≤ z1 ∧ z1 ≤ 3) : 0 ≤ z1 ∧ z1 ≤ 0 := by omega
theorem vc_X3_readMarks_W_3 {p1 p2 z32 : Int} (h0 : (1001 - z32) < ((0 : Nat) : Int)) (h1 : (z32 - p1) % 4 = 0) (h2 : p1 ≤ z32) (h3 : p1 + p2 ≤ 1000) (h4 : 0 ≤ p1 ∧ p1 ≤ 1000) (h5 : 0 ≤ p2 ∧ p2 ≤ 1000) (h6 : 0 ≤ z32 ∧ z32 ≤ 1000) : False := by omega
theorem vc_X3_readMarks_W_4 {p1 p2 z1 z32 : Int} (h0 : (z32 - p1) % 4 = 0) (h1 : p1 ≤ z32) (h2 : z32 < (p1 + p2)) (h3 : p1 + p2 ≤ 1000) (h4 : p2 % 4 = z1) (h5 : 0 ≤ p1 ∧ p1 ≤ 1000) (h6 : 0 ≤ p2 ∧ p2 ≤ 1000) (h7 : 0 ≤ z1 ∧ z1 ≤ 0) (h8 : 0 ≤ z32 ∧ z32 ≤ 1000) : 0 ≤ (z32 + 2) ∧ (z32 + 2) ≤ 998 := by omega
theorem vc_X3_readMarks_W_5 {p1 p2 z1 z32 : Int} (h0 : (z32 - p1) % 4 = 0) (h1 : p1 ≤ z32) (h2 : z32 < (p1 + p2)) (h3 : p1 + p2 ≤ 1000) (h4 : p2 % 4 = z1) (h5 : 0 ≤ p1 ∧ p1 ≤ 1000) (h6 : 0 ≤ p2 ∧ p2 ≤ 1000) (h7 : 0 ≤ z1 ∧ z1 ≤ 0) (h8 : 0 ≤ z32 ∧ z32 ≤ 1000) : 0 ≤ (z32 + 4) ∧ (z32 + 4) ≤ 1000 := by omega
theorem vc_X3_readMarks_W_6 {p1 p2 z1 z32 : Int} (h0 : p1 + p2 ≤ 1000) (h1 : (z32 - p1) % 4 = 0) (h2 : p1 ≤ z32) (h3 : z32 < (p1 + p2)) (h4 : p2 % 4 = z1) (h5 : 0 ≤ p1 ∧ p1 ≤ 1000) (h6 : 0 ≤ p2 ∧ p2 ≤ 1000) (h7 : 0 ≤ z1 ∧ z1 ≤ 0) (h8 : 0 ≤ z32 ∧ z32 ≤ 1000) : ((z32 + 4) - p1) % 4 = 0 := by omega
theorem vc_X3_readMarks_W_7 {p1 p2 z1 z32 : Int} (h0 : p1 + p2 ≤ 1000) (h1 : (z32 - p1) % 4 = 0) (h2 : p1 ≤ z32) (h3 : z32 < (p1 + p2)) (h4 : p2 % 4 = z1) (h5 : 0 ≤ p1 ∧ p1 ≤ 1000) (h6 : 0 ≤ p2 ∧ p2 ≤ 1000) (h7 : 0 ≤ z1 ∧ z1 ≤ 0) (h8 : 0 ≤ z32 ∧ z32 ≤ 1000) : p1 ≤ (z32 + 4) := by omega
theorem vc_X3_readMarks_W_8 {N p1 p2 z1 z32 : Int} (h0 : (1001 - z32) < N + 1) (h1 : (z32 - p1) % 4 = 0) (h2 : p1 ≤ z32) (h3 : z32 < (p1 + p2)) (h4 : p1 + p2 ≤ 1000) (h5 : p2 % 4 = z1) (h6 : 0 ≤ p1 ∧ p1 ≤ 1000) (h7 : 0 ≤ p2 ∧ p2 ≤ 1000) (h8 : 0 ≤ z1 ∧ z1 ≤ 0) (h9 : 0 ≤ z32 ∧ z32 ≤ 1000) : (1001 - (z32 + 4)) < N := by omega
theorem vc_X3_readMarks_W_9 {p1 p2 z1 : Int} (h0 : p1 + p2 ≤ 1000) (h1 : p2 % 4 = z1) (h2 : 0 ≤ p1 ∧ p1 ≤ 1000) (h3 : 0 ≤ p2 ∧ p2 ≤ 1000) (h4 : 0 ≤ z1 ∧ z1 ≤ 0) : (p1 - p1) % 4 = 0 := by omega
theorem vc_X3_readMarks_W_10 {p1 p2 z1 : Int} (h0 : p1 + p2 ≤ 1000) (h1 : p2 % 4 = z1) (h2 : 0 ≤ p1 ∧ p1 ≤ 1000) (h3 : 0 ≤ p2 ∧ p2 ≤ 1000) (h4 : 0 ≤ z1 ∧ z1 ≤ 0) : p1 ≤ p1 := by omega
theorem vc_X3_readMarks_W_11 {p1 p2 z1 : Int} (h0 : p1 + p2 ≤ 1000) (h1 : p2 % 4 = z1) (h2 : 0 ≤ p1 ∧ p1 ≤ 1000) (h3 : 0 ≤ p2 ∧ p2 ≤ 1000) (h4 : 0 ≤ z1 ∧ z1 ≤ 0) : (1001 - p1) < ((1002 : Nat) : Int) := by omega
theorem vc_X3_readMarks_W_12 {p2 z1 : Int} (h0 : ¬ z1 = 0) (h1 : p2 % 4 = z1) (h2 : 0 ≤ p2 ∧ p2 ≤ 1000) (h3 : 0 ≤ z1 ∧ z1 ≤ 3) : 1 ≤ z1 ∧ z1 ≤ 3 := by omega
set_option maxRecDepth 4000 in
set_option maxHeartbeats 4000000 in
theorem c_X3_readMarks_W {l : Launch} {D : va_G} {c : Nat → ClassId} {H0 : Heap} {sa : Nat × Nat × (Nat → Int32)} {w : mW} {μ : mM} (hw : mWF w) (hT : mT w μ) {p1 : Int} (hp1 : 0 ≤ p1 ∧ p1 ≤ 1000) {p2 : Int} (hp2 : 0 ≤ p2 ∧ p2 ≤ 1000) (hq0 : p1 + p2 ≤ 1000) (hIOC : OC μ) {Q : Int → mM → Prop} (hQ : WP_X3_readMarks_W w μ p1 p2 Q) : sC (gG l D c H0 sa) mX3_readMarks 2 0 0 [.ref 76, iv p1, iv p2] (mk w μ) (qI w [76006, 79999] μ (fun z μ1 => (0 ≤ z ∧ z ≤ 1) ∧ Q z μ1 ∧ True)) := by
  refine sC.of rfl (by decide) (le_t rfl) ?_
  refine mr_lvE (lv' := [(0, .ref 76), (1, iv p1), (2, iv p2)]) rfl ?_
  refine mr_iload_n (pc := 0) (z := p2) dX3_readMarks_0 rfl rfl ?_
  refine mr_iconst (pc := 1) (z := 4) dX3_readMarks_1 ?_
  refine mr_irem (pc := 2) (x := p2) (y := 4) dX3_readMarks_2 (rW (c := 0) (d := 2147483647) hp2 rfl) vc_X12_feed_w_13 ?_
  refine mr_gen (P := fun z => 0 ≤ z ∧ z ≤ 3) (rMod hp2 rfl) fun z1 q2 h3 => ?_
  refine mr_if_eq (pc := 3) (tgt := 8) dX3_readMarks_3 (by decide) (r32 h3 rfl) (fun h4 => ?_) (fun h4 => ?_)
  · have h5 : 0 ≤ z1 ∧ z1 ≤ 0 := (vc_X3_readMarks_W_2 h4 q2 hp2 h3)
    refine mr_iload_n (pc := 8) (z := p1) dX3_readMarks_8 rfl rfl ?_
    refine mr_istore_n (pc := 9) (lv' := [(3, iv p1), (0, .ref 76), (1, iv p1), (2, iv p2)]) dX3_readMarks_9 rfl (by decide) rfl ?_
    have L34 : ∀ (nL34 : Nat) (z32 : Int) (μ33 : mM), mT w μ33 → mF [76006, 79999] w μ μ33 → (0 ≤ z32 ∧ z32 ≤ 1000) → ((z32 - p1) % 4 = 0) → (p1 ≤ z32) → OC μ33 → (1001 - z32) < (nL34 : Int) → loopF (WL_X3_readMarks_W_1 w μ p1 p2 Q) False nL34 (z32, μ33) → sV (gG l D c H0 sa) mX3_readMarks (sRm 2 0 0) (sZ (gG l D c H0 sa) 0 0 (qI w [76006, 79999] μ (fun z μ1 => (0 ≤ z ∧ z ≤ 1) ∧ Q z μ1 ∧ True))) 10 [(0, .ref 76), (1, iv p1), (2, iv p2), (3, iv z32)] [] (mk w μ33) 0 0 := by
      intro nL34
      induction nL34 with
      | zero => intro z32 μ33 T36 F37 h35 h39 h40 I41 h42 W43; exact ((vc_X3_readMarks_W_3 h42 h39 h40 hq0 hp1 hp2 h35)).elim
      | succ nL34 ih44 =>
        intro z32 μ33 T36 F37 h35 h39 h40 I41 h42 W43
        refine mr_iload_n (pc := 10) (z := z32) dX3_readMarks_10 rfl rfl ?_
        refine mr_iload_n (pc := 11) (z := p1) dX3_readMarks_11 rfl rfl ?_
        refine mr_iload_n (pc := 12) (z := p2) dX3_readMarks_12 rfl rfl ?_
        refine mr_iadd (pc := 13) (x := p1) (y := p2) dX3_readMarks_13 ?_
        refine mr_icmp_ge (pc := 14) (tgt := 34) dX3_readMarks_14 (by decide) (r32 h35 rfl) (r32 (rAdd (e := 0) (f := 2000) hp1 hp2 rfl) rfl) (fun h54 => ?_) (fun h54 => ?_)
        · refine mr_iconst (pc := 34) (z := 1) dX3_readMarks_34 ?_
          exact mr_zret dX3_readMarks_35 rfl (rW (c := 0) (d := 1) (rR (x := 1)) rfl) (le_t rfl) (le_t rfl) T36 (mF.call mF.refl F37 rfl) ⟨(rW (c := 0) (d := 1) (rR (x := 1)) rfl), ((W43 z32 μ33 rfl h35 T36 F37).1 h54), trivial⟩
        refine sv_aload_n (pc := 17) dX3_readMarks_17 rfl rfl ?_
        refine sv_aload_n (pc := 18) dX3_readMarks_18 rfl rfl ?_
        refine mr_iload_n (pc := 19) (z := z32) dX3_readMarks_19 rfl rfl ?_
        refine mr_iconst (pc := 20) (z := 2) dX3_readMarks_20 ?_
        refine mr_iadd (pc := 21) (x := z32) (y := 2) dX3_readMarks_21 ?_
        refine mr_cVP (pc := 22) (c_X3_pairAt_W hw T36 (vc_X3_readMarks_W_4 h39 h40 h54 hq0 q2 hp1 hp2 h5 h35) I41 ((W43 z32 μ33 rfl h35 T36 F37).2 h54)) (gOk _ _ _ _ _) dX3_readMarks_22 (tX3_pairAt _ _ _ _ _) ⟨wV_X3_pairAt, wL_X3_pairAt⟩ wM_X3_88 (gCX3 _ _ _ _ _) rfl (A_76 hw) rfl ⟨le_t rfl, le_t rfl⟩ ⟨le_t rfl, le_t rfl⟩ rfl (le_t rfl) fun z59 h58 => ?_
        refine mr_cVV (pc := 25) (c_X3_keepMark_W hw T36 (rW (c := (-2147483648)) (d := 2147483647) h58.1 rfl) (h58.2.1 h58.1)) (gOk _ _ _ _ _) dX3_readMarks_25 (tX3_keepMark _ _ _ _ _) ⟨wV_X3_keepMark, wL_X3_keepMark⟩ wM_X3_137 (gCX3 _ _ _ _ _) rfl (A_76 hw) rfl ⟨le_t rfl, le_t rfl⟩ ⟨le_t rfl, le_t rfl⟩ rfl (le_t rfl) fun μ60 T61 F62 h63 => ?_
        refine mr_iinc (pc := 28) (lv' := [(3, iv (z32 + 4)), (0, .ref 76), (1, iv p1), (2, iv p2)]) dX3_readMarks_28 rfl (by decide) rfl ?_
        refine sv_goto (pc := 31) (tgt := 10) dX3_readMarks_31 (by decide) ?_
        refine mr_lvS (lv' := [(0, .ref 76), (1, iv p1), (2, iv p2), (3, iv (z32 + 4))]) (List.forall_mem_cons.mpr ⟨rfl, List.forall_mem_cons.mpr ⟨rfl, List.forall_mem_cons.mpr ⟨rfl, List.forall_mem_cons.mpr ⟨rfl, fun _ h => absurd h List.not_mem_nil⟩⟩⟩⟩) ?_
        exact ih44 (z32 + 4) μ60 T61 (mF.call (mF.call mF.refl F37 rfl) F62 rfl) (vc_X3_readMarks_W_5 h39 h40 h54 hq0 q2 hp1 hp2 h5 h35) (vc_X3_readMarks_W_6 hq0 h39 h40 h54 q2 hp1 hp2 h5 h35) (vc_X3_readMarks_W_7 hq0 h39 h40 h54 q2 hp1 hp2 h5 h35) (OC.keep I41 hw ((mF.call mF.refl F62 rfl) : mF [76006, 79999] w μ33 μ60) rfl) (vc_X3_readMarks_W_8 (nS h42) h39 h40 h54 hq0 q2 hp1 hp2 h5 h35) (h63.1 T61 F62)
    refine mr_lvS (lv' := [(0, .ref 76), (1, iv p1), (2, iv p2), (3, iv p1)]) (List.forall_mem_cons.mpr ⟨rfl, List.forall_mem_cons.mpr ⟨rfl, List.forall_mem_cons.mpr ⟨rfl, List.forall_mem_cons.mpr ⟨rfl, fun _ h => absurd h List.not_mem_nil⟩⟩⟩⟩) ?_
    exact L34 1002 p1 μ hT mF.refl hp1 (vc_X3_readMarks_W_9 hq0 q2 hp1 hp2 h5) (vc_X3_readMarks_W_10 hq0 q2 hp1 hp2 h5) hIOC (vc_X3_readMarks_W_11 hq0 q2 hp1 hp2 h5) ((hQ z1 q2).1 h4)
  have h64 : 1 ≤ z1 ∧ z1 ≤ 3 := (vc_X3_readMarks_W_12 h4 q2 hp2 h3)
  refine mr_iconst (pc := 6) (z := 0) dX3_readMarks_6 ?_
  exact mr_zret dX3_readMarks_7 rfl (rW (c := 0) (d := 1) (rR (x := 0)) rfl) (le_t rfl) (le_t rfl) hT mF.refl ⟨(rW (c := 0) (d := 1) (rR (x := 0)) rfl), ((hQ z1 q2).2 h4), trivial⟩
def WP_X3_carry_W (w : mW) (μ : mM) (p1 : Int) (p2 : Int) (Q : mM → Prop) : Prop := ∀ f_cc : Int, μ 76 5 = f_cc → (0 ≤ f_cc ∧ f_cc ≤ 256) → ∀ z35 : Int, bAnd p1 (192 : Int) = z35 → ((¬ z35 = 192) → Q μ) ∧ ((z35 = 192) → ∀ μ49 : mM, mU μ 78 (f_cc.toNat) p2 μ49 → mT w μ49 → ∀ μ52 : mM, mU μ49 76 (5) (f_cc + 1) μ52 → mT w μ52 → Q μ52)
theorem vc_X3_carry_W_1 {f_cc : Int} (h0 : f_cc ≤ 255) (h1 : 0 ≤ f_cc ∧ f_cc ≤ 256) : 0 ≤ f_cc ∧ f_cc ≤ 255 := by omega
theorem vc_X3_carry_W_2 {z35 : Int} (h0 : ¬ z35 = 192) (h1 : 0 ≤ z35 ∧ z35 ≤ 192) : 0 ≤ z35 ∧ z35 ≤ 191 := by omega
theorem vc_X3_carry_W_3 {f_cc : Int} (h0 : f_cc ≤ 255) (h1 : 0 ≤ f_cc ∧ f_cc ≤ 255) : f_cc ≤ f_cc + 1 := by omega
theorem vc_X3_carry_W_4 {z35 : Int} (h0 : z35 = 192) (h1 : 0 ≤ z35 ∧ z35 ≤ 192) : 192 ≤ z35 ∧ z35 ≤ 192 := by omega
theorem vc_X3_carry_W_5 {f_cc : Int} (h0 : f_cc ≤ 255) (h1 : 0 ≤ f_cc ∧ f_cc ≤ 255) : (f_cc + 1) ≤ f_cc + 1 := by omega
set_option maxRecDepth 4000 in
set_option maxHeartbeats 4000000 in
theorem c_X3_carry_W {l : Launch} {D : va_G} {c : Nat → ClassId} {H0 : Heap} {sa : Nat × Nat × (Nat → Int32)} {w : mW} {μ : mM} (hw : mWF w) (hT : mT w μ) {p1 : Int} (hp1 : (-2147483648) ≤ p1 ∧ p1 ≤ 2147483647) {p2 : Int} (hp2 : (-2147483648) ≤ p2 ∧ p2 ≤ 2147483647) {f_cc : Int} (q_f_cc : μ 76 5 = f_cc) (hq0 : f_cc ≤ 255) {Q : mM → Prop} (hQ : WP_X3_carry_W w μ p1 p2 Q) : sC (gG l D c H0 sa) mX3_carry 1 0 0 [.ref 76, iv p1, iv p2] (mk w μ) (qV w [76005, 78999] μ (fun μ1 => ∃ o_cc : Int, μ1 76 5 = o_cc ∧ (o_cc ≤ f_cc + 1) ∧ Q μ1 ∧ True)) := by
  refine sC.of rfl (by decide) (le_t rfl) ?_
  have ht_f_cc : (0 ≤ f_cc ∧ f_cc ≤ 256) := by rw [← q_f_cc]; exact hT 76 76 (A_76 hw) 5
  have h1 : 0 ≤ f_cc ∧ f_cc ≤ 255 := (vc_X3_carry_W_1 hq0 ht_f_cc)
  refine mr_lvE (lv' := [(0, .ref 76), (1, iv p1), (2, iv p2)]) rfl ?_
  refine mr_iload_n (pc := 0) (z := p1) dX3_carry_0 rfl rfl ?_
  refine mr_sipush (pc := 1) (z := 192) dX3_carry_1 (by decide) ?_
  refine mr_iand (pc := 4) (x := p1) (y := 192) dX3_carry_4 ?_
  refine mr_gen (P := fun z => 0 ≤ z ∧ z ≤ 192) (rAndR (rR (x := 192)) rfl) fun z35 q36 h37 => ?_
  refine mr_sipush (pc := 5) (z := 192) dX3_carry_5 (by decide) ?_
  refine mr_icmp_ne (pc := 8) (tgt := 31) dX3_carry_8 (by decide) (r32 h37 rfl) (r32 (rR (x := 192)) rfl) (fun h46 => ?_) (fun h46 => ?_)
  · have h47 : 0 ≤ z35 ∧ z35 ≤ 191 := (vc_X3_carry_W_2 h46 h37)
    exact mr_vret dX3_carry_31 rfl (le_t rfl) (le_t rfl) hT mF.refl ⟨f_cc, q_f_cc, (vc_X3_carry_W_3 hq0 h1), (((hQ f_cc q_f_cc ht_f_cc) z35 q36).1 h46), trivial⟩
  have h48 : 192 ≤ z35 ∧ z35 ≤ 192 := (vc_X3_carry_W_4 h46 h37)
  refine sv_aload_n (pc := 11) dX3_carry_11 rfl rfl ?_
  refine gf_X3_1 (pc := 12) dX3_carry_12 wF_X3_15 (A_76 hw) hT ?_
  refine sv_aload_n (pc := 15) dX3_carry_15 rfl rfl ?_
  refine gk_X3_5 (pc := 16) dX3_carry_16 wF_X3_79 (A_76 hw) q_f_cc ?_
  refine mr_iload_n (pc := 19) (z := p2) dX3_carry_19 rfl rfl ?_
  refine ss_78 (pc := 20) dX3_carry_20 (A_78 hw) hT (rIx (n := 256) h1 rfl) hp2 fun μ49 u50 T51 => ?_
  refine sv_aload_n (pc := 21) dX3_carry_21 rfl rfl ?_
  refine sv_dup (pc := 22) dX3_carry_22 rfl ?_
  refine gk_X3_5 (pc := 23) dX3_carry_23 wF_X3_79 (A_76 hw) (u50.f (Or.inl (mAt.ne (A_78 hw) (A_76 hw) rfl)) q_f_cc) ?_
  refine mr_iconst (pc := 26) (z := 1) dX3_carry_26 ?_
  refine mr_iadd (pc := 27) (x := f_cc) (y := 1) dX3_carry_27 ?_
  refine pf_X3_5 (pc := 28) dX3_carry_28 wF_X3_79 (A_76 hw) T51 (rW (c := 0) (d := 256) (rAdd (e := 1) (f := 256) h1 (rR (x := 1)) rfl) rfl) fun μ52 u53 T54 => ?_
  exact mr_vret dX3_carry_31 rfl (le_t rfl) (le_t rfl) T54 (mF.up (mF.up mF.refl (A_78 hw) u50 rfl) (A_76 hw) u53 rfl) ⟨(f_cc + 1), u53.1, (vc_X3_carry_W_5 hq0 h1), (((((hQ f_cc q_f_cc ht_f_cc) z35 q36).2 h46) μ49 u50 T51) μ52 u53 T54), trivial⟩
def WJ_X3_readAttribute_W_1 (w : mW) (p1 : Int) (Q : mM → Prop) (μ726 : mM) (z741 : Int) (μ743 : mM) : Prop := (0 ≤ z741 ∧ z741 ≤ 1) → mT w μ743 → mF [200005] w μ726 μ743 → ∀ μ750 : mM, mU μ743 76 (7) z741 μ750 → mT w μ750 → ((¬ z741 = 0) → Q μ750) ∧ ((z741 = 0) → WP_X3_note_W w μ750 (2) p1 (fun μ762 => mT w μ762 → mF [80999] w μ750 μ762 → Q μ762))
def WJ_X3_readAttribute_W_2 (w : mW) (p1 : Int) (Q : mM → Prop) (μ726 : mM) (z786 : Int) (μ788 : mM) : Prop := (0 ≤ z786 ∧ z786 ≤ 1) → mT w μ788 → mF [200007, 201999] w μ726 μ788 → ∀ μ795 : mM, mU μ788 76 (8) z786 μ795 → mT w μ795 → ((¬ z786 = 0) → Q μ795) ∧ ((z786 = 0) → WP_X3_note_W w μ795 (2) p1 (fun μ807 => mT w μ807 → mF [80999] w μ795 μ807 → Q μ807))
def WJ_X3_readAttribute_W_3 (w : mW) (p1 : Int) (Q : mM → Prop) (z712 : Int) (z718 : Int) (μ726 : mM) (z828 : Int) : Prop := (0 ≤ z828 ∧ z828 ≤ 1) → WP_X3_carry_W w μ726 z712 z718 (fun μ832 => mT w μ832 → mF [76005, 78999] w μ726 μ832 → ∀ z836 : Int, μ832 76 5 = z836 → ((¬ z828 = 0) → Q μ832) ∧ ((z828 = 0) → WP_X3_note_W w μ832 (2) p1 (fun μ849 => mT w μ849 → mF [80999] w μ832 μ849 → Q μ849)))
def WJ_X3_readAttribute_W_4 (w : mW) (p1 : Int) (Q : mM → Prop) (μ726 : mM) (z866 : Int) (μ868 : mM) : Prop := (0 ≤ z866 ∧ z866 ≤ 1) → mT w μ868 → mF [200006] w μ726 μ868 → ((¬ z866 = 0) → Q μ868) ∧ ((z866 = 0) → WP_X3_note_W w μ868 (2) p1 (fun μ884 => mT w μ884 → mF [80999] w μ868 μ884 → Q μ884))
def WJ_X3_readAttribute_W_5 (w : mW) (p1 : Int) (Q : mM → Prop) (z712 : Int) (z718 : Int) (μ726 : mM) (z905 : Int) : Prop := (0 ≤ z905 ∧ z905 ≤ 1) → WP_X3_carry_W w μ726 z712 z718 (fun μ909 => mT w μ909 → mF [76005, 78999] w μ726 μ909 → ∀ z913 : Int, μ909 76 5 = z913 → ((¬ z905 = 0) → Q μ909) ∧ ((z905 = 0) → WP_X3_note_W w μ909 (2) p1 (fun μ926 => mT w μ926 → mF [80999] w μ909 μ926 → Q μ926)))
def WJ_X3_readAttribute_W_6 (w : mW) (p1 : Int) (Q : mM → Prop) (z712 : Int) (z718 : Int) (μ726 : mM) (z940 : Int) : Prop := (0 ≤ z940 ∧ z940 ≤ 1) → WP_X3_carry_W w μ726 z712 z718 (fun μ944 => mT w μ944 → mF [76005, 78999] w μ726 μ944 → ∀ z948 : Int, μ944 76 5 = z948 → ((¬ z940 = 0) → Q μ944) ∧ ((z940 = 0) → WP_X3_note_W w μ944 (2) p1 (fun μ961 => mT w μ961 → mF [80999] w μ944 μ961 → Q μ961)))
def WJ_X3_readAttribute_W_7 (w : mW) (p1 : Int) (Q : mM → Prop) (z712 : Int) (z718 : Int) (μ726 : mM) (z975 : Int) : Prop := (0 ≤ z975 ∧ z975 ≤ 1) → WP_X3_carry_W w μ726 z712 z718 (fun μ979 => mT w μ979 → mF [76005, 78999] w μ726 μ979 → ∀ z983 : Int, μ979 76 5 = z983 → ((¬ z975 = 0) → Q μ979) ∧ ((z975 = 0) → WP_X3_note_W w μ979 (2) p1 (fun μ996 => mT w μ996 → mF [80999] w μ979 μ996 → Q μ996)))
def WJ_X3_readAttribute_W_8 (w : mW) (p1 : Int) (Q : mM → Prop) (μ726 : mM) (z1014 : Int) (μ1016 : mM) : Prop := (0 ≤ z1014 ∧ z1014 ≤ 1) → mT w μ1016 → mF [76006, 79999] w μ726 μ1016 → ((¬ z1014 = 0) → Q μ1016) ∧ ((z1014 = 0) → WP_X3_note_W w μ1016 (2) p1 (fun μ1032 => mT w μ1032 → mF [80999] w μ1016 μ1032 → Q μ1032))
def WJ_X3_readAttribute_W_9 (w : mW) (p1 : Int) (Q : mM → Prop) (z712 : Int) (z718 : Int) (μ726 : mM) (z1051 : Int) : Prop := (0 ≤ z1051 ∧ z1051 ≤ 1) → WP_X3_carry_W w μ726 z712 z718 (fun μ1055 => mT w μ1055 → mF [76005, 78999] w μ726 μ1055 → ∀ z1059 : Int, μ1055 76 5 = z1059 → ((¬ z1051 = 0) → Q μ1055) ∧ ((z1051 = 0) → WP_X3_note_W w μ1055 (2) p1 (fun μ1072 => mT w μ1072 → mF [80999] w μ1055 μ1072 → Q μ1072)))
def WP_X3_readAttribute_W (w : mW) (μ : mM) (p1 : Int) (p2 : Int) (p3 : Int) (Q : mM → Prop) : Prop := ∀ f_cc : Int, μ 76 5 = f_cc → (0 ≤ f_cc ∧ f_cc ≤ 256) → ∀ b709 : Nat, μ 76 4 = (b709 : Int) → mAt w b709 1 → ∀ z712 : Int, μ b709 (p1.toNat) = z712 → (0 ≤ z712 ∧ z712 ≤ 255) → ∀ z715 : Int, bAnd z712 (207 : Int) = z715 → ∀ z718 : Int, μ b709 ((p1 + 1).toNat) = z718 → (0 ≤ z718 ∧ z718 ≤ 255) → ∀ z721 : Int, μ 77 (z718.toNat) = z721 → (0 ≤ z721 ∧ z721 ≤ 1) → ((z721 = 0) → ∀ μ726 : mM, mU μ 77 (z718.toNat) (1 : Int) μ726 → mT w μ726 → (z718 = 1 → ((¬ z715 = 64) → (WJ_X3_readAttribute_W_1 w p1 Q μ726) (0 : Int) μ726) ∧ ((z715 = 64) → WP_X3_readOrigin_W w μ726 p2 p3 (fun z772 μ768 => mT w μ768 → mF [200005] w μ726 μ768 → (0 ≤ z772 ∧ z772 ≤ 1) → ((z772 = 0) → (WJ_X3_readAttribute_W_1 w p1 Q μ726) (0 : Int) μ768) ∧ ((¬ z772 = 0) → (WJ_X3_readAttribute_W_1 w p1 Q μ726) (1 : Int) μ768)))) ∧ (¬ z718 = 1 → (z718 = 2 → ((¬ z715 = 64) → (WJ_X3_readAttribute_W_2 w p1 Q μ726) (0 : Int) μ726) ∧ ((z715 = 64) → WP_X3_readWay_W w μ726 p2 p3 (fun z817 μ813 => mT w μ813 → mF [200007, 201999] w μ726 μ813 → (0 ≤ z817 ∧ z817 ≤ 1) → ((z817 = 0) → (WJ_X3_readAttribute_W_2 w p1 Q μ726) (0 : Int) μ813) ∧ ((¬ z817 = 0) → (WJ_X3_readAttribute_W_2 w p1 Q μ726) (1 : Int) μ813)))) ∧ (¬ z718 = 2 → (z718 = 3 → ∀ z823 : Int, bAnd z712 (128 : Int) = z823 → ((z823 = 0) → (WJ_X3_readAttribute_W_3 w p1 Q z712 z718 μ726) (0 : Int)) ∧ ((¬ z823 = 0) → (WJ_X3_readAttribute_W_3 w p1 Q z712 z718 μ726) (1 : Int))) ∧ (¬ z718 = 3 → (z718 = 4 → ((¬ z715 = 128) → (WJ_X3_readAttribute_W_4 w p1 Q μ726) (0 : Int) μ726) ∧ ((z715 = 128) → WP_X3_readCost_W w μ726 p2 p3 (fun z894 μ890 => mT w μ890 → mF [200006] w μ726 μ890 → (0 ≤ z894 ∧ z894 ≤ 1) → ((z894 = 0) → (WJ_X3_readAttribute_W_4 w p1 Q μ726) (0 : Int) μ890) ∧ ((¬ z894 = 0) → (WJ_X3_readAttribute_W_4 w p1 Q μ726) (1 : Int) μ890)))) ∧ (¬ z718 = 4 → (z718 = 5 → ∀ z900 : Int, bAnd z712 (128 : Int) = z900 → ((z900 = 0) → (WJ_X3_readAttribute_W_5 w p1 Q z712 z718 μ726) (0 : Int)) ∧ ((¬ z900 = 0) → (WJ_X3_readAttribute_W_5 w p1 Q z712 z718 μ726) (1 : Int))) ∧ (¬ z718 = 5 → (z718 = 6 → ∀ z935 : Int, bAnd z712 (128 : Int) = z935 → ((z935 = 0) → (WJ_X3_readAttribute_W_6 w p1 Q z712 z718 μ726) (0 : Int)) ∧ ((¬ z935 = 0) → (WJ_X3_readAttribute_W_6 w p1 Q z712 z718 μ726) (1 : Int))) ∧ (¬ z718 = 6 → (z718 = 7 → ∀ z970 : Int, bAnd z712 (128 : Int) = z970 → ((z970 = 0) → (WJ_X3_readAttribute_W_7 w p1 Q z712 z718 μ726) (0 : Int)) ∧ ((¬ z970 = 0) → (WJ_X3_readAttribute_W_7 w p1 Q z712 z718 μ726) (1 : Int))) ∧ (¬ z718 = 7 → (z718 = 8 → ((¬ z715 = 192) → (WJ_X3_readAttribute_W_8 w p1 Q μ726) (0 : Int) μ726) ∧ ((z715 = 192) → WP_X3_readMarks_W w μ726 p2 p3 (fun z1042 μ1038 => mT w μ1038 → mF [76006, 79999] w μ726 μ1038 → (0 ≤ z1042 ∧ z1042 ≤ 1) → ((z1042 = 0) → (WJ_X3_readAttribute_W_8 w p1 Q μ726) (0 : Int) μ1038) ∧ ((¬ z1042 = 0) → (WJ_X3_readAttribute_W_8 w p1 Q μ726) (1 : Int) μ1038)))) ∧ (¬ z718 = 8 → ∀ z1046 : Int, bAnd z712 (128 : Int) = z1046 → ((z1046 = 0) → (WJ_X3_readAttribute_W_9 w p1 Q z712 z718 μ726) (0 : Int)) ∧ ((¬ z1046 = 0) → (WJ_X3_readAttribute_W_9 w p1 Q z712 z718 μ726) (1 : Int))))))))))) ∧ ((¬ z721 = 0) → WP_X3_note_W w μ (3) p1 (fun μ1080 => mT w μ1080 → mF [80999] w μ μ1080 → Q μ1080))
theorem vc_X3_readAttribute_W_2 {z718 : Int} (h0 : z718 = 1) (h1 : 0 ≤ z718 ∧ z718 ≤ 255) : 1 ≤ z718 ∧ z718 ≤ 1 := by omega
theorem vc_X3_readAttribute_W_4 {f_cc f_s z721 : Int} (h0 : f_cc ≤ f_s) (h1 : z721 = 0) (h2 : ((f_s + 1) - z721) ≤ 256) (h3 : 0 ≤ f_cc ∧ f_cc ≤ 256) (h4 : 0 ≤ f_s ∧ f_s ≤ 256) (h5 : 0 ≤ z721 ∧ z721 ≤ 0) : f_cc ≤ ((f_s + 1) - z721) := by omega
theorem vc_X3_readAttribute_W_6 {z715 : Int} (h0 : z715 = 64) (h1 : 0 ≤ z715 ∧ z715 ≤ 207) : 64 ≤ z715 ∧ z715 ≤ 64 := by omega
theorem vc_X3_readAttribute_W_7 {p2 p3 : Int} (h0 : p2 + p3 ≤ 1000) (h1 : 0 ≤ p2 ∧ p2 ≤ 1000) (h2 : 0 ≤ p3 ∧ p3 ≤ 1000) : p2 + p3 ≤ 1000 := by omega
theorem vc_X3_readAttribute_W_10 {z718 : Int} (h0 : z718 = 2) (h1 : ¬ z718 = 1) (h2 : 0 ≤ z718 ∧ z718 ≤ 255) : 2 ≤ z718 ∧ z718 ≤ 2 := by omega
theorem vc_X3_readAttribute_W_15 {z718 : Int} (h0 : z718 = 3) (h1 : ¬ z718 = 1) (h2 : ¬ z718 = 2) (h3 : 0 ≤ z718 ∧ z718 ≤ 255) : 3 ≤ z718 ∧ z718 ≤ 3 := by omega
theorem vc_X3_readAttribute_W_16 {f_cc f_s z721 : Int} (h0 : f_cc ≤ f_s) (h1 : ((f_s + 1) - z721) ≤ 256) (h2 : 0 ≤ f_cc ∧ f_cc ≤ 256) (h3 : 0 ≤ f_s ∧ f_s ≤ 256) (h4 : 0 ≤ z721 ∧ z721 ≤ 0) : f_cc ≤ 255 := by omega
theorem vc_X3_readAttribute_W_18 {f_cc f_s z721 z836 : Int} (h0 : f_cc ≤ f_s) (h1 : z721 = 0) (h2 : ((f_s + 1) - z721) ≤ 256) (h3 : z836 ≤ f_cc + 1) (h4 : 0 ≤ f_cc ∧ f_cc ≤ 256) (h5 : 0 ≤ f_s ∧ f_s ≤ 256) (h6 : 0 ≤ z721 ∧ z721 ≤ 0) (h7 : 0 ≤ z836 ∧ z836 ≤ 256) : z836 ≤ ((f_s + 1) - z721) := by omega
theorem vc_X3_readAttribute_W_20 {z823 : Int} (h0 : z823 = 0) (h1 : 0 ≤ z823 ∧ z823 ≤ 128) : 0 ≤ z823 ∧ z823 ≤ 0 := by omega
theorem vc_X3_readAttribute_W_21 {z823 : Int} (h0 : ¬ z823 = 0) (h1 : 0 ≤ z823 ∧ z823 ≤ 128) : 1 ≤ z823 ∧ z823 ≤ 128 := by omega
theorem vc_X3_readAttribute_W_22 {z718 : Int} (h0 : z718 = 4) (h1 : ¬ z718 = 1) (h2 : ¬ z718 = 2) (h3 : ¬ z718 = 3) (h4 : 0 ≤ z718 ∧ z718 ≤ 255) : 4 ≤ z718 ∧ z718 ≤ 4 := by omega
theorem vc_X3_readAttribute_W_25 {z715 : Int} (h0 : z715 = 128) (h1 : 0 ≤ z715 ∧ z715 ≤ 207) : 128 ≤ z715 ∧ z715 ≤ 128 := by omega
theorem vc_X3_readAttribute_W_28 {z718 : Int} (h0 : z718 = 5) (h1 : ¬ z718 = 1) (h2 : ¬ z718 = 2) (h3 : ¬ z718 = 3) (h4 : ¬ z718 = 4) (h5 : 0 ≤ z718 ∧ z718 ≤ 255) : 5 ≤ z718 ∧ z718 ≤ 5 := by omega
theorem vc_X3_readAttribute_W_34 {z718 : Int} (h0 : z718 = 6) (h1 : ¬ z718 = 1) (h2 : ¬ z718 = 2) (h3 : ¬ z718 = 3) (h4 : ¬ z718 = 4) (h5 : ¬ z718 = 5) (h6 : 0 ≤ z718 ∧ z718 ≤ 255) : 6 ≤ z718 ∧ z718 ≤ 6 := by omega
theorem vc_X3_readAttribute_W_40 {z718 : Int} (h0 : z718 = 7) (h1 : ¬ z718 = 1) (h2 : ¬ z718 = 2) (h3 : ¬ z718 = 3) (h4 : ¬ z718 = 4) (h5 : ¬ z718 = 5) (h6 : ¬ z718 = 6) (h7 : 0 ≤ z718 ∧ z718 ≤ 255) : 7 ≤ z718 ∧ z718 ≤ 7 := by omega
theorem vc_X3_readAttribute_W_46 {z718 : Int} (h0 : z718 = 8) (h1 : ¬ z718 = 1) (h2 : ¬ z718 = 2) (h3 : ¬ z718 = 3) (h4 : ¬ z718 = 4) (h5 : ¬ z718 = 5) (h6 : ¬ z718 = 6) (h7 : ¬ z718 = 7) (h8 : 0 ≤ z718 ∧ z718 ≤ 255) : 8 ≤ z718 ∧ z718 ≤ 8 := by omega
theorem vc_X3_readAttribute_W_49 {z715 : Int} (h0 : z715 = 192) (h1 : 0 ≤ z715 ∧ z715 ≤ 207) : 192 ≤ z715 ∧ z715 ≤ 192 := by omega
theorem vc_X3_readAttribute_W_52 {z718 : Int} (h0 : ¬ z718 = 1) (h1 : ¬ z718 = 2) (h2 : ¬ z718 = 3) (h3 : ¬ z718 = 4) (h4 : ¬ z718 = 5) (h5 : ¬ z718 = 6) (h6 : ¬ z718 = 7) (h7 : ¬ z718 = 8) (h8 : 0 ≤ z718 ∧ z718 ≤ 255) : z718 < 1 ∨ 8 < z718 := by omega
theorem vc_X3_readAttribute_W_54 {f_cc f_s z1059 z721 : Int} (h0 : f_cc ≤ f_s) (h1 : z721 = 0) (h2 : ((f_s + 1) - z721) ≤ 256) (h3 : z1059 ≤ f_cc + 1) (h4 : 0 ≤ f_cc ∧ f_cc ≤ 256) (h5 : 0 ≤ f_s ∧ f_s ≤ 256) (h6 : 0 ≤ z1059 ∧ z1059 ≤ 256) (h7 : 0 ≤ z721 ∧ z721 ≤ 0) : z1059 ≤ ((f_s + 1) - z721) := by omega
theorem vc_X3_readAttribute_W_59 {f_cc f_s : Int} (h0 : f_cc ≤ f_s) (h1 : 0 ≤ f_cc ∧ f_cc ≤ 256) (h2 : 0 ≤ f_s ∧ f_s ≤ 256) : f_cc ≤ f_s := by omega
set_option maxRecDepth 4000 in
set_option maxHeartbeats 4000000 in
theorem c_X3_readAttribute_W {l : Launch} {D : va_G} {c : Nat → ClassId} {H0 : Heap} {sa : Nat × Nat × (Nat → Int32)} {w : mW} {μ : mM} (hw : mWF w) (hT : mT w μ) {p1 : Int} (hp1 : 0 ≤ p1 ∧ p1 ≤ 998) {p2 : Int} (hp2 : 0 ≤ p2 ∧ p2 ≤ 1000) {p3 : Int} (hp3 : 0 ≤ p3 ∧ p3 ≤ 1000) {f_cc : Int} (q_f_cc : μ 76 5 = f_cc) {f_s : Int} (q_f_s : cnt μ 77 256 = f_s) (hq0 : p2 + p3 ≤ 1000) (hq1 : f_cc ≤ f_s) (hIOC : OC μ) {Q : mM → Prop} (hQ : WP_X3_readAttribute_W w μ p1 p2 p3 Q) : sC (gG l D c H0 sa) mX3_readAttribute 4 0 0 [.ref 76, iv p1, iv p2, iv p3] (mk w μ) (qV w [76005, 76006, 76007, 76008, 77999, 78999, 79999, 80999, 200005, 200006, 200007, 201999] μ (fun μ1 => ∃ o_cc o_s : Int, μ1 76 5 = o_cc ∧ cnt μ1 77 256 = o_s ∧ (o_cc ≤ o_s) ∧ Q μ1 ∧ True)) := by
  refine sC.of rfl (by decide) (le_t rfl) ?_
  have ht_f_cc : (0 ≤ f_cc ∧ f_cc ≤ 256) := by rw [← q_f_cc]; exact hT 76 76 (A_76 hw) 5
  have ht_f_s : 0 ≤ f_s ∧ f_s ≤ 256 := by rw [← q_f_s]; exact cnt_rng (fun i => hT 77 77 (A_77 hw) i) 256
  refine mr_lvE (lv' := [(0, .ref 76), (1, iv p1), (2, iv p2), (3, iv p3)]) rfl ?_
  refine sv_aload_n (pc := 0) dX3_readAttribute_0 rfl rfl ?_
  refine gf_X3_4 (pc := 1) dX3_readAttribute_1 wF_X3_41 (A_76 hw) hT hIOC fun b709 q710 A711 => ?_
  refine mr_iload_n (pc := 4) (z := p1) dX3_readAttribute_4 rfl rfl ?_
  refine la_1 (pc := 5) dX3_readAttribute_5 A711 hT (rIx (n := 1000) hp1 rfl) fun z712 q713 h714 => ?_
  refine mr_istore (pc := 6) (lv' := [(4, iv z712), (0, .ref 76), (1, iv p1), (2, iv p2), (3, iv p3)]) dX3_readAttribute_6 (by decide) rfl ?_
  refine mr_iload (pc := 8) (z := z712) dX3_readAttribute_8 rfl ?_
  refine mr_sipush (pc := 10) (z := 207) dX3_readAttribute_10 (by decide) ?_
  refine mr_iand (pc := 13) (x := z712) (y := 207) dX3_readAttribute_13 ?_
  refine mr_gen (P := fun z => 0 ≤ z ∧ z ≤ 207) (rAndR (rR (x := 207)) rfl) fun z715 q716 h717 => ?_
  refine mr_istore (pc := 14) (lv' := [(5, iv z715), (4, iv z712), (0, .ref 76), (1, iv p1), (2, iv p2), (3, iv p3)]) dX3_readAttribute_14 (by decide) rfl ?_
  refine sv_aload_n (pc := 16) dX3_readAttribute_16 rfl rfl ?_
  refine gk_X3_4 (pc := 17) dX3_readAttribute_17 wF_X3_41 (A_76 hw) q710 ?_
  refine mr_iload_n (pc := 20) (z := p1) dX3_readAttribute_20 rfl rfl ?_
  refine mr_iconst (pc := 21) (z := 1) dX3_readAttribute_21 ?_
  refine mr_iadd (pc := 22) (x := p1) (y := 1) dX3_readAttribute_22 ?_
  refine la_1 (pc := 23) dX3_readAttribute_23 A711 hT (rIx (n := 1000) (rAdd (e := 1) (f := 999) hp1 (rR (x := 1)) rfl) rfl) fun z718 q719 h720 => ?_
  refine mr_istore (pc := 24) (lv' := [(6, iv z718), (5, iv z715), (4, iv z712), (0, .ref 76), (1, iv p1), (2, iv p2), (3, iv p3)]) dX3_readAttribute_24 (by decide) rfl ?_
  refine sv_aload_n (pc := 26) dX3_readAttribute_26 rfl rfl ?_
  refine gf_X3_0 (pc := 27) dX3_readAttribute_27 wF_X3_11 (A_76 hw) hT ?_
  refine mr_iload (pc := 30) (z := z718) dX3_readAttribute_30 rfl ?_
  refine la_77 (pc := 32) dX3_readAttribute_32 (A_77 hw) hT (rIx (n := 256) h720 rfl) fun z721 q722 h723 => ?_
  refine mr_if_eq (pc := 33) (tgt := 43) dX3_readAttribute_33 (by decide) (r32 h723 rfl) (fun h724 => ?_) (fun h724 => ?_)
  · have h725 : 0 ≤ z721 ∧ z721 ≤ 0 := (vc_X12_ring_22 h724 h723)
    refine sv_aload_n (pc := 43) dX3_readAttribute_43 rfl rfl ?_
    refine gf_X3_0 (pc := 44) dX3_readAttribute_44 wF_X3_11 (A_76 hw) hT ?_
    refine mr_iload (pc := 47) (z := z718) dX3_readAttribute_47 rfl ?_
    refine mr_iconst (pc := 49) (z := 1) dX3_readAttribute_49 ?_
    refine ss_77 (pc := 50) dX3_readAttribute_50 (A_77 hw) hT (rIx (n := 256) h720 rfl) (rW (c := 0) (d := 1) (rR (x := 1)) rfl) fun μ726 u727 T728 => ?_
    have h729 : ((f_s + 1) - z721) ≤ 256 := by have h := (cnt_rng (fun i => T728 77 77 (A_77 hw) i) 256 : 0 ≤ cnt μ726 77 256 ∧ cnt μ726 77 256 ≤ ((256 : Nat) : Int)).2; rw [(cntU u727 (rIx (n := 256) h720 rfl) rfl q_f_s q722)] at h; exact h
    refine mr_iload (pc := 51) (z := z718) dX3_readAttribute_51 rfl ?_
    have W731 := ((((((((hQ f_cc q_f_cc ht_f_cc) b709 q710 A711) z712 q713 h714) z715 q716) z718 q719 h720) z721 q722 h723).1 h724) μ726 u727 T728)
    by_cases h730 : z718 = 1
    · refine mr_tableIn (pc := 53) (v := 1) (tgt := 100) dX3_readAttribute_53 h730 rfl rfl (by decide) ?_
      have h732 : 1 ≤ z718 ∧ z718 ≤ 1 := (vc_X3_readAttribute_W_2 h730 h720)
      refine sv_aload_n (pc := 100) dX3_readAttribute_100 rfl rfl ?_
      refine mr_iload (pc := 101) (z := z715) dX3_readAttribute_101 rfl ?_
      refine mr_bipush (pc := 103) (z := 64) dX3_readAttribute_103 (by decide) ?_
      have J748 : ∀ (z741 : Int) (μ743 : mM), (mT w μ743) → (mF [200005] w μ726 μ743) → ((0 ≤ z741 ∧ z741 ≤ 1)) → (OC μ743) → ((WJ_X3_readAttribute_W_1 w p1 Q μ726) z741 μ743) → sV (gG l D c H0 sa) mX3_readAttribute (sRm 4 0 0) (sZ (gG l D c H0 sa) 0 0 (qV w [76005, 76006, 76007, 76008, 77999, 78999, 79999, 80999, 200005, 200006, 200007, 201999] μ (fun μ1 => ∃ o_cc o_s : Int, μ1 76 5 = o_cc ∧ cnt μ1 77 256 = o_s ∧ (o_cc ≤ o_s) ∧ Q μ1 ∧ True))) 122 [(0, .ref 76), (1, iv p1)] [iv z741, .ref 76] (mk w μ743) 0 0 := by
        intro z741 μ743 T744 F745 h742 I747 W749
        refine pf_X3_7 (pc := 122) dX3_readAttribute_122 wF_X3_82 (A_76 hw) T744 h742 fun μ750 u751 T752 => ?_
        refine sv_aload_n (pc := 125) dX3_readAttribute_125 rfl rfl ?_
        refine gk_X3_7 (pc := 126) dX3_readAttribute_126 wF_X3_82 (A_76 hw) u751.1 ?_
        refine mr_istore (pc := 129) (lv' := [(7, iv z741), (0, .ref 76), (1, iv p1)]) dX3_readAttribute_129 (by decide) rfl ?_
        refine sv_goto (pc := 131) (tgt := 246) dX3_readAttribute_131 (by decide) ?_
        refine mr_iload (pc := 246) (z := z741) dX3_readAttribute_246 rfl ?_
        refine mr_if_ne (pc := 248) (tgt := 257) dX3_readAttribute_248 (by decide) (r32 h742 rfl) (fun h759 => ?_) (fun h759 => ?_)
        · have h760 : 1 ≤ z741 ∧ z741 ≤ 1 := (vc_X12_ring_24 h759 h742)
          exact mr_vret dX3_readAttribute_257 rfl (le_t rfl) (le_t rfl) T752 (mF.up (mF.call (mF.up mF.refl (A_77 hw) u727 rfl) F745 rfl) (A_76 hw) u751 rfl) ⟨f_cc, ((f_s + 1) - z721), (u751.f (Or.inr (by decide)) (F745.f (A_76 hw) rfl (u727.f (Or.inl (mAt.ne (A_77 hw) (A_76 hw) rfl)) q_f_cc))), (cntO u751 (by decide) (cntF F745 (A_77 hw) rfl rfl (cntU u727 (rIx (n := 256) h720 rfl) rfl q_f_s q722))), (vc_X3_readAttribute_W_4 hq1 h724 h729 ht_f_cc ht_f_s h725), (((W749 h742 T744 F745) μ750 u751 T752).1 h759), trivial⟩
        have h761 : 0 ≤ z741 ∧ z741 ≤ 0 := (vc_X12_ring_22 h759 h742)
        refine sv_aload_n (pc := 251) dX3_readAttribute_251 rfl rfl ?_
        refine mr_iconst (pc := 252) (z := 2) dX3_readAttribute_252 ?_
        refine mr_iload_n (pc := 253) (z := p1) dX3_readAttribute_253 rfl rfl ?_
        refine mr_cVV (pc := 254) (c_X3_note_W hw T752 (rW (c := 0) (d := 3) (rR (x := 2)) rfl) (rW (c := (-2147483648)) (d := 2147483647) hp1 rfl) (((W749 h742 T744 F745) μ750 u751 T752).2 h759)) (gOk _ _ _ _ _) dX3_readAttribute_254 (tX3_note _ _ _ _ _) ⟨wV_X3_note, wL_X3_note⟩ wM_X3_92 (gCX3 _ _ _ _ _) rfl (A_76 hw) rfl ⟨le_t rfl, le_t rfl⟩ ⟨le_t rfl, le_t rfl⟩ rfl (le_t rfl) fun μ762 T763 F764 h765 => ?_
        exact mr_vret dX3_readAttribute_257 rfl (le_t rfl) (le_t rfl) T763 (mF.call (mF.up (mF.call (mF.up mF.refl (A_77 hw) u727 rfl) F745 rfl) (A_76 hw) u751 rfl) F764 rfl) ⟨f_cc, ((f_s + 1) - z721), (F764.f (A_76 hw) rfl (u751.f (Or.inr (by decide)) (F745.f (A_76 hw) rfl (u727.f (Or.inl (mAt.ne (A_77 hw) (A_76 hw) rfl)) q_f_cc)))), (cntF F764 (A_77 hw) rfl rfl (cntO u751 (by decide) (cntF F745 (A_77 hw) rfl rfl (cntU u727 (rIx (n := 256) h720 rfl) rfl q_f_s q722)))), (vc_X3_readAttribute_W_4 hq1 h724 h729 ht_f_cc ht_f_s h725), (h765.1 T763 F764), trivial⟩
      refine mr_icmp_ne (pc := 105) (tgt := 121) dX3_readAttribute_105 (by decide) (r32 h717 rfl) (r32 (rR (x := 64)) rfl) (fun h766 => ?_) (fun h766 => ?_)
      · refine mr_iconst (pc := 121) (z := 0) dX3_readAttribute_121 ?_
        refine mr_lvS (lv' := [(0, .ref 76), (1, iv p1)]) (List.forall_mem_cons.mpr ⟨rfl, List.forall_mem_cons.mpr ⟨rfl, fun _ h => absurd h List.not_mem_nil⟩⟩) ?_
        exact J748 0 μ726 T728 mF.refl (rW (c := 0) (d := 1) (rR (x := 0)) rfl) (OC.keep hIOC hw ((mF.up mF.refl (A_77 hw) u727 rfl) : mF [77999] w μ μ726) rfl) ((W731.1 h730).1 h766)
      have h767 : 64 ≤ z715 ∧ z715 ≤ 64 := (vc_X3_readAttribute_W_6 h766 h717)
      refine sv_aload_n (pc := 108) dX3_readAttribute_108 rfl rfl ?_
      refine mr_iload_n (pc := 109) (z := p2) dX3_readAttribute_109 rfl rfl ?_
      refine mr_iload_n (pc := 110) (z := p3) dX3_readAttribute_110 rfl rfl ?_
      refine mr_cVI (pc := 111) (c_X3_readOrigin_W hw T728 hp2 (rW (c := (-2147483648)) (d := 2147483647) hp3 rfl) (vc_X3_readAttribute_W_7 hq0 hp2 hp3) (OC.keep hIOC hw ((mF.up mF.refl (A_77 hw) u727 rfl) : mF [77999] w μ μ726) rfl) ((W731.1 h730).2 h766)) (gOk _ _ _ _ _) dX3_readAttribute_111 (tX3_readOrigin _ _ _ _ _) ⟨wV_X3_readOrigin, wL_X3_readOrigin⟩ wM_X3_111 (gCX3 _ _ _ _ _) rfl (A_76 hw) rfl ⟨le_t rfl, le_t rfl⟩ ⟨le_t rfl, le_t rfl⟩ rfl (le_t rfl) fun z772 μ768 T769 F770 h771 => ?_
      refine mr_if_eq (pc := 114) (tgt := 121) dX3_readAttribute_114 (by decide) (r32 h771.1 rfl) (fun h773 => ?_) (fun h773 => ?_)
      · have h774 : 0 ≤ z772 ∧ z772 ≤ 0 := (vc_X12_ring_22 h773 h771.1)
        refine mr_iconst (pc := 121) (z := 0) dX3_readAttribute_121 ?_
        refine mr_lvS (lv' := [(0, .ref 76), (1, iv p1)]) (List.forall_mem_cons.mpr ⟨rfl, List.forall_mem_cons.mpr ⟨rfl, fun _ h => absurd h List.not_mem_nil⟩⟩) ?_
        exact J748 0 μ768 T769 (mF.call mF.refl F770 rfl) (rW (c := 0) (d := 1) (rR (x := 0)) rfl) (OC.keep hIOC hw ((mF.call (mF.up mF.refl (A_77 hw) u727 rfl) F770 rfl) : mF [77999, 200005] w μ μ768) rfl) (((h771.2.1 T769 F770) h771.1).1 h773)
      have h775 : 1 ≤ z772 ∧ z772 ≤ 1 := (vc_X12_ring_24 h773 h771.1)
      refine mr_iconst (pc := 117) (z := 1) dX3_readAttribute_117 ?_
      refine sv_goto (pc := 118) (tgt := 122) dX3_readAttribute_118 (by decide) ?_
      refine mr_lvS (lv' := [(0, .ref 76), (1, iv p1)]) (List.forall_mem_cons.mpr ⟨rfl, List.forall_mem_cons.mpr ⟨rfl, fun _ h => absurd h List.not_mem_nil⟩⟩) ?_
      exact J748 1 μ768 T769 (mF.call mF.refl F770 rfl) (rW (c := 0) (d := 1) (rR (x := 1)) rfl) (OC.keep hIOC hw ((mF.call (mF.up mF.refl (A_77 hw) u727 rfl) F770 rfl) : mF [77999, 200005] w μ μ768) rfl) (((h771.2.1 T769 F770) h771.1).2 h773)
    by_cases h776 : z718 = 2
    · refine mr_tableIn (pc := 53) (v := 2) (tgt := 134) dX3_readAttribute_53 h776 rfl rfl (by decide) ?_
      have h777 : 2 ≤ z718 ∧ z718 ≤ 2 := (vc_X3_readAttribute_W_10 h776 h730 h720)
      refine sv_aload_n (pc := 134) dX3_readAttribute_134 rfl rfl ?_
      refine mr_iload (pc := 135) (z := z715) dX3_readAttribute_135 rfl ?_
      refine mr_bipush (pc := 137) (z := 64) dX3_readAttribute_137 (by decide) ?_
      have J793 : ∀ (z786 : Int) (μ788 : mM), (mT w μ788) → (mF [200007, 201999] w μ726 μ788) → ((0 ≤ z786 ∧ z786 ≤ 1)) → (OC μ788) → ((WJ_X3_readAttribute_W_2 w p1 Q μ726) z786 μ788) → sV (gG l D c H0 sa) mX3_readAttribute (sRm 4 0 0) (sZ (gG l D c H0 sa) 0 0 (qV w [76005, 76006, 76007, 76008, 77999, 78999, 79999, 80999, 200005, 200006, 200007, 201999] μ (fun μ1 => ∃ o_cc o_s : Int, μ1 76 5 = o_cc ∧ cnt μ1 77 256 = o_s ∧ (o_cc ≤ o_s) ∧ Q μ1 ∧ True))) 156 [(0, .ref 76), (1, iv p1)] [iv z786, .ref 76] (mk w μ788) 0 0 := by
        intro z786 μ788 T789 F790 h787 I792 W794
        refine pf_X3_8 (pc := 156) dX3_readAttribute_156 wF_X3_85 (A_76 hw) T789 h787 fun μ795 u796 T797 => ?_
        refine sv_aload_n (pc := 159) dX3_readAttribute_159 rfl rfl ?_
        refine gk_X3_8 (pc := 160) dX3_readAttribute_160 wF_X3_85 (A_76 hw) u796.1 ?_
        refine mr_istore (pc := 163) (lv' := [(7, iv z786), (0, .ref 76), (1, iv p1)]) dX3_readAttribute_163 (by decide) rfl ?_
        refine sv_goto (pc := 165) (tgt := 246) dX3_readAttribute_165 (by decide) ?_
        refine mr_iload (pc := 246) (z := z786) dX3_readAttribute_246 rfl ?_
        refine mr_if_ne (pc := 248) (tgt := 257) dX3_readAttribute_248 (by decide) (r32 h787 rfl) (fun h804 => ?_) (fun h804 => ?_)
        · have h805 : 1 ≤ z786 ∧ z786 ≤ 1 := (vc_X12_ring_24 h804 h787)
          exact mr_vret dX3_readAttribute_257 rfl (le_t rfl) (le_t rfl) T797 (mF.up (mF.call (mF.up mF.refl (A_77 hw) u727 rfl) F790 rfl) (A_76 hw) u796 rfl) ⟨f_cc, ((f_s + 1) - z721), (u796.f (Or.inr (by decide)) (F790.f (A_76 hw) rfl (u727.f (Or.inl (mAt.ne (A_77 hw) (A_76 hw) rfl)) q_f_cc))), (cntO u796 (by decide) (cntF F790 (A_77 hw) rfl rfl (cntU u727 (rIx (n := 256) h720 rfl) rfl q_f_s q722))), (vc_X3_readAttribute_W_4 hq1 h724 h729 ht_f_cc ht_f_s h725), (((W794 h787 T789 F790) μ795 u796 T797).1 h804), trivial⟩
        have h806 : 0 ≤ z786 ∧ z786 ≤ 0 := (vc_X12_ring_22 h804 h787)
        refine sv_aload_n (pc := 251) dX3_readAttribute_251 rfl rfl ?_
        refine mr_iconst (pc := 252) (z := 2) dX3_readAttribute_252 ?_
        refine mr_iload_n (pc := 253) (z := p1) dX3_readAttribute_253 rfl rfl ?_
        refine mr_cVV (pc := 254) (c_X3_note_W hw T797 (rW (c := 0) (d := 3) (rR (x := 2)) rfl) (rW (c := (-2147483648)) (d := 2147483647) hp1 rfl) (((W794 h787 T789 F790) μ795 u796 T797).2 h804)) (gOk _ _ _ _ _) dX3_readAttribute_254 (tX3_note _ _ _ _ _) ⟨wV_X3_note, wL_X3_note⟩ wM_X3_92 (gCX3 _ _ _ _ _) rfl (A_76 hw) rfl ⟨le_t rfl, le_t rfl⟩ ⟨le_t rfl, le_t rfl⟩ rfl (le_t rfl) fun μ807 T808 F809 h810 => ?_
        exact mr_vret dX3_readAttribute_257 rfl (le_t rfl) (le_t rfl) T808 (mF.call (mF.up (mF.call (mF.up mF.refl (A_77 hw) u727 rfl) F790 rfl) (A_76 hw) u796 rfl) F809 rfl) ⟨f_cc, ((f_s + 1) - z721), (F809.f (A_76 hw) rfl (u796.f (Or.inr (by decide)) (F790.f (A_76 hw) rfl (u727.f (Or.inl (mAt.ne (A_77 hw) (A_76 hw) rfl)) q_f_cc)))), (cntF F809 (A_77 hw) rfl rfl (cntO u796 (by decide) (cntF F790 (A_77 hw) rfl rfl (cntU u727 (rIx (n := 256) h720 rfl) rfl q_f_s q722)))), (vc_X3_readAttribute_W_4 hq1 h724 h729 ht_f_cc ht_f_s h725), (h810.1 T808 F809), trivial⟩
      refine mr_icmp_ne (pc := 139) (tgt := 155) dX3_readAttribute_139 (by decide) (r32 h717 rfl) (r32 (rR (x := 64)) rfl) (fun h811 => ?_) (fun h811 => ?_)
      · refine mr_iconst (pc := 155) (z := 0) dX3_readAttribute_155 ?_
        refine mr_lvS (lv' := [(0, .ref 76), (1, iv p1)]) (List.forall_mem_cons.mpr ⟨rfl, List.forall_mem_cons.mpr ⟨rfl, fun _ h => absurd h List.not_mem_nil⟩⟩) ?_
        exact J793 0 μ726 T728 mF.refl (rW (c := 0) (d := 1) (rR (x := 0)) rfl) (OC.keep hIOC hw ((mF.up mF.refl (A_77 hw) u727 rfl) : mF [77999] w μ μ726) rfl) (((W731.2 h730).1 h776).1 h811)
      have h812 : 64 ≤ z715 ∧ z715 ≤ 64 := (vc_X3_readAttribute_W_6 h811 h717)
      refine sv_aload_n (pc := 142) dX3_readAttribute_142 rfl rfl ?_
      refine mr_iload_n (pc := 143) (z := p2) dX3_readAttribute_143 rfl rfl ?_
      refine mr_iload_n (pc := 144) (z := p3) dX3_readAttribute_144 rfl rfl ?_
      refine mr_cVI (pc := 145) (c_X3_readWay_W hw T728 hp2 hp3 (vc_X3_readAttribute_W_7 hq0 hp2 hp3) (OC.keep hIOC hw ((mF.up mF.refl (A_77 hw) u727 rfl) : mF [77999] w μ μ726) rfl) (((W731.2 h730).1 h776).2 h811)) (gOk _ _ _ _ _) dX3_readAttribute_145 (tX3_readWay _ _ _ _ _) ⟨wV_X3_readWay, wL_X3_readWay⟩ wM_X3_115 (gCX3 _ _ _ _ _) rfl (A_76 hw) rfl ⟨le_t rfl, le_t rfl⟩ ⟨le_t rfl, le_t rfl⟩ rfl (le_t rfl) fun z817 μ813 T814 F815 h816 => ?_
      refine mr_if_eq (pc := 148) (tgt := 155) dX3_readAttribute_148 (by decide) (r32 h816.1 rfl) (fun h818 => ?_) (fun h818 => ?_)
      · have h819 : 0 ≤ z817 ∧ z817 ≤ 0 := (vc_X12_ring_22 h818 h816.1)
        refine mr_iconst (pc := 155) (z := 0) dX3_readAttribute_155 ?_
        refine mr_lvS (lv' := [(0, .ref 76), (1, iv p1)]) (List.forall_mem_cons.mpr ⟨rfl, List.forall_mem_cons.mpr ⟨rfl, fun _ h => absurd h List.not_mem_nil⟩⟩) ?_
        exact J793 0 μ813 T814 (mF.call mF.refl F815 rfl) (rW (c := 0) (d := 1) (rR (x := 0)) rfl) (OC.keep hIOC hw ((mF.call (mF.up mF.refl (A_77 hw) u727 rfl) F815 rfl) : mF [77999, 200007, 201999] w μ μ813) rfl) (((h816.2.1 T814 F815) h816.1).1 h818)
      have h820 : 1 ≤ z817 ∧ z817 ≤ 1 := (vc_X12_ring_24 h818 h816.1)
      refine mr_iconst (pc := 151) (z := 1) dX3_readAttribute_151 ?_
      refine sv_goto (pc := 152) (tgt := 156) dX3_readAttribute_152 (by decide) ?_
      refine mr_lvS (lv' := [(0, .ref 76), (1, iv p1)]) (List.forall_mem_cons.mpr ⟨rfl, List.forall_mem_cons.mpr ⟨rfl, fun _ h => absurd h List.not_mem_nil⟩⟩) ?_
      exact J793 1 μ813 T814 (mF.call mF.refl F815 rfl) (rW (c := 0) (d := 1) (rR (x := 1)) rfl) (OC.keep hIOC hw ((mF.call (mF.up mF.refl (A_77 hw) u727 rfl) F815 rfl) : mF [77999, 200007, 201999] w μ μ813) rfl) (((h816.2.1 T814 F815) h816.1).2 h818)
    by_cases h821 : z718 = 3
    · refine mr_tableIn (pc := 53) (v := 3) (tgt := 222) dX3_readAttribute_53 h821 rfl rfl (by decide) ?_
      have h822 : 3 ≤ z718 ∧ z718 ≤ 3 := (vc_X3_readAttribute_W_15 h821 h730 h776 h720)
      refine mr_iload (pc := 222) (z := z712) dX3_readAttribute_222 rfl ?_
      refine mr_sipush (pc := 224) (z := 128) dX3_readAttribute_224 (by decide) ?_
      refine mr_iand (pc := 227) (x := z712) (y := 128) dX3_readAttribute_227 ?_
      refine mr_gen (P := fun z => 0 ≤ z ∧ z ≤ 128) (rAndR (rR (x := 128)) rfl) fun z823 q824 h825 => ?_
      have J830 : ∀ (z828 : Int), ((0 ≤ z828 ∧ z828 ≤ 1)) → ((WJ_X3_readAttribute_W_3 w p1 Q z712 z718 μ726) z828) → sV (gG l D c H0 sa) mX3_readAttribute (sRm 4 0 0) (sZ (gG l D c H0 sa) 0 0 (qV w [76005, 76006, 76007, 76008, 77999, 78999, 79999, 80999, 200005, 200006, 200007, 201999] μ (fun μ1 => ∃ o_cc o_s : Int, μ1 76 5 = o_cc ∧ cnt μ1 77 256 = o_s ∧ (o_cc ≤ o_s) ∧ Q μ1 ∧ True))) 236 [(0, .ref 76), (1, iv p1), (4, iv z712), (6, iv z718)] [iv z828] (mk w μ726) 0 0 := by
        intro z828 h829 W831
        refine mr_istore (pc := 236) (lv' := [(7, iv z828), (0, .ref 76), (1, iv p1), (4, iv z712), (6, iv z718)]) dX3_readAttribute_236 (by decide) rfl ?_
        refine sv_aload_n (pc := 238) dX3_readAttribute_238 rfl rfl ?_
        refine mr_iload (pc := 239) (z := z712) dX3_readAttribute_239 rfl ?_
        refine mr_iload (pc := 241) (z := z718) dX3_readAttribute_241 rfl ?_
        refine mr_cVV (pc := 243) (c_X3_carry_W hw T728 (rW (c := (-2147483648)) (d := 2147483647) h714 rfl) (rW (c := (-2147483648)) (d := 2147483647) h822 rfl) (u727.f (Or.inl (mAt.ne (A_77 hw) (A_76 hw) rfl)) q_f_cc) (vc_X3_readAttribute_W_16 hq1 h729 ht_f_cc ht_f_s h725) (W831 h829)) (gOk _ _ _ _ _) dX3_readAttribute_243 (tX3_carry _ _ _ _ _) ⟨wV_X3_carry, wL_X3_carry⟩ wM_X3_124 (gCX3 _ _ _ _ _) rfl (A_76 hw) rfl ⟨le_t rfl, le_t rfl⟩ ⟨le_t rfl, le_t rfl⟩ rfl (le_t rfl) fun μ832 T833 F834 h835 => ?_
        obtain ⟨z836, q837, h838⟩ := h835
        have h839 : (0 ≤ z836 ∧ z836 ≤ 256) := by rw [← q837]; exact T833 76 76 (A_76 hw) 5
        refine mr_iload (pc := 246) (z := z828) dX3_readAttribute_246 rfl ?_
        refine mr_if_ne (pc := 248) (tgt := 257) dX3_readAttribute_248 (by decide) (r32 h829 rfl) (fun h846 => ?_) (fun h846 => ?_)
        · have h847 : 1 ≤ z828 ∧ z828 ≤ 1 := (vc_X12_ring_24 h846 h829)
          exact mr_vret dX3_readAttribute_257 rfl (le_t rfl) (le_t rfl) T833 (mF.call (mF.up mF.refl (A_77 hw) u727 rfl) F834 rfl) ⟨z836, ((f_s + 1) - z721), q837, (cntF F834 (A_77 hw) rfl rfl (cntU u727 (rIx (n := 256) h720 rfl) rfl q_f_s q722)), (vc_X3_readAttribute_W_18 hq1 h724 h729 h838.1 ht_f_cc ht_f_s h725 h839), (((h838.2.1 T833 F834) z836 q837).1 h846), trivial⟩
        have h848 : 0 ≤ z828 ∧ z828 ≤ 0 := (vc_X12_ring_22 h846 h829)
        refine sv_aload_n (pc := 251) dX3_readAttribute_251 rfl rfl ?_
        refine mr_iconst (pc := 252) (z := 2) dX3_readAttribute_252 ?_
        refine mr_iload_n (pc := 253) (z := p1) dX3_readAttribute_253 rfl rfl ?_
        refine mr_cVV (pc := 254) (c_X3_note_W hw T833 (rW (c := 0) (d := 3) (rR (x := 2)) rfl) (rW (c := (-2147483648)) (d := 2147483647) hp1 rfl) (((h838.2.1 T833 F834) z836 q837).2 h846)) (gOk _ _ _ _ _) dX3_readAttribute_254 (tX3_note _ _ _ _ _) ⟨wV_X3_note, wL_X3_note⟩ wM_X3_92 (gCX3 _ _ _ _ _) rfl (A_76 hw) rfl ⟨le_t rfl, le_t rfl⟩ ⟨le_t rfl, le_t rfl⟩ rfl (le_t rfl) fun μ849 T850 F851 h852 => ?_
        exact mr_vret dX3_readAttribute_257 rfl (le_t rfl) (le_t rfl) T850 (mF.call (mF.call (mF.up mF.refl (A_77 hw) u727 rfl) F834 rfl) F851 rfl) ⟨z836, ((f_s + 1) - z721), (F851.f (A_76 hw) rfl q837), (cntF F851 (A_77 hw) rfl rfl (cntF F834 (A_77 hw) rfl rfl (cntU u727 (rIx (n := 256) h720 rfl) rfl q_f_s q722))), (vc_X3_readAttribute_W_18 hq1 h724 h729 h838.1 ht_f_cc ht_f_s h725 h839), (h852.1 T850 F851), trivial⟩
      refine mr_if_eq (pc := 228) (tgt := 235) dX3_readAttribute_228 (by decide) (r32 h825 rfl) (fun h853 => ?_) (fun h853 => ?_)
      · have h854 : 0 ≤ z823 ∧ z823 ≤ 0 := (vc_X3_readAttribute_W_20 h853 h825)
        refine mr_iconst (pc := 235) (z := 0) dX3_readAttribute_235 ?_
        refine mr_lvS (lv' := [(0, .ref 76), (1, iv p1), (4, iv z712), (6, iv z718)]) (List.forall_mem_cons.mpr ⟨rfl, List.forall_mem_cons.mpr ⟨rfl, List.forall_mem_cons.mpr ⟨rfl, List.forall_mem_cons.mpr ⟨rfl, fun _ h => absurd h List.not_mem_nil⟩⟩⟩⟩) ?_
        exact J830 0 (rW (c := 0) (d := 1) (rR (x := 0)) rfl) (((((W731.2 h730).2 h776).1 h821) z823 q824).1 h853)
      have h855 : 1 ≤ z823 ∧ z823 ≤ 128 := (vc_X3_readAttribute_W_21 h853 h825)
      refine mr_iconst (pc := 231) (z := 1) dX3_readAttribute_231 ?_
      refine sv_goto (pc := 232) (tgt := 236) dX3_readAttribute_232 (by decide) ?_
      refine mr_lvS (lv' := [(0, .ref 76), (1, iv p1), (4, iv z712), (6, iv z718)]) (List.forall_mem_cons.mpr ⟨rfl, List.forall_mem_cons.mpr ⟨rfl, List.forall_mem_cons.mpr ⟨rfl, List.forall_mem_cons.mpr ⟨rfl, fun _ h => absurd h List.not_mem_nil⟩⟩⟩⟩) ?_
      exact J830 1 (rW (c := 0) (d := 1) (rR (x := 1)) rfl) (((((W731.2 h730).2 h776).1 h821) z823 q824).2 h853)
    by_cases h856 : z718 = 4
    · refine mr_tableIn (pc := 53) (v := 4) (tgt := 168) dX3_readAttribute_53 h856 rfl rfl (by decide) ?_
      have h857 : 4 ≤ z718 ∧ z718 ≤ 4 := (vc_X3_readAttribute_W_22 h856 h730 h776 h821 h720)
      refine mr_iload (pc := 168) (z := z715) dX3_readAttribute_168 rfl ?_
      refine mr_sipush (pc := 170) (z := 128) dX3_readAttribute_170 (by decide) ?_
      have J873 : ∀ (z866 : Int) (μ868 : mM), (mT w μ868) → (mF [200006] w μ726 μ868) → ((0 ≤ z866 ∧ z866 ≤ 1)) → (OC μ868) → ((WJ_X3_readAttribute_W_4 w p1 Q μ726) z866 μ868) → sV (gG l D c H0 sa) mX3_readAttribute (sRm 4 0 0) (sZ (gG l D c H0 sa) 0 0 (qV w [76005, 76006, 76007, 76008, 77999, 78999, 79999, 80999, 200005, 200006, 200007, 201999] μ (fun μ1 => ∃ o_cc o_s : Int, μ1 76 5 = o_cc ∧ cnt μ1 77 256 = o_s ∧ (o_cc ≤ o_s) ∧ Q μ1 ∧ True))) 190 [(0, .ref 76), (1, iv p1)] [iv z866] (mk w μ868) 0 0 := by
        intro z866 μ868 T869 F870 h867 I872 W874
        refine mr_istore (pc := 190) (lv' := [(7, iv z866), (0, .ref 76), (1, iv p1)]) dX3_readAttribute_190 (by decide) rfl ?_
        refine sv_goto (pc := 192) (tgt := 246) dX3_readAttribute_192 (by decide) ?_
        refine mr_iload (pc := 246) (z := z866) dX3_readAttribute_246 rfl ?_
        refine mr_if_ne (pc := 248) (tgt := 257) dX3_readAttribute_248 (by decide) (r32 h867 rfl) (fun h881 => ?_) (fun h881 => ?_)
        · have h882 : 1 ≤ z866 ∧ z866 ≤ 1 := (vc_X12_ring_24 h881 h867)
          exact mr_vret dX3_readAttribute_257 rfl (le_t rfl) (le_t rfl) T869 (mF.call (mF.up mF.refl (A_77 hw) u727 rfl) F870 rfl) ⟨f_cc, ((f_s + 1) - z721), (F870.f (A_76 hw) rfl (u727.f (Or.inl (mAt.ne (A_77 hw) (A_76 hw) rfl)) q_f_cc)), (cntF F870 (A_77 hw) rfl rfl (cntU u727 (rIx (n := 256) h720 rfl) rfl q_f_s q722)), (vc_X3_readAttribute_W_4 hq1 h724 h729 ht_f_cc ht_f_s h725), ((W874 h867 T869 F870).1 h881), trivial⟩
        have h883 : 0 ≤ z866 ∧ z866 ≤ 0 := (vc_X12_ring_22 h881 h867)
        refine sv_aload_n (pc := 251) dX3_readAttribute_251 rfl rfl ?_
        refine mr_iconst (pc := 252) (z := 2) dX3_readAttribute_252 ?_
        refine mr_iload_n (pc := 253) (z := p1) dX3_readAttribute_253 rfl rfl ?_
        refine mr_cVV (pc := 254) (c_X3_note_W hw T869 (rW (c := 0) (d := 3) (rR (x := 2)) rfl) (rW (c := (-2147483648)) (d := 2147483647) hp1 rfl) ((W874 h867 T869 F870).2 h881)) (gOk _ _ _ _ _) dX3_readAttribute_254 (tX3_note _ _ _ _ _) ⟨wV_X3_note, wL_X3_note⟩ wM_X3_92 (gCX3 _ _ _ _ _) rfl (A_76 hw) rfl ⟨le_t rfl, le_t rfl⟩ ⟨le_t rfl, le_t rfl⟩ rfl (le_t rfl) fun μ884 T885 F886 h887 => ?_
        exact mr_vret dX3_readAttribute_257 rfl (le_t rfl) (le_t rfl) T885 (mF.call (mF.call (mF.up mF.refl (A_77 hw) u727 rfl) F870 rfl) F886 rfl) ⟨f_cc, ((f_s + 1) - z721), (F886.f (A_76 hw) rfl (F870.f (A_76 hw) rfl (u727.f (Or.inl (mAt.ne (A_77 hw) (A_76 hw) rfl)) q_f_cc))), (cntF F886 (A_77 hw) rfl rfl (cntF F870 (A_77 hw) rfl rfl (cntU u727 (rIx (n := 256) h720 rfl) rfl q_f_s q722))), (vc_X3_readAttribute_W_4 hq1 h724 h729 ht_f_cc ht_f_s h725), (h887.1 T885 F886), trivial⟩
      refine mr_icmp_ne (pc := 173) (tgt := 189) dX3_readAttribute_173 (by decide) (r32 h717 rfl) (r32 (rR (x := 128)) rfl) (fun h888 => ?_) (fun h888 => ?_)
      · refine mr_iconst (pc := 189) (z := 0) dX3_readAttribute_189 ?_
        refine mr_lvS (lv' := [(0, .ref 76), (1, iv p1)]) (List.forall_mem_cons.mpr ⟨rfl, List.forall_mem_cons.mpr ⟨rfl, fun _ h => absurd h List.not_mem_nil⟩⟩) ?_
        exact J873 0 μ726 T728 mF.refl (rW (c := 0) (d := 1) (rR (x := 0)) rfl) (OC.keep hIOC hw ((mF.up mF.refl (A_77 hw) u727 rfl) : mF [77999] w μ μ726) rfl) (((((W731.2 h730).2 h776).2 h821).1 h856).1 h888)
      have h889 : 128 ≤ z715 ∧ z715 ≤ 128 := (vc_X3_readAttribute_W_25 h888 h717)
      refine sv_aload_n (pc := 176) dX3_readAttribute_176 rfl rfl ?_
      refine mr_iload_n (pc := 177) (z := p2) dX3_readAttribute_177 rfl rfl ?_
      refine mr_iload_n (pc := 178) (z := p3) dX3_readAttribute_178 rfl rfl ?_
      refine mr_cVI (pc := 179) (c_X3_readCost_W hw T728 hp2 (rW (c := (-2147483648)) (d := 2147483647) hp3 rfl) (vc_X3_readAttribute_W_7 hq0 hp2 hp3) (OC.keep hIOC hw ((mF.up mF.refl (A_77 hw) u727 rfl) : mF [77999] w μ μ726) rfl) (((((W731.2 h730).2 h776).2 h821).1 h856).2 h888)) (gOk _ _ _ _ _) dX3_readAttribute_179 (tX3_readCost _ _ _ _ _) ⟨wV_X3_readCost, wL_X3_readCost⟩ wM_X3_118 (gCX3 _ _ _ _ _) rfl (A_76 hw) rfl ⟨le_t rfl, le_t rfl⟩ ⟨le_t rfl, le_t rfl⟩ rfl (le_t rfl) fun z894 μ890 T891 F892 h893 => ?_
      refine mr_if_eq (pc := 182) (tgt := 189) dX3_readAttribute_182 (by decide) (r32 h893.1 rfl) (fun h895 => ?_) (fun h895 => ?_)
      · have h896 : 0 ≤ z894 ∧ z894 ≤ 0 := (vc_X12_ring_22 h895 h893.1)
        refine mr_iconst (pc := 189) (z := 0) dX3_readAttribute_189 ?_
        refine mr_lvS (lv' := [(0, .ref 76), (1, iv p1)]) (List.forall_mem_cons.mpr ⟨rfl, List.forall_mem_cons.mpr ⟨rfl, fun _ h => absurd h List.not_mem_nil⟩⟩) ?_
        exact J873 0 μ890 T891 (mF.call mF.refl F892 rfl) (rW (c := 0) (d := 1) (rR (x := 0)) rfl) (OC.keep hIOC hw ((mF.call (mF.up mF.refl (A_77 hw) u727 rfl) F892 rfl) : mF [77999, 200006] w μ μ890) rfl) (((h893.2.1 T891 F892) h893.1).1 h895)
      have h897 : 1 ≤ z894 ∧ z894 ≤ 1 := (vc_X12_ring_24 h895 h893.1)
      refine mr_iconst (pc := 185) (z := 1) dX3_readAttribute_185 ?_
      refine sv_goto (pc := 186) (tgt := 190) dX3_readAttribute_186 (by decide) ?_
      refine mr_lvS (lv' := [(0, .ref 76), (1, iv p1)]) (List.forall_mem_cons.mpr ⟨rfl, List.forall_mem_cons.mpr ⟨rfl, fun _ h => absurd h List.not_mem_nil⟩⟩) ?_
      exact J873 1 μ890 T891 (mF.call mF.refl F892 rfl) (rW (c := 0) (d := 1) (rR (x := 1)) rfl) (OC.keep hIOC hw ((mF.call (mF.up mF.refl (A_77 hw) u727 rfl) F892 rfl) : mF [77999, 200006] w μ μ890) rfl) (((h893.2.1 T891 F892) h893.1).2 h895)
    by_cases h898 : z718 = 5
    · refine mr_tableIn (pc := 53) (v := 5) (tgt := 222) dX3_readAttribute_53 h898 rfl rfl (by decide) ?_
      have h899 : 5 ≤ z718 ∧ z718 ≤ 5 := (vc_X3_readAttribute_W_28 h898 h730 h776 h821 h856 h720)
      refine mr_iload (pc := 222) (z := z712) dX3_readAttribute_222 rfl ?_
      refine mr_sipush (pc := 224) (z := 128) dX3_readAttribute_224 (by decide) ?_
      refine mr_iand (pc := 227) (x := z712) (y := 128) dX3_readAttribute_227 ?_
      refine mr_gen (P := fun z => 0 ≤ z ∧ z ≤ 128) (rAndR (rR (x := 128)) rfl) fun z900 q901 h902 => ?_
      have J907 : ∀ (z905 : Int), ((0 ≤ z905 ∧ z905 ≤ 1)) → ((WJ_X3_readAttribute_W_5 w p1 Q z712 z718 μ726) z905) → sV (gG l D c H0 sa) mX3_readAttribute (sRm 4 0 0) (sZ (gG l D c H0 sa) 0 0 (qV w [76005, 76006, 76007, 76008, 77999, 78999, 79999, 80999, 200005, 200006, 200007, 201999] μ (fun μ1 => ∃ o_cc o_s : Int, μ1 76 5 = o_cc ∧ cnt μ1 77 256 = o_s ∧ (o_cc ≤ o_s) ∧ Q μ1 ∧ True))) 236 [(0, .ref 76), (1, iv p1), (4, iv z712), (6, iv z718)] [iv z905] (mk w μ726) 0 0 := by
        intro z905 h906 W908
        refine mr_istore (pc := 236) (lv' := [(7, iv z905), (0, .ref 76), (1, iv p1), (4, iv z712), (6, iv z718)]) dX3_readAttribute_236 (by decide) rfl ?_
        refine sv_aload_n (pc := 238) dX3_readAttribute_238 rfl rfl ?_
        refine mr_iload (pc := 239) (z := z712) dX3_readAttribute_239 rfl ?_
        refine mr_iload (pc := 241) (z := z718) dX3_readAttribute_241 rfl ?_
        refine mr_cVV (pc := 243) (c_X3_carry_W hw T728 (rW (c := (-2147483648)) (d := 2147483647) h714 rfl) (rW (c := (-2147483648)) (d := 2147483647) h899 rfl) (u727.f (Or.inl (mAt.ne (A_77 hw) (A_76 hw) rfl)) q_f_cc) (vc_X3_readAttribute_W_16 hq1 h729 ht_f_cc ht_f_s h725) (W908 h906)) (gOk _ _ _ _ _) dX3_readAttribute_243 (tX3_carry _ _ _ _ _) ⟨wV_X3_carry, wL_X3_carry⟩ wM_X3_124 (gCX3 _ _ _ _ _) rfl (A_76 hw) rfl ⟨le_t rfl, le_t rfl⟩ ⟨le_t rfl, le_t rfl⟩ rfl (le_t rfl) fun μ909 T910 F911 h912 => ?_
        obtain ⟨z913, q914, h915⟩ := h912
        have h916 : (0 ≤ z913 ∧ z913 ≤ 256) := by rw [← q914]; exact T910 76 76 (A_76 hw) 5
        refine mr_iload (pc := 246) (z := z905) dX3_readAttribute_246 rfl ?_
        refine mr_if_ne (pc := 248) (tgt := 257) dX3_readAttribute_248 (by decide) (r32 h906 rfl) (fun h923 => ?_) (fun h923 => ?_)
        · have h924 : 1 ≤ z905 ∧ z905 ≤ 1 := (vc_X12_ring_24 h923 h906)
          exact mr_vret dX3_readAttribute_257 rfl (le_t rfl) (le_t rfl) T910 (mF.call (mF.up mF.refl (A_77 hw) u727 rfl) F911 rfl) ⟨z913, ((f_s + 1) - z721), q914, (cntF F911 (A_77 hw) rfl rfl (cntU u727 (rIx (n := 256) h720 rfl) rfl q_f_s q722)), (vc_X3_readAttribute_W_18 hq1 h724 h729 h915.1 ht_f_cc ht_f_s h725 h916), (((h915.2.1 T910 F911) z913 q914).1 h923), trivial⟩
        have h925 : 0 ≤ z905 ∧ z905 ≤ 0 := (vc_X12_ring_22 h923 h906)
        refine sv_aload_n (pc := 251) dX3_readAttribute_251 rfl rfl ?_
        refine mr_iconst (pc := 252) (z := 2) dX3_readAttribute_252 ?_
        refine mr_iload_n (pc := 253) (z := p1) dX3_readAttribute_253 rfl rfl ?_
        refine mr_cVV (pc := 254) (c_X3_note_W hw T910 (rW (c := 0) (d := 3) (rR (x := 2)) rfl) (rW (c := (-2147483648)) (d := 2147483647) hp1 rfl) (((h915.2.1 T910 F911) z913 q914).2 h923)) (gOk _ _ _ _ _) dX3_readAttribute_254 (tX3_note _ _ _ _ _) ⟨wV_X3_note, wL_X3_note⟩ wM_X3_92 (gCX3 _ _ _ _ _) rfl (A_76 hw) rfl ⟨le_t rfl, le_t rfl⟩ ⟨le_t rfl, le_t rfl⟩ rfl (le_t rfl) fun μ926 T927 F928 h929 => ?_
        exact mr_vret dX3_readAttribute_257 rfl (le_t rfl) (le_t rfl) T927 (mF.call (mF.call (mF.up mF.refl (A_77 hw) u727 rfl) F911 rfl) F928 rfl) ⟨z913, ((f_s + 1) - z721), (F928.f (A_76 hw) rfl q914), (cntF F928 (A_77 hw) rfl rfl (cntF F911 (A_77 hw) rfl rfl (cntU u727 (rIx (n := 256) h720 rfl) rfl q_f_s q722))), (vc_X3_readAttribute_W_18 hq1 h724 h729 h915.1 ht_f_cc ht_f_s h725 h916), (h929.1 T927 F928), trivial⟩
      refine mr_if_eq (pc := 228) (tgt := 235) dX3_readAttribute_228 (by decide) (r32 h902 rfl) (fun h930 => ?_) (fun h930 => ?_)
      · have h931 : 0 ≤ z900 ∧ z900 ≤ 0 := (vc_X3_readAttribute_W_20 h930 h902)
        refine mr_iconst (pc := 235) (z := 0) dX3_readAttribute_235 ?_
        refine mr_lvS (lv' := [(0, .ref 76), (1, iv p1), (4, iv z712), (6, iv z718)]) (List.forall_mem_cons.mpr ⟨rfl, List.forall_mem_cons.mpr ⟨rfl, List.forall_mem_cons.mpr ⟨rfl, List.forall_mem_cons.mpr ⟨rfl, fun _ h => absurd h List.not_mem_nil⟩⟩⟩⟩) ?_
        exact J907 0 (rW (c := 0) (d := 1) (rR (x := 0)) rfl) (((((((W731.2 h730).2 h776).2 h821).2 h856).1 h898) z900 q901).1 h930)
      have h932 : 1 ≤ z900 ∧ z900 ≤ 128 := (vc_X3_readAttribute_W_21 h930 h902)
      refine mr_iconst (pc := 231) (z := 1) dX3_readAttribute_231 ?_
      refine sv_goto (pc := 232) (tgt := 236) dX3_readAttribute_232 (by decide) ?_
      refine mr_lvS (lv' := [(0, .ref 76), (1, iv p1), (4, iv z712), (6, iv z718)]) (List.forall_mem_cons.mpr ⟨rfl, List.forall_mem_cons.mpr ⟨rfl, List.forall_mem_cons.mpr ⟨rfl, List.forall_mem_cons.mpr ⟨rfl, fun _ h => absurd h List.not_mem_nil⟩⟩⟩⟩) ?_
      exact J907 1 (rW (c := 0) (d := 1) (rR (x := 1)) rfl) (((((((W731.2 h730).2 h776).2 h821).2 h856).1 h898) z900 q901).2 h930)
    by_cases h933 : z718 = 6
    · refine mr_tableIn (pc := 53) (v := 6) (tgt := 222) dX3_readAttribute_53 h933 rfl rfl (by decide) ?_
      have h934 : 6 ≤ z718 ∧ z718 ≤ 6 := (vc_X3_readAttribute_W_34 h933 h730 h776 h821 h856 h898 h720)
      refine mr_iload (pc := 222) (z := z712) dX3_readAttribute_222 rfl ?_
      refine mr_sipush (pc := 224) (z := 128) dX3_readAttribute_224 (by decide) ?_
      refine mr_iand (pc := 227) (x := z712) (y := 128) dX3_readAttribute_227 ?_
      refine mr_gen (P := fun z => 0 ≤ z ∧ z ≤ 128) (rAndR (rR (x := 128)) rfl) fun z935 q936 h937 => ?_
      have J942 : ∀ (z940 : Int), ((0 ≤ z940 ∧ z940 ≤ 1)) → ((WJ_X3_readAttribute_W_6 w p1 Q z712 z718 μ726) z940) → sV (gG l D c H0 sa) mX3_readAttribute (sRm 4 0 0) (sZ (gG l D c H0 sa) 0 0 (qV w [76005, 76006, 76007, 76008, 77999, 78999, 79999, 80999, 200005, 200006, 200007, 201999] μ (fun μ1 => ∃ o_cc o_s : Int, μ1 76 5 = o_cc ∧ cnt μ1 77 256 = o_s ∧ (o_cc ≤ o_s) ∧ Q μ1 ∧ True))) 236 [(0, .ref 76), (1, iv p1), (4, iv z712), (6, iv z718)] [iv z940] (mk w μ726) 0 0 := by
        intro z940 h941 W943
        refine mr_istore (pc := 236) (lv' := [(7, iv z940), (0, .ref 76), (1, iv p1), (4, iv z712), (6, iv z718)]) dX3_readAttribute_236 (by decide) rfl ?_
        refine sv_aload_n (pc := 238) dX3_readAttribute_238 rfl rfl ?_
        refine mr_iload (pc := 239) (z := z712) dX3_readAttribute_239 rfl ?_
        refine mr_iload (pc := 241) (z := z718) dX3_readAttribute_241 rfl ?_
        refine mr_cVV (pc := 243) (c_X3_carry_W hw T728 (rW (c := (-2147483648)) (d := 2147483647) h714 rfl) (rW (c := (-2147483648)) (d := 2147483647) h934 rfl) (u727.f (Or.inl (mAt.ne (A_77 hw) (A_76 hw) rfl)) q_f_cc) (vc_X3_readAttribute_W_16 hq1 h729 ht_f_cc ht_f_s h725) (W943 h941)) (gOk _ _ _ _ _) dX3_readAttribute_243 (tX3_carry _ _ _ _ _) ⟨wV_X3_carry, wL_X3_carry⟩ wM_X3_124 (gCX3 _ _ _ _ _) rfl (A_76 hw) rfl ⟨le_t rfl, le_t rfl⟩ ⟨le_t rfl, le_t rfl⟩ rfl (le_t rfl) fun μ944 T945 F946 h947 => ?_
        obtain ⟨z948, q949, h950⟩ := h947
        have h951 : (0 ≤ z948 ∧ z948 ≤ 256) := by rw [← q949]; exact T945 76 76 (A_76 hw) 5
        refine mr_iload (pc := 246) (z := z940) dX3_readAttribute_246 rfl ?_
        refine mr_if_ne (pc := 248) (tgt := 257) dX3_readAttribute_248 (by decide) (r32 h941 rfl) (fun h958 => ?_) (fun h958 => ?_)
        · have h959 : 1 ≤ z940 ∧ z940 ≤ 1 := (vc_X12_ring_24 h958 h941)
          exact mr_vret dX3_readAttribute_257 rfl (le_t rfl) (le_t rfl) T945 (mF.call (mF.up mF.refl (A_77 hw) u727 rfl) F946 rfl) ⟨z948, ((f_s + 1) - z721), q949, (cntF F946 (A_77 hw) rfl rfl (cntU u727 (rIx (n := 256) h720 rfl) rfl q_f_s q722)), (vc_X3_readAttribute_W_18 hq1 h724 h729 h950.1 ht_f_cc ht_f_s h725 h951), (((h950.2.1 T945 F946) z948 q949).1 h958), trivial⟩
        have h960 : 0 ≤ z940 ∧ z940 ≤ 0 := (vc_X12_ring_22 h958 h941)
        refine sv_aload_n (pc := 251) dX3_readAttribute_251 rfl rfl ?_
        refine mr_iconst (pc := 252) (z := 2) dX3_readAttribute_252 ?_
        refine mr_iload_n (pc := 253) (z := p1) dX3_readAttribute_253 rfl rfl ?_
        refine mr_cVV (pc := 254) (c_X3_note_W hw T945 (rW (c := 0) (d := 3) (rR (x := 2)) rfl) (rW (c := (-2147483648)) (d := 2147483647) hp1 rfl) (((h950.2.1 T945 F946) z948 q949).2 h958)) (gOk _ _ _ _ _) dX3_readAttribute_254 (tX3_note _ _ _ _ _) ⟨wV_X3_note, wL_X3_note⟩ wM_X3_92 (gCX3 _ _ _ _ _) rfl (A_76 hw) rfl ⟨le_t rfl, le_t rfl⟩ ⟨le_t rfl, le_t rfl⟩ rfl (le_t rfl) fun μ961 T962 F963 h964 => ?_
        exact mr_vret dX3_readAttribute_257 rfl (le_t rfl) (le_t rfl) T962 (mF.call (mF.call (mF.up mF.refl (A_77 hw) u727 rfl) F946 rfl) F963 rfl) ⟨z948, ((f_s + 1) - z721), (F963.f (A_76 hw) rfl q949), (cntF F963 (A_77 hw) rfl rfl (cntF F946 (A_77 hw) rfl rfl (cntU u727 (rIx (n := 256) h720 rfl) rfl q_f_s q722))), (vc_X3_readAttribute_W_18 hq1 h724 h729 h950.1 ht_f_cc ht_f_s h725 h951), (h964.1 T962 F963), trivial⟩
      refine mr_if_eq (pc := 228) (tgt := 235) dX3_readAttribute_228 (by decide) (r32 h937 rfl) (fun h965 => ?_) (fun h965 => ?_)
      · have h966 : 0 ≤ z935 ∧ z935 ≤ 0 := (vc_X3_readAttribute_W_20 h965 h937)
        refine mr_iconst (pc := 235) (z := 0) dX3_readAttribute_235 ?_
        refine mr_lvS (lv' := [(0, .ref 76), (1, iv p1), (4, iv z712), (6, iv z718)]) (List.forall_mem_cons.mpr ⟨rfl, List.forall_mem_cons.mpr ⟨rfl, List.forall_mem_cons.mpr ⟨rfl, List.forall_mem_cons.mpr ⟨rfl, fun _ h => absurd h List.not_mem_nil⟩⟩⟩⟩) ?_
        exact J942 0 (rW (c := 0) (d := 1) (rR (x := 0)) rfl) ((((((((W731.2 h730).2 h776).2 h821).2 h856).2 h898).1 h933) z935 q936).1 h965)
      have h967 : 1 ≤ z935 ∧ z935 ≤ 128 := (vc_X3_readAttribute_W_21 h965 h937)
      refine mr_iconst (pc := 231) (z := 1) dX3_readAttribute_231 ?_
      refine sv_goto (pc := 232) (tgt := 236) dX3_readAttribute_232 (by decide) ?_
      refine mr_lvS (lv' := [(0, .ref 76), (1, iv p1), (4, iv z712), (6, iv z718)]) (List.forall_mem_cons.mpr ⟨rfl, List.forall_mem_cons.mpr ⟨rfl, List.forall_mem_cons.mpr ⟨rfl, List.forall_mem_cons.mpr ⟨rfl, fun _ h => absurd h List.not_mem_nil⟩⟩⟩⟩) ?_
      exact J942 1 (rW (c := 0) (d := 1) (rR (x := 1)) rfl) ((((((((W731.2 h730).2 h776).2 h821).2 h856).2 h898).1 h933) z935 q936).2 h965)
    by_cases h968 : z718 = 7
    · refine mr_tableIn (pc := 53) (v := 7) (tgt := 222) dX3_readAttribute_53 h968 rfl rfl (by decide) ?_
      have h969 : 7 ≤ z718 ∧ z718 ≤ 7 := (vc_X3_readAttribute_W_40 h968 h730 h776 h821 h856 h898 h933 h720)
      refine mr_iload (pc := 222) (z := z712) dX3_readAttribute_222 rfl ?_
      refine mr_sipush (pc := 224) (z := 128) dX3_readAttribute_224 (by decide) ?_
      refine mr_iand (pc := 227) (x := z712) (y := 128) dX3_readAttribute_227 ?_
      refine mr_gen (P := fun z => 0 ≤ z ∧ z ≤ 128) (rAndR (rR (x := 128)) rfl) fun z970 q971 h972 => ?_
      have J977 : ∀ (z975 : Int), ((0 ≤ z975 ∧ z975 ≤ 1)) → ((WJ_X3_readAttribute_W_7 w p1 Q z712 z718 μ726) z975) → sV (gG l D c H0 sa) mX3_readAttribute (sRm 4 0 0) (sZ (gG l D c H0 sa) 0 0 (qV w [76005, 76006, 76007, 76008, 77999, 78999, 79999, 80999, 200005, 200006, 200007, 201999] μ (fun μ1 => ∃ o_cc o_s : Int, μ1 76 5 = o_cc ∧ cnt μ1 77 256 = o_s ∧ (o_cc ≤ o_s) ∧ Q μ1 ∧ True))) 236 [(0, .ref 76), (1, iv p1), (4, iv z712), (6, iv z718)] [iv z975] (mk w μ726) 0 0 := by
        intro z975 h976 W978
        refine mr_istore (pc := 236) (lv' := [(7, iv z975), (0, .ref 76), (1, iv p1), (4, iv z712), (6, iv z718)]) dX3_readAttribute_236 (by decide) rfl ?_
        refine sv_aload_n (pc := 238) dX3_readAttribute_238 rfl rfl ?_
        refine mr_iload (pc := 239) (z := z712) dX3_readAttribute_239 rfl ?_
        refine mr_iload (pc := 241) (z := z718) dX3_readAttribute_241 rfl ?_
        refine mr_cVV (pc := 243) (c_X3_carry_W hw T728 (rW (c := (-2147483648)) (d := 2147483647) h714 rfl) (rW (c := (-2147483648)) (d := 2147483647) h969 rfl) (u727.f (Or.inl (mAt.ne (A_77 hw) (A_76 hw) rfl)) q_f_cc) (vc_X3_readAttribute_W_16 hq1 h729 ht_f_cc ht_f_s h725) (W978 h976)) (gOk _ _ _ _ _) dX3_readAttribute_243 (tX3_carry _ _ _ _ _) ⟨wV_X3_carry, wL_X3_carry⟩ wM_X3_124 (gCX3 _ _ _ _ _) rfl (A_76 hw) rfl ⟨le_t rfl, le_t rfl⟩ ⟨le_t rfl, le_t rfl⟩ rfl (le_t rfl) fun μ979 T980 F981 h982 => ?_
        obtain ⟨z983, q984, h985⟩ := h982
        have h986 : (0 ≤ z983 ∧ z983 ≤ 256) := by rw [← q984]; exact T980 76 76 (A_76 hw) 5
        refine mr_iload (pc := 246) (z := z975) dX3_readAttribute_246 rfl ?_
        refine mr_if_ne (pc := 248) (tgt := 257) dX3_readAttribute_248 (by decide) (r32 h976 rfl) (fun h993 => ?_) (fun h993 => ?_)
        · have h994 : 1 ≤ z975 ∧ z975 ≤ 1 := (vc_X12_ring_24 h993 h976)
          exact mr_vret dX3_readAttribute_257 rfl (le_t rfl) (le_t rfl) T980 (mF.call (mF.up mF.refl (A_77 hw) u727 rfl) F981 rfl) ⟨z983, ((f_s + 1) - z721), q984, (cntF F981 (A_77 hw) rfl rfl (cntU u727 (rIx (n := 256) h720 rfl) rfl q_f_s q722)), (vc_X3_readAttribute_W_18 hq1 h724 h729 h985.1 ht_f_cc ht_f_s h725 h986), (((h985.2.1 T980 F981) z983 q984).1 h993), trivial⟩
        have h995 : 0 ≤ z975 ∧ z975 ≤ 0 := (vc_X12_ring_22 h993 h976)
        refine sv_aload_n (pc := 251) dX3_readAttribute_251 rfl rfl ?_
        refine mr_iconst (pc := 252) (z := 2) dX3_readAttribute_252 ?_
        refine mr_iload_n (pc := 253) (z := p1) dX3_readAttribute_253 rfl rfl ?_
        refine mr_cVV (pc := 254) (c_X3_note_W hw T980 (rW (c := 0) (d := 3) (rR (x := 2)) rfl) (rW (c := (-2147483648)) (d := 2147483647) hp1 rfl) (((h985.2.1 T980 F981) z983 q984).2 h993)) (gOk _ _ _ _ _) dX3_readAttribute_254 (tX3_note _ _ _ _ _) ⟨wV_X3_note, wL_X3_note⟩ wM_X3_92 (gCX3 _ _ _ _ _) rfl (A_76 hw) rfl ⟨le_t rfl, le_t rfl⟩ ⟨le_t rfl, le_t rfl⟩ rfl (le_t rfl) fun μ996 T997 F998 h999 => ?_
        exact mr_vret dX3_readAttribute_257 rfl (le_t rfl) (le_t rfl) T997 (mF.call (mF.call (mF.up mF.refl (A_77 hw) u727 rfl) F981 rfl) F998 rfl) ⟨z983, ((f_s + 1) - z721), (F998.f (A_76 hw) rfl q984), (cntF F998 (A_77 hw) rfl rfl (cntF F981 (A_77 hw) rfl rfl (cntU u727 (rIx (n := 256) h720 rfl) rfl q_f_s q722))), (vc_X3_readAttribute_W_18 hq1 h724 h729 h985.1 ht_f_cc ht_f_s h725 h986), (h999.1 T997 F998), trivial⟩
      refine mr_if_eq (pc := 228) (tgt := 235) dX3_readAttribute_228 (by decide) (r32 h972 rfl) (fun h1000 => ?_) (fun h1000 => ?_)
      · have h1001 : 0 ≤ z970 ∧ z970 ≤ 0 := (vc_X3_readAttribute_W_20 h1000 h972)
        refine mr_iconst (pc := 235) (z := 0) dX3_readAttribute_235 ?_
        refine mr_lvS (lv' := [(0, .ref 76), (1, iv p1), (4, iv z712), (6, iv z718)]) (List.forall_mem_cons.mpr ⟨rfl, List.forall_mem_cons.mpr ⟨rfl, List.forall_mem_cons.mpr ⟨rfl, List.forall_mem_cons.mpr ⟨rfl, fun _ h => absurd h List.not_mem_nil⟩⟩⟩⟩) ?_
        exact J977 0 (rW (c := 0) (d := 1) (rR (x := 0)) rfl) (((((((((W731.2 h730).2 h776).2 h821).2 h856).2 h898).2 h933).1 h968) z970 q971).1 h1000)
      have h1002 : 1 ≤ z970 ∧ z970 ≤ 128 := (vc_X3_readAttribute_W_21 h1000 h972)
      refine mr_iconst (pc := 231) (z := 1) dX3_readAttribute_231 ?_
      refine sv_goto (pc := 232) (tgt := 236) dX3_readAttribute_232 (by decide) ?_
      refine mr_lvS (lv' := [(0, .ref 76), (1, iv p1), (4, iv z712), (6, iv z718)]) (List.forall_mem_cons.mpr ⟨rfl, List.forall_mem_cons.mpr ⟨rfl, List.forall_mem_cons.mpr ⟨rfl, List.forall_mem_cons.mpr ⟨rfl, fun _ h => absurd h List.not_mem_nil⟩⟩⟩⟩) ?_
      exact J977 1 (rW (c := 0) (d := 1) (rR (x := 1)) rfl) (((((((((W731.2 h730).2 h776).2 h821).2 h856).2 h898).2 h933).1 h968) z970 q971).2 h1000)
    have W1004 := (((((((W731.2 h730).2 h776).2 h821).2 h856).2 h898).2 h933).2 h968)
    by_cases h1003 : z718 = 8
    · refine mr_tableIn (pc := 53) (v := 8) (tgt := 195) dX3_readAttribute_53 h1003 rfl rfl (by decide) ?_
      have h1005 : 8 ≤ z718 ∧ z718 ≤ 8 := (vc_X3_readAttribute_W_46 h1003 h730 h776 h821 h856 h898 h933 h968 h720)
      refine mr_iload (pc := 195) (z := z715) dX3_readAttribute_195 rfl ?_
      refine mr_sipush (pc := 197) (z := 192) dX3_readAttribute_197 (by decide) ?_
      have J1021 : ∀ (z1014 : Int) (μ1016 : mM), (mT w μ1016) → (mF [76006, 79999] w μ726 μ1016) → ((0 ≤ z1014 ∧ z1014 ≤ 1)) → (OC μ1016) → ((WJ_X3_readAttribute_W_8 w p1 Q μ726) z1014 μ1016) → sV (gG l D c H0 sa) mX3_readAttribute (sRm 4 0 0) (sZ (gG l D c H0 sa) 0 0 (qV w [76005, 76006, 76007, 76008, 77999, 78999, 79999, 80999, 200005, 200006, 200007, 201999] μ (fun μ1 => ∃ o_cc o_s : Int, μ1 76 5 = o_cc ∧ cnt μ1 77 256 = o_s ∧ (o_cc ≤ o_s) ∧ Q μ1 ∧ True))) 217 [(0, .ref 76), (1, iv p1)] [iv z1014] (mk w μ1016) 0 0 := by
        intro z1014 μ1016 T1017 F1018 h1015 I1020 W1022
        refine mr_istore (pc := 217) (lv' := [(7, iv z1014), (0, .ref 76), (1, iv p1)]) dX3_readAttribute_217 (by decide) rfl ?_
        refine sv_goto (pc := 219) (tgt := 246) dX3_readAttribute_219 (by decide) ?_
        refine mr_iload (pc := 246) (z := z1014) dX3_readAttribute_246 rfl ?_
        refine mr_if_ne (pc := 248) (tgt := 257) dX3_readAttribute_248 (by decide) (r32 h1015 rfl) (fun h1029 => ?_) (fun h1029 => ?_)
        · have h1030 : 1 ≤ z1014 ∧ z1014 ≤ 1 := (vc_X12_ring_24 h1029 h1015)
          exact mr_vret dX3_readAttribute_257 rfl (le_t rfl) (le_t rfl) T1017 (mF.call (mF.up mF.refl (A_77 hw) u727 rfl) F1018 rfl) ⟨f_cc, ((f_s + 1) - z721), (F1018.f (A_76 hw) rfl (u727.f (Or.inl (mAt.ne (A_77 hw) (A_76 hw) rfl)) q_f_cc)), (cntF F1018 (A_77 hw) rfl rfl (cntU u727 (rIx (n := 256) h720 rfl) rfl q_f_s q722)), (vc_X3_readAttribute_W_4 hq1 h724 h729 ht_f_cc ht_f_s h725), ((W1022 h1015 T1017 F1018).1 h1029), trivial⟩
        have h1031 : 0 ≤ z1014 ∧ z1014 ≤ 0 := (vc_X12_ring_22 h1029 h1015)
        refine sv_aload_n (pc := 251) dX3_readAttribute_251 rfl rfl ?_
        refine mr_iconst (pc := 252) (z := 2) dX3_readAttribute_252 ?_
        refine mr_iload_n (pc := 253) (z := p1) dX3_readAttribute_253 rfl rfl ?_
        refine mr_cVV (pc := 254) (c_X3_note_W hw T1017 (rW (c := 0) (d := 3) (rR (x := 2)) rfl) (rW (c := (-2147483648)) (d := 2147483647) hp1 rfl) ((W1022 h1015 T1017 F1018).2 h1029)) (gOk _ _ _ _ _) dX3_readAttribute_254 (tX3_note _ _ _ _ _) ⟨wV_X3_note, wL_X3_note⟩ wM_X3_92 (gCX3 _ _ _ _ _) rfl (A_76 hw) rfl ⟨le_t rfl, le_t rfl⟩ ⟨le_t rfl, le_t rfl⟩ rfl (le_t rfl) fun μ1032 T1033 F1034 h1035 => ?_
        exact mr_vret dX3_readAttribute_257 rfl (le_t rfl) (le_t rfl) T1033 (mF.call (mF.call (mF.up mF.refl (A_77 hw) u727 rfl) F1018 rfl) F1034 rfl) ⟨f_cc, ((f_s + 1) - z721), (F1034.f (A_76 hw) rfl (F1018.f (A_76 hw) rfl (u727.f (Or.inl (mAt.ne (A_77 hw) (A_76 hw) rfl)) q_f_cc))), (cntF F1034 (A_77 hw) rfl rfl (cntF F1018 (A_77 hw) rfl rfl (cntU u727 (rIx (n := 256) h720 rfl) rfl q_f_s q722))), (vc_X3_readAttribute_W_4 hq1 h724 h729 ht_f_cc ht_f_s h725), (h1035.1 T1033 F1034), trivial⟩
      refine mr_icmp_ne (pc := 200) (tgt := 216) dX3_readAttribute_200 (by decide) (r32 h717 rfl) (r32 (rR (x := 192)) rfl) (fun h1036 => ?_) (fun h1036 => ?_)
      · refine mr_iconst (pc := 216) (z := 0) dX3_readAttribute_216 ?_
        refine mr_lvS (lv' := [(0, .ref 76), (1, iv p1)]) (List.forall_mem_cons.mpr ⟨rfl, List.forall_mem_cons.mpr ⟨rfl, fun _ h => absurd h List.not_mem_nil⟩⟩) ?_
        exact J1021 0 μ726 T728 mF.refl (rW (c := 0) (d := 1) (rR (x := 0)) rfl) (OC.keep hIOC hw ((mF.up mF.refl (A_77 hw) u727 rfl) : mF [77999] w μ μ726) rfl) ((W1004.1 h1003).1 h1036)
      have h1037 : 192 ≤ z715 ∧ z715 ≤ 192 := (vc_X3_readAttribute_W_49 h1036 h717)
      refine sv_aload_n (pc := 203) dX3_readAttribute_203 rfl rfl ?_
      refine mr_iload_n (pc := 204) (z := p2) dX3_readAttribute_204 rfl rfl ?_
      refine mr_iload_n (pc := 205) (z := p3) dX3_readAttribute_205 rfl rfl ?_
      refine mr_cVI (pc := 206) (c_X3_readMarks_W hw T728 hp2 hp3 (vc_X3_readAttribute_W_7 hq0 hp2 hp3) (OC.keep hIOC hw ((mF.up mF.refl (A_77 hw) u727 rfl) : mF [77999] w μ μ726) rfl) ((W1004.1 h1003).2 h1036)) (gOk _ _ _ _ _) dX3_readAttribute_206 (tX3_readMarks _ _ _ _ _) ⟨wV_X3_readMarks, wL_X3_readMarks⟩ wM_X3_121 (gCX3 _ _ _ _ _) rfl (A_76 hw) rfl ⟨le_t rfl, le_t rfl⟩ ⟨le_t rfl, le_t rfl⟩ rfl (le_t rfl) fun z1042 μ1038 T1039 F1040 h1041 => ?_
      refine mr_if_eq (pc := 209) (tgt := 216) dX3_readAttribute_209 (by decide) (r32 h1041.1 rfl) (fun h1043 => ?_) (fun h1043 => ?_)
      · have h1044 : 0 ≤ z1042 ∧ z1042 ≤ 0 := (vc_X12_ring_22 h1043 h1041.1)
        refine mr_iconst (pc := 216) (z := 0) dX3_readAttribute_216 ?_
        refine mr_lvS (lv' := [(0, .ref 76), (1, iv p1)]) (List.forall_mem_cons.mpr ⟨rfl, List.forall_mem_cons.mpr ⟨rfl, fun _ h => absurd h List.not_mem_nil⟩⟩) ?_
        exact J1021 0 μ1038 T1039 (mF.call mF.refl F1040 rfl) (rW (c := 0) (d := 1) (rR (x := 0)) rfl) (OC.keep hIOC hw ((mF.call (mF.up mF.refl (A_77 hw) u727 rfl) F1040 rfl) : mF [76006, 77999, 79999] w μ μ1038) rfl) (((h1041.2.1 T1039 F1040) h1041.1).1 h1043)
      have h1045 : 1 ≤ z1042 ∧ z1042 ≤ 1 := (vc_X12_ring_24 h1043 h1041.1)
      refine mr_iconst (pc := 212) (z := 1) dX3_readAttribute_212 ?_
      refine sv_goto (pc := 213) (tgt := 217) dX3_readAttribute_213 (by decide) ?_
      refine mr_lvS (lv' := [(0, .ref 76), (1, iv p1)]) (List.forall_mem_cons.mpr ⟨rfl, List.forall_mem_cons.mpr ⟨rfl, fun _ h => absurd h List.not_mem_nil⟩⟩) ?_
      exact J1021 1 μ1038 T1039 (mF.call mF.refl F1040 rfl) (rW (c := 0) (d := 1) (rR (x := 1)) rfl) (OC.keep hIOC hw ((mF.call (mF.up mF.refl (A_77 hw) u727 rfl) F1040 rfl) : mF [76006, 77999, 79999] w μ μ1038) rfl) (((h1041.2.1 T1039 F1040) h1041.1).2 h1043)
    refine mr_tableOut (pc := 53) (tgt := 222) dX3_readAttribute_53 (r32 h720 rfl) (vc_X3_readAttribute_W_52 h730 h776 h821 h856 h898 h933 h968 h1003 h720) (by decide) ?_
    refine mr_iload (pc := 222) (z := z712) dX3_readAttribute_222 rfl ?_
    refine mr_sipush (pc := 224) (z := 128) dX3_readAttribute_224 (by decide) ?_
    refine mr_iand (pc := 227) (x := z712) (y := 128) dX3_readAttribute_227 ?_
    refine mr_gen (P := fun z => 0 ≤ z ∧ z ≤ 128) (rAndR (rR (x := 128)) rfl) fun z1046 q1047 h1048 => ?_
    have J1053 : ∀ (z1051 : Int), ((0 ≤ z1051 ∧ z1051 ≤ 1)) → ((WJ_X3_readAttribute_W_9 w p1 Q z712 z718 μ726) z1051) → sV (gG l D c H0 sa) mX3_readAttribute (sRm 4 0 0) (sZ (gG l D c H0 sa) 0 0 (qV w [76005, 76006, 76007, 76008, 77999, 78999, 79999, 80999, 200005, 200006, 200007, 201999] μ (fun μ1 => ∃ o_cc o_s : Int, μ1 76 5 = o_cc ∧ cnt μ1 77 256 = o_s ∧ (o_cc ≤ o_s) ∧ Q μ1 ∧ True))) 236 [(0, .ref 76), (1, iv p1), (4, iv z712), (6, iv z718)] [iv z1051] (mk w μ726) 0 0 := by
      intro z1051 h1052 W1054
      refine mr_istore (pc := 236) (lv' := [(7, iv z1051), (0, .ref 76), (1, iv p1), (4, iv z712), (6, iv z718)]) dX3_readAttribute_236 (by decide) rfl ?_
      refine sv_aload_n (pc := 238) dX3_readAttribute_238 rfl rfl ?_
      refine mr_iload (pc := 239) (z := z712) dX3_readAttribute_239 rfl ?_
      refine mr_iload (pc := 241) (z := z718) dX3_readAttribute_241 rfl ?_
      refine mr_cVV (pc := 243) (c_X3_carry_W hw T728 (rW (c := (-2147483648)) (d := 2147483647) h714 rfl) (rW (c := (-2147483648)) (d := 2147483647) h720 rfl) (u727.f (Or.inl (mAt.ne (A_77 hw) (A_76 hw) rfl)) q_f_cc) (vc_X3_readAttribute_W_16 hq1 h729 ht_f_cc ht_f_s h725) (W1054 h1052)) (gOk _ _ _ _ _) dX3_readAttribute_243 (tX3_carry _ _ _ _ _) ⟨wV_X3_carry, wL_X3_carry⟩ wM_X3_124 (gCX3 _ _ _ _ _) rfl (A_76 hw) rfl ⟨le_t rfl, le_t rfl⟩ ⟨le_t rfl, le_t rfl⟩ rfl (le_t rfl) fun μ1055 T1056 F1057 h1058 => ?_
      obtain ⟨z1059, q1060, h1061⟩ := h1058
      have h1062 : (0 ≤ z1059 ∧ z1059 ≤ 256) := by rw [← q1060]; exact T1056 76 76 (A_76 hw) 5
      refine mr_iload (pc := 246) (z := z1051) dX3_readAttribute_246 rfl ?_
      refine mr_if_ne (pc := 248) (tgt := 257) dX3_readAttribute_248 (by decide) (r32 h1052 rfl) (fun h1069 => ?_) (fun h1069 => ?_)
      · have h1070 : 1 ≤ z1051 ∧ z1051 ≤ 1 := (vc_X12_ring_24 h1069 h1052)
        exact mr_vret dX3_readAttribute_257 rfl (le_t rfl) (le_t rfl) T1056 (mF.call (mF.up mF.refl (A_77 hw) u727 rfl) F1057 rfl) ⟨z1059, ((f_s + 1) - z721), q1060, (cntF F1057 (A_77 hw) rfl rfl (cntU u727 (rIx (n := 256) h720 rfl) rfl q_f_s q722)), (vc_X3_readAttribute_W_54 hq1 h724 h729 h1061.1 ht_f_cc ht_f_s h1062 h725), (((h1061.2.1 T1056 F1057) z1059 q1060).1 h1069), trivial⟩
      have h1071 : 0 ≤ z1051 ∧ z1051 ≤ 0 := (vc_X12_ring_22 h1069 h1052)
      refine sv_aload_n (pc := 251) dX3_readAttribute_251 rfl rfl ?_
      refine mr_iconst (pc := 252) (z := 2) dX3_readAttribute_252 ?_
      refine mr_iload_n (pc := 253) (z := p1) dX3_readAttribute_253 rfl rfl ?_
      refine mr_cVV (pc := 254) (c_X3_note_W hw T1056 (rW (c := 0) (d := 3) (rR (x := 2)) rfl) (rW (c := (-2147483648)) (d := 2147483647) hp1 rfl) (((h1061.2.1 T1056 F1057) z1059 q1060).2 h1069)) (gOk _ _ _ _ _) dX3_readAttribute_254 (tX3_note _ _ _ _ _) ⟨wV_X3_note, wL_X3_note⟩ wM_X3_92 (gCX3 _ _ _ _ _) rfl (A_76 hw) rfl ⟨le_t rfl, le_t rfl⟩ ⟨le_t rfl, le_t rfl⟩ rfl (le_t rfl) fun μ1072 T1073 F1074 h1075 => ?_
      exact mr_vret dX3_readAttribute_257 rfl (le_t rfl) (le_t rfl) T1073 (mF.call (mF.call (mF.up mF.refl (A_77 hw) u727 rfl) F1057 rfl) F1074 rfl) ⟨z1059, ((f_s + 1) - z721), (F1074.f (A_76 hw) rfl q1060), (cntF F1074 (A_77 hw) rfl rfl (cntF F1057 (A_77 hw) rfl rfl (cntU u727 (rIx (n := 256) h720 rfl) rfl q_f_s q722))), (vc_X3_readAttribute_W_54 hq1 h724 h729 h1061.1 ht_f_cc ht_f_s h1062 h725), (h1075.1 T1073 F1074), trivial⟩
    refine mr_if_eq (pc := 228) (tgt := 235) dX3_readAttribute_228 (by decide) (r32 h1048 rfl) (fun h1076 => ?_) (fun h1076 => ?_)
    · have h1077 : 0 ≤ z1046 ∧ z1046 ≤ 0 := (vc_X3_readAttribute_W_20 h1076 h1048)
      refine mr_iconst (pc := 235) (z := 0) dX3_readAttribute_235 ?_
      refine mr_lvS (lv' := [(0, .ref 76), (1, iv p1), (4, iv z712), (6, iv z718)]) (List.forall_mem_cons.mpr ⟨rfl, List.forall_mem_cons.mpr ⟨rfl, List.forall_mem_cons.mpr ⟨rfl, List.forall_mem_cons.mpr ⟨rfl, fun _ h => absurd h List.not_mem_nil⟩⟩⟩⟩) ?_
      exact J1053 0 (rW (c := 0) (d := 1) (rR (x := 0)) rfl) (((W1004.2 h1003) z1046 q1047).1 h1076)
    have h1078 : 1 ≤ z1046 ∧ z1046 ≤ 128 := (vc_X3_readAttribute_W_21 h1076 h1048)
    refine mr_iconst (pc := 231) (z := 1) dX3_readAttribute_231 ?_
    refine sv_goto (pc := 232) (tgt := 236) dX3_readAttribute_232 (by decide) ?_
    refine mr_lvS (lv' := [(0, .ref 76), (1, iv p1), (4, iv z712), (6, iv z718)]) (List.forall_mem_cons.mpr ⟨rfl, List.forall_mem_cons.mpr ⟨rfl, List.forall_mem_cons.mpr ⟨rfl, List.forall_mem_cons.mpr ⟨rfl, fun _ h => absurd h List.not_mem_nil⟩⟩⟩⟩) ?_
    exact J1053 1 (rW (c := 0) (d := 1) (rR (x := 1)) rfl) (((W1004.2 h1003) z1046 q1047).2 h1076)
  have h1079 : 1 ≤ z721 ∧ z721 ≤ 1 := (vc_X12_ring_24 h724 h723)
  refine sv_aload_n (pc := 36) dX3_readAttribute_36 rfl rfl ?_
  refine mr_iconst (pc := 37) (z := 3) dX3_readAttribute_37 ?_
  refine mr_iload_n (pc := 38) (z := p1) dX3_readAttribute_38 rfl rfl ?_
  have W1084 := (((((((hQ f_cc q_f_cc ht_f_cc) b709 q710 A711) z712 q713 h714) z715 q716) z718 q719 h720) z721 q722 h723).2 h724)
  refine mr_cVV (pc := 39) (c_X3_note_W hw hT (rW (c := 0) (d := 3) (rR (x := 3)) rfl) (rW (c := (-2147483648)) (d := 2147483647) hp1 rfl) W1084) (gOk _ _ _ _ _) dX3_readAttribute_39 (tX3_note _ _ _ _ _) ⟨wV_X3_note, wL_X3_note⟩ wM_X3_92 (gCX3 _ _ _ _ _) rfl (A_76 hw) rfl ⟨le_t rfl, le_t rfl⟩ ⟨le_t rfl, le_t rfl⟩ rfl (le_t rfl) fun μ1080 T1081 F1082 h1083 => ?_
  exact mr_vret dX3_readAttribute_42 rfl (le_t rfl) (le_t rfl) T1081 (mF.call mF.refl F1082 rfl) ⟨f_cc, f_s, (F1082.f (A_76 hw) rfl q_f_cc), (cntF F1082 (A_77 hw) rfl rfl q_f_s), (vc_X3_readAttribute_W_59 hq1 ht_f_cc ht_f_s), (h1083.1 T1081 F1082), trivial⟩
def WL_X3_readAttributes_W_1 (w : mW) (μ : mM) (p2 : Int) (Q : mM → Prop) (rec1 : (Int × mM) → Prop) (s : (Int × mM)) : Prop := ∀ z553 : Int, ∀ μ554 : mM, s = (z553, μ554) → (0 ≤ z553 ∧ z553 ≤ 1002) → mT w μ554 → mF [76005, 76006, 76007, 76008, 77999, 78999, 79999, 80999, 200005, 200006, 200007, 201999] w μ μ554 → ∀ f_c2 : Int, μ554 76 (5) = f_c2 → (0 ≤ f_c2 ∧ f_c2 ≤ 256) → ((p2 ≤ z553) → Q μ554) ∧ ((z553 < p2) → ∀ b572 : Nat, μ554 76 4 = (b572 : Int) → mAt w b572 1 → ∀ z575 : Int, μ554 b572 (z553.toNat) = z575 → (0 ≤ z575 ∧ z575 ≤ 255) → ∀ z578 : Int, bAnd z575 (16 : Int) = z578 → ((z578 = 0) → (((z553 + 3) ≤ p2) → ∀ z586 : Int, μ554 b572 ((z553 + 2).toNat) = z586 → (0 ≤ z586 ∧ z586 ≤ 255) → ((((z553 + 3) + z586) ≤ p2) → WP_X3_readAttribute_W w μ554 z553 (z553 + 3) z586 (fun μ590 => mT w μ590 → mF [76005, 76006, 76007, 76008, 77999, 78999, 79999, 80999, 200005, 200006, 200007, 201999] w μ554 μ590 → ∀ z595 : Int, μ590 76 5 = z595 → ∀ z597 : Int, cnt μ590 77 256 = z597 → rec1 (((z553 + 3) + z586), μ590))) ∧ ((p2 < ((z553 + 3) + z586)) → WP_X3_note_W w μ554 (2) z553 (fun μ602 => mT w μ602 → mF [80999] w μ554 μ602 → Q μ602))) ∧ ((p2 < (z553 + 3)) → WP_X3_note_W w μ554 (2) z553 (fun μ607 => mT w μ607 → mF [80999] w μ554 μ607 → Q μ607))) ∧ ((¬ z578 = 0) → (((z553 + 4) ≤ p2) → WP_X3_pairAt_W w μ554 (z553 + 2) (fun z620 _ => (0 ≤ z620 ∧ z620 ≤ 65535) → ((((z553 + 4) + z620) ≤ p2) → WP_X3_readAttribute_W w μ554 z553 (z553 + 4) z620 (fun μ624 => mT w μ624 → mF [76005, 76006, 76007, 76008, 77999, 78999, 79999, 80999, 200005, 200006, 200007, 201999] w μ554 μ624 → ∀ z628 : Int, μ624 76 5 = z628 → ∀ z630 : Int, cnt μ624 77 256 = z630 → rec1 (((z553 + 4) + z620), μ624))) ∧ ((p2 < ((z553 + 4) + z620)) → WP_X3_note_W w μ554 (2) z553 (fun μ635 => mT w μ635 → mF [80999] w μ554 μ635 → Q μ635)))) ∧ ((p2 < (z553 + 4)) → WP_X3_note_W w μ554 (2) z553 (fun μ639 => mT w μ639 → mF [80999] w μ554 μ639 → Q μ639))))
def WP_X3_readAttributes_W (w : mW) (μ : mM) (p1 : Int) (p2 : Int) (Q : mM → Prop) : Prop := ∀ f_cc : Int, μ 76 5 = f_cc → (0 ≤ f_cc ∧ f_cc ≤ 256) → loopF (WL_X3_readAttributes_W_1 w μ p2 Q) False 1004 (p1, μ)
theorem vc_X3_readAttributes_W_1 {f_c2 f_s2 z553 : Int} (h0 : (1003 - z553) < ((0 : Nat) : Int)) (h1 : 0 ≤ f_s2 ∧ f_s2 ≤ 256) (h2 : f_c2 ≤ f_s2) (h3 : 0 ≤ z553 ∧ z553 ≤ 1002) : False := by omega
theorem vc_X3_readAttributes_W_3 {p2 z553 : Int} (h0 : z553 < p2) (h1 : 0 ≤ p2 ∧ p2 ≤ 1000) (h2 : 0 ≤ z553 ∧ z553 ≤ 1002) : 0 ≤ z553 ∧ z553 ≤ 999 := by omega
theorem vc_X3_readAttributes_W_5 {z578 : Int} (h0 : z578 = 0) (h1 : 0 ≤ z578 ∧ z578 ≤ 16) : 0 ≤ z578 ∧ z578 ≤ 0 := by omega
theorem vc_X3_readAttributes_W_7 {p2 z553 : Int} (h0 : (z553 + 3) ≤ p2) (h1 : z553 < p2) (h2 : 1 ≤ p2 ∧ p2 ≤ 1000) (h3 : 0 ≤ z553 ∧ z553 ≤ 999) : 0 ≤ z553 ∧ z553 ≤ 997 := by omega
theorem vc_X3_readAttributes_W_8 {p2 z553 : Int} (h0 : (z553 + 3) ≤ p2) (h1 : z553 < p2) (h2 : 1 ≤ p2 ∧ p2 ≤ 1000) (h3 : 0 ≤ z553 ∧ z553 ≤ 997) : 3 ≤ p2 ∧ p2 ≤ 1000 := by omega
theorem vc_X3_readAttributes_W_9 {p2 z553 z586 : Int} (h0 : z553 < p2) (h1 : (z553 + 3) ≤ p2) (h2 : ((z553 + 3) + z586) ≤ p2) (h3 : 3 ≤ p2 ∧ p2 ≤ 1000) (h4 : 0 ≤ z553 ∧ z553 ≤ 997) (h5 : 0 ≤ z586 ∧ z586 ≤ 255) : (z553 + 3) + z586 ≤ 1000 := by omega
theorem vc_X3_readAttributes_W_10 {p2 z553 z586 : Int} (h0 : z553 < p2) (h1 : (z553 + 3) ≤ p2) (h2 : ((z553 + 3) + z586) ≤ p2) (h3 : 3 ≤ p2 ∧ p2 ≤ 1000) (h4 : 0 ≤ z553 ∧ z553 ≤ 997) (h5 : 0 ≤ z586 ∧ z586 ≤ 255) : 0 ≤ ((z553 + 3) + z586) ∧ ((z553 + 3) + z586) ≤ 1002 := by omega
theorem vc_X3_readAttributes_W_12 {N p2 z553 z586 : Int} (h0 : (1003 - z553) < N + 1) (h1 : z553 < p2) (h2 : (z553 + 3) ≤ p2) (h3 : ((z553 + 3) + z586) ≤ p2) (h4 : 3 ≤ p2 ∧ p2 ≤ 1000) (h5 : 0 ≤ z553 ∧ z553 ≤ 997) (h6 : 0 ≤ z586 ∧ z586 ≤ 255) : (1003 - ((z553 + 3) + z586)) < N := by omega
theorem vc_X3_readAttributes_W_13 {z578 : Int} (h0 : ¬ z578 = 0) (h1 : 0 ≤ z578 ∧ z578 ≤ 16) : 1 ≤ z578 ∧ z578 ≤ 16 := by omega
theorem vc_X3_readAttributes_W_15 {p2 z553 : Int} (h0 : (z553 + 4) ≤ p2) (h1 : z553 < p2) (h2 : 1 ≤ p2 ∧ p2 ≤ 1000) (h3 : 0 ≤ z553 ∧ z553 ≤ 999) : 0 ≤ z553 ∧ z553 ≤ 996 := by omega
theorem vc_X3_readAttributes_W_16 {p2 z553 : Int} (h0 : (z553 + 4) ≤ p2) (h1 : z553 < p2) (h2 : 1 ≤ p2 ∧ p2 ≤ 1000) (h3 : 0 ≤ z553 ∧ z553 ≤ 996) : 4 ≤ p2 ∧ p2 ≤ 1000 := by omega
theorem vc_X3_readAttributes_W_17 {p2 z553 z620 : Int} (h0 : ((z553 + 4) + z620) ≤ p2) (h1 : z553 < p2) (h2 : (z553 + 4) ≤ p2) (h3 : 4 ≤ p2 ∧ p2 ≤ 1000) (h4 : 0 ≤ z553 ∧ z553 ≤ 996) (h5 : 0 ≤ z620 ∧ z620 ≤ 65535) : 0 ≤ z620 ∧ z620 ≤ 996 := by omega
theorem vc_X3_readAttributes_W_18 {p2 z553 z620 : Int} (h0 : z553 < p2) (h1 : (z553 + 4) ≤ p2) (h2 : ((z553 + 4) + z620) ≤ p2) (h3 : 4 ≤ p2 ∧ p2 ≤ 1000) (h4 : 0 ≤ z553 ∧ z553 ≤ 996) (h5 : 0 ≤ z620 ∧ z620 ≤ 996) : (z553 + 4) + z620 ≤ 1000 := by omega
theorem vc_X3_readAttributes_W_19 {p2 z553 z620 : Int} (h0 : z553 < p2) (h1 : (z553 + 4) ≤ p2) (h2 : ((z553 + 4) + z620) ≤ p2) (h3 : 4 ≤ p2 ∧ p2 ≤ 1000) (h4 : 0 ≤ z553 ∧ z553 ≤ 996) (h5 : 0 ≤ z620 ∧ z620 ≤ 996) : 0 ≤ ((z553 + 4) + z620) ∧ ((z553 + 4) + z620) ≤ 1002 := by omega
theorem vc_X3_readAttributes_W_21 {N p2 z553 z620 : Int} (h0 : (1003 - z553) < N + 1) (h1 : z553 < p2) (h2 : (z553 + 4) ≤ p2) (h3 : ((z553 + 4) + z620) ≤ p2) (h4 : 4 ≤ p2 ∧ p2 ≤ 1000) (h5 : 0 ≤ z553 ∧ z553 ≤ 996) (h6 : 0 ≤ z620 ∧ z620 ≤ 996) : (1003 - ((z553 + 4) + z620)) < N := by omega
theorem vc_X3_readAttributes_W_23 {p1 : Int} (h0 : 0 ≤ p1 ∧ p1 ≤ 1002) : (1003 - p1) < ((1004 : Nat) : Int) := by omega
set_option maxRecDepth 4000 in
set_option maxHeartbeats 4000000 in
theorem c_X3_readAttributes_W {l : Launch} {D : va_G} {c : Nat → ClassId} {H0 : Heap} {sa : Nat × Nat × (Nat → Int32)} {w : mW} {μ : mM} (hw : mWF w) (hT : mT w μ) {p1 : Int} (hp1 : 0 ≤ p1 ∧ p1 ≤ 1002) {p2 : Int} (hp2 : 0 ≤ p2 ∧ p2 ≤ 1000) {f_cc : Int} (q_f_cc : μ 76 5 = f_cc) {f_s : Int} (q_f_s : cnt μ 77 256 = f_s) (hq0 : f_cc ≤ f_s) (hIOC : OC μ) {Q : mM → Prop} (hQ : WP_X3_readAttributes_W w μ p1 p2 Q) : sC (gG l D c H0 sa) mX3_readAttributes 5 0 0 [.ref 76, iv p1, iv p2] (mk w μ) (qV w [76005, 76006, 76007, 76008, 77999, 78999, 79999, 80999, 200005, 200006, 200007, 201999] μ (fun μ1 => ∃ o_cc o_s : Int, μ1 76 5 = o_cc ∧ cnt μ1 77 256 = o_s ∧ (o_cc ≤ o_s) ∧ Q μ1 ∧ True)) := by
  refine sC.of rfl (by decide) (le_t rfl) ?_
  have ht_f_cc : (0 ≤ f_cc ∧ f_cc ≤ 256) := by rw [← q_f_cc]; exact hT 76 76 (A_76 hw) 5
  have ht_f_s : 0 ≤ f_s ∧ f_s ≤ 256 := by rw [← q_f_s]; exact cnt_rng (fun i => hT 77 77 (A_77 hw) i) 256
  refine mr_lvE (lv' := [(0, .ref 76), (1, iv p1), (2, iv p2)]) rfl ?_
  refine mr_iload_n (pc := 0) (z := p1) dX3_readAttributes_0 rfl rfl ?_
  refine mr_istore_n (pc := 1) (lv' := [(3, iv p1), (0, .ref 76), (1, iv p1), (2, iv p2)]) dX3_readAttributes_1 rfl (by decide) rfl ?_
  have L555 : ∀ (nL555 : Nat) (z553 : Int) (μ554 : mM) (f_c2 : Int) (f_s2 : Int), mT w μ554 → mF [76005, 76006, 76007, 76008, 77999, 78999, 79999, 80999, 200005, 200006, 200007, 201999] w μ μ554 → μ554 76 (5) = f_c2 → cnt μ554 77 256 = f_s2 → (0 ≤ z553 ∧ z553 ≤ 1002) → (f_c2 ≤ f_s2) → OC μ554 → (1003 - z553) < (nL555 : Int) → loopF (WL_X3_readAttributes_W_1 w μ p2 Q) False nL555 (z553, μ554) → sV (gG l D c H0 sa) mX3_readAttributes (sRm 5 0 0) (sZ (gG l D c H0 sa) 0 0 (qV w [76005, 76006, 76007, 76008, 77999, 78999, 79999, 80999, 200005, 200006, 200007, 201999] μ (fun μ1 => ∃ o_cc o_s : Int, μ1 76 5 = o_cc ∧ cnt μ1 77 256 = o_s ∧ (o_cc ≤ o_s) ∧ Q μ1 ∧ True))) 2 [(0, .ref 76), (2, iv p2), (3, iv z553)] [] (mk w μ554) 0 0 := by
    intro nL555
    induction nL555 with
    | zero => intro z553 μ554 f_c2 f_s2 T557 F558 q564 q565 h556 h560 I561 h562 W563; exact ((vc_X3_readAttributes_W_1 h562 (by rw [← q565]; exact cnt_rng (fun i => T557 77 77 (A_77 hw) i) 256) h560 h556)).elim
    | succ nL555 ih566 =>
      intro z553 μ554 f_c2 f_s2 T557 F558 q564 q565 h556 h560 I561 h562 W563
      have h567 : (0 ≤ f_c2 ∧ f_c2 ≤ 256) := by rw [← q564]; exact T557 76 76 (A_76 hw) (5)
      have h568 : 0 ≤ f_s2 ∧ f_s2 ≤ 256 := by rw [← q565]; exact cnt_rng (fun i => T557 77 77 (A_77 hw) i) 256
      refine mr_iload_n (pc := 2) (z := z553) dX3_readAttributes_2 rfl rfl ?_
      refine mr_iload_n (pc := 3) (z := p2) dX3_readAttributes_3 rfl rfl ?_
      refine mr_icmp_ge (pc := 4) (tgt := 112) dX3_readAttributes_4 (by decide) (r32 h556 rfl) (r32 hp2 rfl) (fun h569 => ?_) (fun h569 => ?_)
      · exact mr_vret dX3_readAttributes_112 rfl (le_t rfl) (le_t rfl) T557 (mF.call mF.refl F558 rfl) ⟨f_c2, f_s2, q564, q565, (vc_X3_readAttribute_W_59 h560 h567 h568), (((W563 z553 μ554 rfl h556 T557 F558) f_c2 q564 h567).1 h569), trivial⟩
      have h570 : 0 ≤ z553 ∧ z553 ≤ 999 := (vc_X3_readAttributes_W_3 h569 hp2 h556)
      have h571 : 1 ≤ p2 ∧ p2 ≤ 1000 := (vc_X12_byteAt_g_5 h569 hp2 h570)
      refine sv_aload_n (pc := 7) dX3_readAttributes_7 rfl rfl ?_
      refine gf_X3_4 (pc := 8) dX3_readAttributes_8 wF_X3_41 (A_76 hw) T557 I561 fun b572 q573 A574 => ?_
      refine mr_iload_n (pc := 11) (z := z553) dX3_readAttributes_11 rfl rfl ?_
      refine la_1 (pc := 12) dX3_readAttributes_12 A574 T557 (rIx (n := 1000) h570 rfl) fun z575 q576 h577 => ?_
      refine mr_bipush (pc := 13) (z := 16) dX3_readAttributes_13 (by decide) ?_
      refine mr_iand (pc := 15) (x := z575) (y := 16) dX3_readAttributes_15 ?_
      refine mr_gen (P := fun z => 0 ≤ z ∧ z ≤ 16) (rAndR (rR (x := 16)) rfl) fun z578 q579 h580 => ?_
      refine mr_if_eq (pc := 16) (tgt := 23) dX3_readAttributes_16 (by decide) (r32 h580 rfl) (fun h581 => ?_) (fun h581 => ?_)
      · have h582 : 0 ≤ z578 ∧ z578 ≤ 0 := (vc_X3_readAttributes_W_5 h581 h580)
        refine mr_iconst (pc := 23) (z := 0) dX3_readAttributes_23 ?_
        refine mr_istore (pc := 24) (lv' := [(4, iv 0), (0, .ref 76), (2, iv p2), (3, iv z553)]) dX3_readAttributes_24 (by decide) rfl ?_
        refine mr_iload_n (pc := 26) (z := z553) dX3_readAttributes_26 rfl rfl ?_
        refine mr_iload (pc := 27) (z := 0) dX3_readAttributes_27 rfl ?_
        refine mr_if_eq (pc := 29) (tgt := 36) dX3_readAttributes_29 (by decide) (r32 (rR (x := 0)) rfl) (fun _ => ?_) (fun h => ((vc_X12_next_v_395 h)).elim)
        refine mr_iconst (pc := 36) (z := 3) dX3_readAttributes_36 ?_
        refine mr_iadd (pc := 37) (x := z553) (y := 3) dX3_readAttributes_37 ?_
        refine mr_istore (pc := 38) (lv' := [(5, iv (z553 + 3)), (4, iv 0), (0, .ref 76), (2, iv p2), (3, iv z553)]) dX3_readAttributes_38 (by decide) rfl ?_
        refine mr_iload (pc := 40) (z := (z553 + 3)) dX3_readAttributes_40 rfl ?_
        refine mr_iload_n (pc := 42) (z := p2) dX3_readAttributes_42 rfl rfl ?_
        refine mr_icmp_le (pc := 43) (tgt := 53) dX3_readAttributes_43 (by decide) (r32 (rAdd (e := 3) (f := 1002) h570 (rR (x := 3)) rfl) rfl) (r32 h571 rfl) (fun h583 => ?_) (fun h583 => ?_)
        · have h584 : 0 ≤ z553 ∧ z553 ≤ 997 := (vc_X3_readAttributes_W_7 h583 h569 h571 h570)
          have h585 : 3 ≤ p2 ∧ p2 ≤ 1000 := (vc_X3_readAttributes_W_8 h583 h569 h571 h584)
          refine mr_iload (pc := 53) (z := 0) dX3_readAttributes_53 rfl ?_
          refine mr_if_eq (pc := 55) (tgt := 68) dX3_readAttributes_55 (by decide) (r32 (rR (x := 0)) rfl) (fun _ => ?_) (fun h => ((vc_X12_next_v_395 h)).elim)
          refine sv_aload_n (pc := 68) dX3_readAttributes_68 rfl rfl ?_
          refine gk_X3_4 (pc := 69) dX3_readAttributes_69 wF_X3_41 (A_76 hw) q573 ?_
          refine mr_iload_n (pc := 72) (z := z553) dX3_readAttributes_72 rfl rfl ?_
          refine mr_iconst (pc := 73) (z := 2) dX3_readAttributes_73 ?_
          refine mr_iadd (pc := 74) (x := z553) (y := 2) dX3_readAttributes_74 ?_
          refine la_1 (pc := 75) dX3_readAttributes_75 A574 T557 (rIx (n := 1000) (rAdd (e := 2) (f := 999) h584 (rR (x := 2)) rfl) rfl) fun z586 q587 h588 => ?_
          refine mr_istore (pc := 76) (lv' := [(6, iv z586), (5, iv (z553 + 3)), (4, iv 0), (0, .ref 76), (2, iv p2), (3, iv z553)]) dX3_readAttributes_76 (by decide) rfl ?_
          refine mr_iload (pc := 78) (z := (z553 + 3)) dX3_readAttributes_78 rfl ?_
          refine mr_iload (pc := 80) (z := z586) dX3_readAttributes_80 rfl ?_
          refine mr_iadd (pc := 82) (x := (z553 + 3)) (y := z586) dX3_readAttributes_82 ?_
          refine mr_iload_n (pc := 83) (z := p2) dX3_readAttributes_83 rfl rfl ?_
          refine mr_icmp_le (pc := 84) (tgt := 94) dX3_readAttributes_84 (by decide) (r32 (rAdd (e := 3) (f := 1255) (rAdd (e := 3) (f := 1000) h584 (rR (x := 3)) rfl) h588 rfl) rfl) (r32 h585 rfl) (fun h589 => ?_) (fun h589 => ?_)
          · refine sv_aload_n (pc := 94) dX3_readAttributes_94 rfl rfl ?_
            refine mr_iload_n (pc := 95) (z := z553) dX3_readAttributes_95 rfl rfl ?_
            refine mr_iload (pc := 96) (z := (z553 + 3)) dX3_readAttributes_96 rfl ?_
            refine mr_iload (pc := 98) (z := z586) dX3_readAttributes_98 rfl ?_
            have W594 := ((((((((((W563 z553 μ554 rfl h556 T557 F558) f_c2 q564 h567).2 h569) b572 q573 A574) z575 q576 h577) z578 q579).1 h581).1 h583) z586 q587 h588).1 h589)
            refine mr_cVV (pc := 100) (c_X3_readAttribute_W hw T557 (rW (c := 0) (d := 998) h584 rfl) (rW (c := 0) (d := 1000) (rAdd (e := 3) (f := 1000) h584 (rR (x := 3)) rfl) rfl) (rW (c := 0) (d := 1000) h588 rfl) q564 q565 (vc_X3_readAttributes_W_9 h569 h583 h589 h585 h584 h588) (vc_X3_readAttribute_W_59 h560 h567 h568) I561 W594) (gOk _ _ _ _ _) dX3_readAttributes_100 (tX3_readAttribute _ _ _ _ _) ⟨wV_X3_readAttribute, wL_X3_readAttribute⟩ wM_X3_107 (gCX3 _ _ _ _ _) rfl (A_76 hw) rfl ⟨le_t rfl, le_t rfl⟩ ⟨le_t rfl, le_t rfl⟩ rfl (le_t rfl) fun μ590 T591 F592 h593 => ?_
            obtain ⟨z595, z597, q596, q598, h599⟩ := h593
            have h600 : (0 ≤ z595 ∧ z595 ≤ 256) := by rw [← q596]; exact T591 76 76 (A_76 hw) 5
            have h601 : 0 ≤ z597 ∧ z597 ≤ 256 := by rw [← q598]; exact cnt_rng (fun i => T591 77 77 (A_77 hw) i) 256
            refine mr_iload (pc := 103) (z := (z553 + 3)) dX3_readAttributes_103 rfl ?_
            refine mr_iload (pc := 105) (z := z586) dX3_readAttributes_105 rfl ?_
            refine mr_iadd (pc := 107) (x := (z553 + 3)) (y := z586) dX3_readAttributes_107 ?_
            refine mr_istore_n (pc := 108) (lv' := [(3, iv ((z553 + 3) + z586)), (6, iv z586), (5, iv (z553 + 3)), (4, iv 0), (0, .ref 76), (2, iv p2)]) dX3_readAttributes_108 rfl (by decide) rfl ?_
            refine sv_goto (pc := 109) (tgt := 2) dX3_readAttributes_109 (by decide) ?_
            refine mr_lvS (lv' := [(0, .ref 76), (2, iv p2), (3, iv ((z553 + 3) + z586))]) (List.forall_mem_cons.mpr ⟨rfl, List.forall_mem_cons.mpr ⟨rfl, List.forall_mem_cons.mpr ⟨rfl, fun _ h => absurd h List.not_mem_nil⟩⟩⟩) ?_
            exact ih566 ((z553 + 3) + z586) μ590 z595 z597 T591 (mF.call (mF.call mF.refl F558 rfl) F592 rfl) q596 q598 (vc_X3_readAttributes_W_10 h569 h583 h589 h585 h584 h588) (vc_X3_readAttribute_W_59 h599.1 h600 h601) (OC.keep I561 hw ((mF.call mF.refl F592 rfl) : mF [76005, 76006, 76007, 76008, 77999, 78999, 79999, 80999, 200005, 200006, 200007, 201999] w μ554 μ590) rfl) (vc_X3_readAttributes_W_12 (nS h562) h569 h583 h589 h585 h584 h588) (((h599.2.1 T591 F592) z595 q596) z597 q598)
          refine sv_aload_n (pc := 87) dX3_readAttributes_87 rfl rfl ?_
          refine mr_iconst (pc := 88) (z := 2) dX3_readAttributes_88 ?_
          refine mr_iload_n (pc := 89) (z := z553) dX3_readAttributes_89 rfl rfl ?_
          have W606 := ((((((((((W563 z553 μ554 rfl h556 T557 F558) f_c2 q564 h567).2 h569) b572 q573 A574) z575 q576 h577) z578 q579).1 h581).1 h583) z586 q587 h588).2 h589)
          refine mr_cVV (pc := 90) (c_X3_note_W hw T557 (rW (c := 0) (d := 3) (rR (x := 2)) rfl) (rW (c := (-2147483648)) (d := 2147483647) h584 rfl) W606) (gOk _ _ _ _ _) dX3_readAttributes_90 (tX3_note _ _ _ _ _) ⟨wV_X3_note, wL_X3_note⟩ wM_X3_92 (gCX3 _ _ _ _ _) rfl (A_76 hw) rfl ⟨le_t rfl, le_t rfl⟩ ⟨le_t rfl, le_t rfl⟩ rfl (le_t rfl) fun μ602 T603 F604 h605 => ?_
          exact mr_vret dX3_readAttributes_93 rfl (le_t rfl) (le_t rfl) T603 (mF.call (mF.call mF.refl F558 rfl) F604 rfl) ⟨f_c2, f_s2, (F604.f (A_76 hw) rfl q564), (cntF F604 (A_77 hw) rfl rfl q565), (vc_X3_readAttribute_W_59 h560 h567 h568), (h605.1 T603 F604), trivial⟩
        refine sv_aload_n (pc := 46) dX3_readAttributes_46 rfl rfl ?_
        refine mr_iconst (pc := 47) (z := 2) dX3_readAttributes_47 ?_
        refine mr_iload_n (pc := 48) (z := z553) dX3_readAttributes_48 rfl rfl ?_
        have W611 := ((((((((W563 z553 μ554 rfl h556 T557 F558) f_c2 q564 h567).2 h569) b572 q573 A574) z575 q576 h577) z578 q579).1 h581).2 h583)
        refine mr_cVV (pc := 49) (c_X3_note_W hw T557 (rW (c := 0) (d := 3) (rR (x := 2)) rfl) (rW (c := (-2147483648)) (d := 2147483647) h570 rfl) W611) (gOk _ _ _ _ _) dX3_readAttributes_49 (tX3_note _ _ _ _ _) ⟨wV_X3_note, wL_X3_note⟩ wM_X3_92 (gCX3 _ _ _ _ _) rfl (A_76 hw) rfl ⟨le_t rfl, le_t rfl⟩ ⟨le_t rfl, le_t rfl⟩ rfl (le_t rfl) fun μ607 T608 F609 h610 => ?_
        exact mr_vret dX3_readAttributes_52 rfl (le_t rfl) (le_t rfl) T608 (mF.call (mF.call mF.refl F558 rfl) F609 rfl) ⟨f_c2, f_s2, (F609.f (A_76 hw) rfl q564), (cntF F609 (A_77 hw) rfl rfl q565), (vc_X3_readAttribute_W_59 h560 h567 h568), (h610.1 T608 F609), trivial⟩
      have h612 : 1 ≤ z578 ∧ z578 ≤ 16 := (vc_X3_readAttributes_W_13 h581 h580)
      refine mr_iconst (pc := 19) (z := 1) dX3_readAttributes_19 ?_
      refine sv_goto (pc := 20) (tgt := 24) dX3_readAttributes_20 (by decide) ?_
      refine mr_istore (pc := 24) (lv' := [(4, iv 1), (0, .ref 76), (2, iv p2), (3, iv z553)]) dX3_readAttributes_24 (by decide) rfl ?_
      refine mr_iload_n (pc := 26) (z := z553) dX3_readAttributes_26 rfl rfl ?_
      refine mr_iload (pc := 27) (z := 1) dX3_readAttributes_27 rfl ?_
      refine mr_if_eq (pc := 29) (tgt := 36) dX3_readAttributes_29 (by decide) (r32 (rR (x := 1)) rfl) (fun h => ((vc_X12_next_v_204 h)).elim) (fun _ => ?_)
      refine mr_iconst (pc := 32) (z := 4) dX3_readAttributes_32 ?_
      refine sv_goto (pc := 33) (tgt := 37) dX3_readAttributes_33 (by decide) ?_
      refine mr_iadd (pc := 37) (x := z553) (y := 4) dX3_readAttributes_37 ?_
      refine mr_istore (pc := 38) (lv' := [(5, iv (z553 + 4)), (4, iv 1), (0, .ref 76), (2, iv p2), (3, iv z553)]) dX3_readAttributes_38 (by decide) rfl ?_
      refine mr_iload (pc := 40) (z := (z553 + 4)) dX3_readAttributes_40 rfl ?_
      refine mr_iload_n (pc := 42) (z := p2) dX3_readAttributes_42 rfl rfl ?_
      refine mr_icmp_le (pc := 43) (tgt := 53) dX3_readAttributes_43 (by decide) (r32 (rAdd (e := 4) (f := 1003) h570 (rR (x := 4)) rfl) rfl) (r32 h571 rfl) (fun h613 => ?_) (fun h613 => ?_)
      · have h614 : 0 ≤ z553 ∧ z553 ≤ 996 := (vc_X3_readAttributes_W_15 h613 h569 h571 h570)
        have h615 : 4 ≤ p2 ∧ p2 ≤ 1000 := (vc_X3_readAttributes_W_16 h613 h569 h571 h614)
        refine mr_iload (pc := 53) (z := 1) dX3_readAttributes_53 rfl ?_
        refine mr_if_eq (pc := 55) (tgt := 68) dX3_readAttributes_55 (by decide) (r32 (rR (x := 1)) rfl) (fun h => ((vc_X12_next_v_204 h)).elim) (fun _ => ?_)
        refine sv_aload_n (pc := 58) dX3_readAttributes_58 rfl rfl ?_
        refine mr_iload_n (pc := 59) (z := z553) dX3_readAttributes_59 rfl rfl ?_
        refine mr_iconst (pc := 60) (z := 2) dX3_readAttributes_60 ?_
        refine mr_iadd (pc := 61) (x := z553) (y := 2) dX3_readAttributes_61 ?_
        have W621 := ((((((((W563 z553 μ554 rfl h556 T557 F558) f_c2 q564 h567).2 h569) b572 q573 A574) z575 q576 h577) z578 q579).2 h581).1 h613)
        refine mr_cVP (pc := 62) (c_X3_pairAt_W hw T557 (rW (c := 0) (d := 998) (rAdd (e := 2) (f := 998) h614 (rR (x := 2)) rfl) rfl) I561 W621) (gOk _ _ _ _ _) dX3_readAttributes_62 (tX3_pairAt _ _ _ _ _) ⟨wV_X3_pairAt, wL_X3_pairAt⟩ wM_X3_88 (gCX3 _ _ _ _ _) rfl (A_76 hw) rfl ⟨le_t rfl, le_t rfl⟩ ⟨le_t rfl, le_t rfl⟩ rfl (le_t rfl) fun z620 h619 => ?_
        refine sv_goto (pc := 65) (tgt := 76) dX3_readAttributes_65 (by decide) ?_
        refine mr_istore (pc := 76) (lv' := [(6, iv z620), (5, iv (z553 + 4)), (4, iv 1), (0, .ref 76), (2, iv p2), (3, iv z553)]) dX3_readAttributes_76 (by decide) rfl ?_
        refine mr_iload (pc := 78) (z := (z553 + 4)) dX3_readAttributes_78 rfl ?_
        refine mr_iload (pc := 80) (z := z620) dX3_readAttributes_80 rfl ?_
        refine mr_iadd (pc := 82) (x := (z553 + 4)) (y := z620) dX3_readAttributes_82 ?_
        refine mr_iload_n (pc := 83) (z := p2) dX3_readAttributes_83 rfl rfl ?_
        refine mr_icmp_le (pc := 84) (tgt := 94) dX3_readAttributes_84 (by decide) (r32 (rAdd (e := 4) (f := 66535) (rAdd (e := 4) (f := 1000) h614 (rR (x := 4)) rfl) h619.1 rfl) rfl) (r32 h615 rfl) (fun h622 => ?_) (fun h622 => ?_)
        · have h623 : 0 ≤ z620 ∧ z620 ≤ 996 := (vc_X3_readAttributes_W_17 h622 h569 h613 h615 h614 h619.1)
          refine sv_aload_n (pc := 94) dX3_readAttributes_94 rfl rfl ?_
          refine mr_iload_n (pc := 95) (z := z553) dX3_readAttributes_95 rfl rfl ?_
          refine mr_iload (pc := 96) (z := (z553 + 4)) dX3_readAttributes_96 rfl ?_
          refine mr_iload (pc := 98) (z := z620) dX3_readAttributes_98 rfl ?_
          refine mr_cVV (pc := 100) (c_X3_readAttribute_W hw T557 (rW (c := 0) (d := 998) h614 rfl) (rW (c := 0) (d := 1000) (rAdd (e := 4) (f := 1000) h614 (rR (x := 4)) rfl) rfl) (rW (c := 0) (d := 1000) h623 rfl) q564 q565 (vc_X3_readAttributes_W_18 h569 h613 h622 h615 h614 h623) (vc_X3_readAttribute_W_59 h560 h567 h568) I561 ((h619.2.1 h619.1).1 h622)) (gOk _ _ _ _ _) dX3_readAttributes_100 (tX3_readAttribute _ _ _ _ _) ⟨wV_X3_readAttribute, wL_X3_readAttribute⟩ wM_X3_107 (gCX3 _ _ _ _ _) rfl (A_76 hw) rfl ⟨le_t rfl, le_t rfl⟩ ⟨le_t rfl, le_t rfl⟩ rfl (le_t rfl) fun μ624 T625 F626 h627 => ?_
          obtain ⟨z628, z630, q629, q631, h632⟩ := h627
          have h633 : (0 ≤ z628 ∧ z628 ≤ 256) := by rw [← q629]; exact T625 76 76 (A_76 hw) 5
          have h634 : 0 ≤ z630 ∧ z630 ≤ 256 := by rw [← q631]; exact cnt_rng (fun i => T625 77 77 (A_77 hw) i) 256
          refine mr_iload (pc := 103) (z := (z553 + 4)) dX3_readAttributes_103 rfl ?_
          refine mr_iload (pc := 105) (z := z620) dX3_readAttributes_105 rfl ?_
          refine mr_iadd (pc := 107) (x := (z553 + 4)) (y := z620) dX3_readAttributes_107 ?_
          refine mr_istore_n (pc := 108) (lv' := [(3, iv ((z553 + 4) + z620)), (6, iv z620), (5, iv (z553 + 4)), (4, iv 1), (0, .ref 76), (2, iv p2)]) dX3_readAttributes_108 rfl (by decide) rfl ?_
          refine sv_goto (pc := 109) (tgt := 2) dX3_readAttributes_109 (by decide) ?_
          refine mr_lvS (lv' := [(0, .ref 76), (2, iv p2), (3, iv ((z553 + 4) + z620))]) (List.forall_mem_cons.mpr ⟨rfl, List.forall_mem_cons.mpr ⟨rfl, List.forall_mem_cons.mpr ⟨rfl, fun _ h => absurd h List.not_mem_nil⟩⟩⟩) ?_
          exact ih566 ((z553 + 4) + z620) μ624 z628 z630 T625 (mF.call (mF.call mF.refl F558 rfl) F626 rfl) q629 q631 (vc_X3_readAttributes_W_19 h569 h613 h622 h615 h614 h623) (vc_X3_readAttribute_W_59 h632.1 h633 h634) (OC.keep I561 hw ((mF.call mF.refl F626 rfl) : mF [76005, 76006, 76007, 76008, 77999, 78999, 79999, 80999, 200005, 200006, 200007, 201999] w μ554 μ624) rfl) (vc_X3_readAttributes_W_21 (nS h562) h569 h613 h622 h615 h614 h623) (((h632.2.1 T625 F626) z628 q629) z630 q631)
        refine sv_aload_n (pc := 87) dX3_readAttributes_87 rfl rfl ?_
        refine mr_iconst (pc := 88) (z := 2) dX3_readAttributes_88 ?_
        refine mr_iload_n (pc := 89) (z := z553) dX3_readAttributes_89 rfl rfl ?_
        refine mr_cVV (pc := 90) (c_X3_note_W hw T557 (rW (c := 0) (d := 3) (rR (x := 2)) rfl) (rW (c := (-2147483648)) (d := 2147483647) h614 rfl) ((h619.2.1 h619.1).2 h622)) (gOk _ _ _ _ _) dX3_readAttributes_90 (tX3_note _ _ _ _ _) ⟨wV_X3_note, wL_X3_note⟩ wM_X3_92 (gCX3 _ _ _ _ _) rfl (A_76 hw) rfl ⟨le_t rfl, le_t rfl⟩ ⟨le_t rfl, le_t rfl⟩ rfl (le_t rfl) fun μ635 T636 F637 h638 => ?_
        exact mr_vret dX3_readAttributes_93 rfl (le_t rfl) (le_t rfl) T636 (mF.call (mF.call mF.refl F558 rfl) F637 rfl) ⟨f_c2, f_s2, (F637.f (A_76 hw) rfl q564), (cntF F637 (A_77 hw) rfl rfl q565), (vc_X3_readAttribute_W_59 h560 h567 h568), (h638.1 T636 F637), trivial⟩
      refine sv_aload_n (pc := 46) dX3_readAttributes_46 rfl rfl ?_
      refine mr_iconst (pc := 47) (z := 2) dX3_readAttributes_47 ?_
      refine mr_iload_n (pc := 48) (z := z553) dX3_readAttributes_48 rfl rfl ?_
      have W643 := ((((((((W563 z553 μ554 rfl h556 T557 F558) f_c2 q564 h567).2 h569) b572 q573 A574) z575 q576 h577) z578 q579).2 h581).2 h613)
      refine mr_cVV (pc := 49) (c_X3_note_W hw T557 (rW (c := 0) (d := 3) (rR (x := 2)) rfl) (rW (c := (-2147483648)) (d := 2147483647) h570 rfl) W643) (gOk _ _ _ _ _) dX3_readAttributes_49 (tX3_note _ _ _ _ _) ⟨wV_X3_note, wL_X3_note⟩ wM_X3_92 (gCX3 _ _ _ _ _) rfl (A_76 hw) rfl ⟨le_t rfl, le_t rfl⟩ ⟨le_t rfl, le_t rfl⟩ rfl (le_t rfl) fun μ639 T640 F641 h642 => ?_
      exact mr_vret dX3_readAttributes_52 rfl (le_t rfl) (le_t rfl) T640 (mF.call (mF.call mF.refl F558 rfl) F641 rfl) ⟨f_c2, f_s2, (F641.f (A_76 hw) rfl q564), (cntF F641 (A_77 hw) rfl rfl q565), (vc_X3_readAttribute_W_59 h560 h567 h568), (h642.1 T640 F641), trivial⟩
  refine mr_lvS (lv' := [(0, .ref 76), (2, iv p2), (3, iv p1)]) (List.forall_mem_cons.mpr ⟨rfl, List.forall_mem_cons.mpr ⟨rfl, List.forall_mem_cons.mpr ⟨rfl, fun _ h => absurd h List.not_mem_nil⟩⟩⟩) ?_
  exact L555 1004 p1 μ f_cc f_s hT mF.refl q_f_cc q_f_s hp1 (vc_X3_readAttribute_W_59 hq0 ht_f_cc ht_f_s) hIOC (vc_X3_readAttributes_W_23 hp1) (hQ f_cc q_f_cc ht_f_cc)
def WJ_X3_readParts_W_2 (w : mW) (p1 : Int) (Q : mM → Prop) (z241 : Int) (z252 : Int) (μ253 : mM) (z263 : Int) : Prop := (4 ≤ z263 ∧ z263 ≤ 66535) → ((z263 ≤ p1) → WP_X3_readAttributes_W w μ253 (z241 + 2) z263 (fun μ270 => mT w μ270 → mF [76005, 76006, 76007, 76008, 77999, 78999, 79999, 80999, 200005, 200006, 200007, 201999] w μ253 μ270 → ∀ z274 : Int, μ270 76 5 = z274 → ∀ z276 : Int, cnt μ270 77 256 = z276 → WP_X3_readPrefixes_W w μ270 z263 p1 z252 (fun z285 μ281 => mT w μ281 → mF [80999, 84999, 85999] w μ270 μ281 → (0 ≤ z285 ∧ z285 ≤ 1000) → ∀ μ286 : mM, mU μ281 76 (14) z285 μ286 → mT w μ286 → ((z285 ≤ 0) → Q μ286) ∧ ((0 < z285) → ∀ z312 : Int, μ286 76 7 = z312 → (0 ≤ z312 ∧ z312 ≤ 1) → ((z312 = 0) → WP_X3_note_W w μ286 (2) z263 (fun μ332 => mT w μ332 → mF [80999] w μ286 μ332 → Q μ332)) ∧ ((¬ z312 = 0) → ∀ z337 : Int, μ286 76 8 = z337 → (0 ≤ z337 ∧ z337 ≤ 1) → ((¬ z337 = 0) → Q μ286) ∧ ((z337 = 0) → WP_X3_note_W w μ286 (2) z263 (fun μ349 => mT w μ349 → mF [80999] w μ286 μ349 → Q μ349))))))) ∧ ((p1 < z263) → WP_X3_note_W w μ253 (1) z241 (fun μ354 => mT w μ354 → mF [80999] w μ253 μ354 → Q μ354))
def WJ_X3_readParts_W_1 (w : mW) (μ : mM) (p1 : Int) (Q : mM → Prop) (z241 : Int) : Prop := (2 ≤ z241 ∧ z241 ≤ 65537) → ((z241 ≤ p1) → WP_X3_readPrefixes_W w μ (2) z241 (0) (fun z252 μ248 => mT w μ248 → mF [80999, 84999, 85999] w μ μ248 → (0 ≤ z252 ∧ z252 ≤ 1000) → ∀ μ253 : mM, mU μ248 76 (13) z252 μ253 → mT w μ253 → ((p1 < (z241 + 2)) → (WJ_X3_readParts_W_2 w p1 Q z241 z252 μ253) (z241 + 2)) ∧ (((z241 + 2) ≤ p1) → WP_X3_pairAt_W w μ253 z241 (fun z365 _ => (0 ≤ z365 ∧ z365 ≤ 65535) → (WJ_X3_readParts_W_2 w p1 Q z241 z252 μ253) ((z241 + 2) + z365))))) ∧ ((p1 < z241) → WP_X3_note_W w μ (1) (0) (fun μ366 => mT w μ366 → mF [80999] w μ μ366 → Q μ366))
def WP_X3_readParts_W (w : mW) (μ : mM) (p1 : Int) (Q : mM → Prop) : Prop := ∀ f_cc : Int, μ 76 5 = f_cc → (0 ≤ f_cc ∧ f_cc ≤ 256) → ∀ f_wd : Int, μ 76 13 = f_wd → (0 ≤ f_wd ∧ f_wd ≤ 1000) → ∀ f_an : Int, μ 76 14 = f_an → (0 ≤ f_an ∧ f_an ≤ 1000) → ((p1 < 2) → (WJ_X3_readParts_W_1 w μ p1 Q) (2 : Int)) ∧ ((2 ≤ p1) → WP_X3_pairAt_W w μ (0) (fun z377 _ => (0 ≤ z377 ∧ z377 ≤ 65535) → (WJ_X3_readParts_W_1 w μ p1 Q) (2 + z377)))
theorem vc_X3_readParts_W_1 {f_wd : Int} (h0 : f_wd = 0) (h1 : 0 ≤ f_wd ∧ f_wd ≤ 1000) : 0 ≤ f_wd ∧ f_wd ≤ 0 := by omega
theorem vc_X3_readParts_W_3 {p1 z241 : Int} (h0 : z241 ≤ p1) (h1 : 0 ≤ p1 ∧ p1 ≤ 1000) (h2 : 2 ≤ z241 ∧ z241 ≤ 65537) : 2 ≤ z241 ∧ z241 ≤ 1000 := by omega
theorem vc_X3_readParts_W_4 {p1 z241 : Int} (h0 : z241 ≤ p1) (h1 : 0 ≤ p1 ∧ p1 ≤ 1000) (h2 : 2 ≤ z241 ∧ z241 ≤ 1000) : 2 ≤ p1 ∧ p1 ≤ 1000 := by omega
theorem vc_X3_readParts_W_5 {p1 z241 z263 : Int} (h0 : z263 ≤ p1) (h1 : z241 ≤ p1) (h2 : 2 ≤ p1 ∧ p1 ≤ 1000) (h3 : 2 ≤ z241 ∧ z241 ≤ 1000) (h4 : 4 ≤ z263 ∧ z263 ≤ 66535) : 4 ≤ z263 ∧ z263 ≤ 1000 := by omega
theorem vc_X3_readParts_W_6 {p1 z241 z263 : Int} (h0 : z263 ≤ p1) (h1 : z241 ≤ p1) (h2 : 2 ≤ p1 ∧ p1 ≤ 1000) (h3 : 2 ≤ z241 ∧ z241 ≤ 1000) (h4 : 4 ≤ z263 ∧ z263 ≤ 1000) : 4 ≤ p1 ∧ p1 ≤ 1000 := by omega
theorem vc_X3_readParts_W_8 {z252 z285 : Int} (h0 : z285 ≤ 0) (h1 : z285 + z252 ≤ 1000) (h2 : 0 ≤ z252 ∧ z252 ≤ 1000) (h3 : 0 ≤ z285 ∧ z285 ≤ 1000) : 0 ≤ z285 ∧ z285 ≤ 0 := by omega
theorem vc_X3_readParts_W_9 {z252 z285 : Int} (h0 : z252 + (0 : Int) ≤ 1000) (h1 : z285 + z252 ≤ 1000) (h2 : z285 ≤ 0) (h3 : 0 ≤ z252 ∧ z252 ≤ 1000) (h4 : 0 ≤ z285 ∧ z285 ≤ 0) : z252 + z285 ≤ 1000 := by omega
theorem vc_X3_readParts_W_10 {z252 z285 : Int} (h0 : 0 < z285) (h1 : z285 + z252 ≤ 1000) (h2 : 0 ≤ z252 ∧ z252 ≤ 1000) (h3 : 0 ≤ z285 ∧ z285 ≤ 1000) : 1 ≤ z285 ∧ z285 ≤ 1000 := by omega
theorem vc_X3_readParts_W_12 {z252 z285 : Int} (h0 : z252 + (0 : Int) ≤ 1000) (h1 : z285 + z252 ≤ 1000) (h2 : 0 < z285) (h3 : 0 ≤ z252 ∧ z252 ≤ 1000) (h4 : 1 ≤ z285 ∧ z285 ≤ 1000) : z252 + z285 ≤ 1000 := by omega
theorem vc_X3_readParts_W_16 {f_an z252 : Int} (h0 : f_an = 0) (h1 : z252 + (0 : Int) ≤ 1000) (h2 : 0 ≤ f_an ∧ f_an ≤ 0) (h3 : 0 ≤ z252 ∧ z252 ≤ 1000) : z252 + f_an ≤ 1000 := by omega
theorem vc_X3_readParts_W_17 {p1 z241 : Int} (h0 : (z241 + 2) ≤ p1) (h1 : z241 ≤ p1) (h2 : 2 ≤ p1 ∧ p1 ≤ 1000) (h3 : 2 ≤ z241 ∧ z241 ≤ 1000) : 2 ≤ z241 ∧ z241 ≤ 998 := by omega
theorem vc_X3_readParts_W_18 {p1 z241 : Int} (h0 : (z241 + 2) ≤ p1) (h1 : z241 ≤ p1) (h2 : 2 ≤ p1 ∧ p1 ≤ 1000) (h3 : 2 ≤ z241 ∧ z241 ≤ 998) : 4 ≤ p1 ∧ p1 ≤ 1000 := by omega
theorem vc_X3_readParts_W_19 {f_an f_wd : Int} (h0 : f_wd = 0) (h1 : f_an = 0) (h2 : 0 ≤ f_an ∧ f_an ≤ 0) (h3 : 0 ≤ f_wd ∧ f_wd ≤ 0) : f_wd + f_an ≤ 1000 := by omega
theorem vc_X3_readParts_W_20 {p1 : Int} (h0 : p1 < 2) (h1 : 0 ≤ p1 ∧ p1 ≤ 1000) : 0 ≤ p1 ∧ p1 ≤ 1 := by omega
theorem vc_X3_readParts_W_21 {p1 : Int} (h0 : 2 ≤ p1) (h1 : 0 ≤ p1 ∧ p1 ≤ 1000) : 2 ≤ p1 ∧ p1 ≤ 1000 := by omega
set_option maxRecDepth 4000 in
set_option maxHeartbeats 4000000 in
theorem c_X3_readParts_W {l : Launch} {D : va_G} {c : Nat → ClassId} {H0 : Heap} {sa : Nat × Nat × (Nat → Int32)} {w : mW} {μ : mM} (hw : mWF w) (hT : mT w μ) {p1 : Int} (hp1 : 0 ≤ p1 ∧ p1 ≤ 1000) {f_cc : Int} (q_f_cc : μ 76 5 = f_cc) {f_s : Int} (q_f_s : cnt μ 77 256 = f_s) {f_wd : Int} (q_f_wd : μ 76 13 = f_wd) {f_an : Int} (q_f_an : μ 76 14 = f_an) (hq0 : f_cc ≤ f_s) (hq1 : f_wd = 0) (hq2 : f_an = 0) (hIOC : OC μ) {Q : mM → Prop} (hQ : WP_X3_readParts_W w μ p1 Q) : sC (gG l D c H0 sa) mX3_readParts 6 0 0 [.ref 76, iv p1] (mk w μ) (qV w [76005, 76006, 76007, 76008, 76013, 76014, 77999, 78999, 79999, 80999, 84999, 85999, 200005, 200006, 200007, 201999] μ (fun μ1 => ∃ o_wd o_an : Int, μ1 76 13 = o_wd ∧ μ1 76 14 = o_an ∧ (o_wd + o_an ≤ 1000) ∧ Q μ1 ∧ True)) := by
  refine sC.of rfl (by decide) (le_t rfl) ?_
  have ht_f_cc : (0 ≤ f_cc ∧ f_cc ≤ 256) := by rw [← q_f_cc]; exact hT 76 76 (A_76 hw) 5
  have ht_f_s : 0 ≤ f_s ∧ f_s ≤ 256 := by rw [← q_f_s]; exact cnt_rng (fun i => hT 77 77 (A_77 hw) i) 256
  have ht_f_wd : (0 ≤ f_wd ∧ f_wd ≤ 1000) := by rw [← q_f_wd]; exact hT 76 76 (A_76 hw) 13
  have ht_f_an : (0 ≤ f_an ∧ f_an ≤ 1000) := by rw [← q_f_an]; exact hT 76 76 (A_76 hw) 14
  have h1 : 0 ≤ f_wd ∧ f_wd ≤ 0 := (vc_X3_readParts_W_1 hq1 ht_f_wd)
  have h2 : 0 ≤ f_an ∧ f_an ≤ 0 := (vc_X3_readParts_W_1 hq2 ht_f_an)
  refine mr_lvE (lv' := [(0, .ref 76), (1, iv p1)]) rfl ?_
  refine mr_iconst (pc := 0) (z := 2) dX3_readParts_0 ?_
  refine mr_istore_n (pc := 1) (lv' := [(2, iv 2), (0, .ref 76), (1, iv p1)]) dX3_readParts_1 rfl (by decide) rfl ?_
  refine mr_iload_n (pc := 2) (z := p1) dX3_readParts_2 rfl rfl ?_
  refine mr_iconst (pc := 3) (z := 2) dX3_readParts_3 ?_
  have J243 : ∀ (z241 : Int), ((2 ≤ z241 ∧ z241 ≤ 65537)) → ((WJ_X3_readParts_W_1 w μ p1 Q) z241) → sV (gG l D c H0 sa) mX3_readParts (sRm 6 0 0) (sZ (gG l D c H0 sa) 0 0 (qV w [76005, 76006, 76007, 76008, 76013, 76014, 77999, 78999, 79999, 80999, 84999, 85999, 200005, 200006, 200007, 201999] μ (fun μ1 => ∃ o_wd o_an : Int, μ1 76 13 = o_wd ∧ μ1 76 14 = o_an ∧ (o_wd + o_an ≤ 1000) ∧ Q μ1 ∧ True))) 15 [(0, .ref 76), (1, iv p1), (2, iv z241)] [] (mk w μ) 0 0 := by
    intro z241 h242 W244
    refine mr_iload_n (pc := 15) (z := z241) dX3_readParts_15 rfl rfl ?_
    refine mr_iload_n (pc := 16) (z := p1) dX3_readParts_16 rfl rfl ?_
    refine mr_icmp_le (pc := 17) (tgt := 27) dX3_readParts_17 (by decide) (r32 h242 rfl) (r32 hp1 rfl) (fun h245 => ?_) (fun h245 => ?_)
    · have h246 : 2 ≤ z241 ∧ z241 ≤ 1000 := (vc_X3_readParts_W_3 h245 hp1 h242)
      have h247 : 2 ≤ p1 ∧ p1 ≤ 1000 := (vc_X3_readParts_W_4 h245 hp1 h246)
      refine sv_aload_n (pc := 27) dX3_readParts_27 rfl rfl ?_
      refine sv_aload_n (pc := 28) dX3_readParts_28 rfl rfl ?_
      refine mr_iconst (pc := 29) (z := 2) dX3_readParts_29 ?_
      refine mr_iload_n (pc := 30) (z := z241) dX3_readParts_30 rfl rfl ?_
      refine mr_iconst (pc := 31) (z := 0) dX3_readParts_31 ?_
      refine mr_cVI (pc := 32) (c_X3_readPrefixes_W hw hT (rW (c := 0) (d := 1000) (rR (x := 2)) rfl) (rW (c := 0) (d := 1000) h246 rfl) (rW (c := 0) (d := 1000) (rR (x := 0)) rfl) hIOC ((W244 h242).1 h245)) (gOk _ _ _ _ _) dX3_readParts_32 (tX3_readPrefixes _ _ _ _ _) ⟨wV_X3_readPrefixes, wL_X3_readPrefixes⟩ wM_X3_95 (gCX3 _ _ _ _ _) rfl (A_76 hw) rfl ⟨le_t rfl, le_t rfl⟩ ⟨le_t rfl, le_t rfl⟩ rfl (le_t rfl) fun z252 μ248 T249 F250 h251 => ?_
      refine pf_X3_13 (pc := 35) dX3_readParts_35 wF_X3_63 (A_76 hw) T249 h251.1 fun μ253 u254 T255 => ?_
      refine mr_iload_n (pc := 38) (z := z241) dX3_readParts_38 rfl rfl ?_
      refine mr_iconst (pc := 39) (z := 2) dX3_readParts_39 ?_
      refine mr_iadd (pc := 40) (x := z241) (y := 2) dX3_readParts_40 ?_
      refine mr_istore_n (pc := 41) (lv' := [(3, iv (z241 + 2)), (0, .ref 76), (1, iv p1), (2, iv z241)]) dX3_readParts_41 rfl (by decide) rfl ?_
      refine mr_iload_n (pc := 42) (z := (z241 + 2)) dX3_readParts_42 rfl rfl ?_
      refine mr_iload_n (pc := 43) (z := p1) dX3_readParts_43 rfl rfl ?_
      have J265 : ∀ (z263 : Int), ((4 ≤ z263 ∧ z263 ≤ 66535)) → ((WJ_X3_readParts_W_2 w p1 Q z241 z252 μ253) z263) → sV (gG l D c H0 sa) mX3_readParts (sRm 6 0 0) (sZ (gG l D c H0 sa) 0 0 (qV w [76005, 76006, 76007, 76008, 76013, 76014, 77999, 78999, 79999, 80999, 84999, 85999, 200005, 200006, 200007, 201999] μ (fun μ1 => ∃ o_wd o_an : Int, μ1 76 13 = o_wd ∧ μ1 76 14 = o_an ∧ (o_wd + o_an ≤ 1000) ∧ Q μ1 ∧ True))) 55 [(0, .ref 76), (1, iv p1), (2, iv z241), (3, iv z263)] [] (mk w μ253) 0 0 := by
        intro z263 h264 W266
        refine mr_iload_n (pc := 55) (z := z263) dX3_readParts_55 rfl rfl ?_
        refine mr_iload_n (pc := 56) (z := p1) dX3_readParts_56 rfl rfl ?_
        refine mr_icmp_le (pc := 57) (tgt := 67) dX3_readParts_57 (by decide) (r32 h264 rfl) (r32 h247 rfl) (fun h267 => ?_) (fun h267 => ?_)
        · have h268 : 4 ≤ z263 ∧ z263 ≤ 1000 := (vc_X3_readParts_W_5 h267 h245 h247 h246 h264)
          have h269 : 4 ≤ p1 ∧ p1 ≤ 1000 := (vc_X3_readParts_W_6 h267 h245 h247 h246 h268)
          refine sv_aload_n (pc := 67) dX3_readParts_67 rfl rfl ?_
          refine mr_iload_n (pc := 68) (z := z241) dX3_readParts_68 rfl rfl ?_
          refine mr_iconst (pc := 69) (z := 2) dX3_readParts_69 ?_
          refine mr_iadd (pc := 70) (x := z241) (y := 2) dX3_readParts_70 ?_
          refine mr_iload_n (pc := 71) (z := z263) dX3_readParts_71 rfl rfl ?_
          refine mr_cVV (pc := 72) (c_X3_readAttributes_W hw T255 (rW (c := 0) (d := 1002) (rAdd (e := 4) (f := 1002) h246 (rR (x := 2)) rfl) rfl) (rW (c := 0) (d := 1000) h268 rfl) (u254.f (Or.inr (by decide)) (F250.f (A_76 hw) rfl q_f_cc)) (cntO u254 (by decide) (cntF F250 (A_77 hw) rfl rfl q_f_s)) (vc_X3_readAttribute_W_59 hq0 ht_f_cc ht_f_s) (OC.keep hIOC hw ((mF.up (mF.call mF.refl F250 rfl) (A_76 hw) u254 rfl) : mF [76013, 80999, 84999, 85999] w μ μ253) rfl) ((W266 h264).1 h267)) (gOk _ _ _ _ _) dX3_readParts_72 (tX3_readAttributes _ _ _ _ _) ⟨wV_X3_readAttributes, wL_X3_readAttributes⟩ wM_X3_99 (gCX3 _ _ _ _ _) rfl (A_76 hw) rfl ⟨le_t rfl, le_t rfl⟩ ⟨le_t rfl, le_t rfl⟩ rfl (le_t rfl) fun μ270 T271 F272 h273 => ?_
          obtain ⟨z274, z276, q275, q277, h278⟩ := h273
          have h279 : (0 ≤ z274 ∧ z274 ≤ 256) := by rw [← q275]; exact T271 76 76 (A_76 hw) 5
          have h280 : 0 ≤ z276 ∧ z276 ≤ 256 := by rw [← q277]; exact cnt_rng (fun i => T271 77 77 (A_77 hw) i) 256
          refine sv_aload_n (pc := 75) dX3_readParts_75 rfl rfl ?_
          refine sv_aload_n (pc := 76) dX3_readParts_76 rfl rfl ?_
          refine mr_iload_n (pc := 77) (z := z263) dX3_readParts_77 rfl rfl ?_
          refine mr_iload_n (pc := 78) (z := p1) dX3_readParts_78 rfl rfl ?_
          refine sv_aload_n (pc := 79) dX3_readParts_79 rfl rfl ?_
          refine gk_X3_13 (pc := 80) dX3_readParts_80 wF_X3_63 (A_76 hw) (F272.f (A_76 hw) rfl u254.1) ?_
          refine mr_cVI (pc := 83) (c_X3_readPrefixes_W hw T271 (rW (c := 0) (d := 1000) h268 rfl) (rW (c := 0) (d := 1000) h269 rfl) h251.1 (OC.keep hIOC hw ((mF.call (mF.up (mF.call mF.refl F250 rfl) (A_76 hw) u254 rfl) F272 rfl) : mF [76005, 76006, 76007, 76008, 76013, 77999, 78999, 79999, 80999, 84999, 85999, 200005, 200006, 200007, 201999] w μ μ270) rfl) (((h278.2.1 T271 F272) z274 q275) z276 q277)) (gOk _ _ _ _ _) dX3_readParts_83 (tX3_readPrefixes _ _ _ _ _) ⟨wV_X3_readPrefixes, wL_X3_readPrefixes⟩ wM_X3_95 (gCX3 _ _ _ _ _) rfl (A_76 hw) rfl ⟨le_t rfl, le_t rfl⟩ ⟨le_t rfl, le_t rfl⟩ rfl (le_t rfl) fun z285 μ281 T282 F283 h284 => ?_
          refine pf_X3_14 (pc := 86) dX3_readParts_86 wF_X3_66 (A_76 hw) T282 h284.1 fun μ286 u287 T288 => ?_
          refine sv_aload_n (pc := 89) dX3_readParts_89 rfl rfl ?_
          refine gk_X3_14 (pc := 90) dX3_readParts_90 wF_X3_66 (A_76 hw) u287.1 ?_
          refine mr_if_le (pc := 93) (tgt := 116) dX3_readParts_93 (by decide) (r32 h284.1 rfl) (fun h309 => ?_) (fun h309 => ?_)
          · have h310 : 0 ≤ z285 ∧ z285 ≤ 0 := (vc_X3_readParts_W_8 h309 h284.2.1 h251.1 h284.1)
            exact mr_vret dX3_readParts_116 rfl (le_t rfl) (le_t rfl) T288 (mF.up (mF.call (mF.call (mF.up (mF.call mF.refl F250 rfl) (A_76 hw) u254 rfl) F272 rfl) F283 rfl) (A_76 hw) u287 rfl) ⟨z252, z285, (u287.f (Or.inr (by decide)) (F283.f (A_76 hw) rfl (F272.f (A_76 hw) rfl u254.1))), u287.1, (vc_X3_readParts_W_9 h251.2.1 h284.2.1 h309 h251.1 h310), ((((h284.2.2.1 T282 F283) h284.1) μ286 u287 T288).1 h309), trivial⟩
          have h311 : 1 ≤ z285 ∧ z285 ≤ 1000 := (vc_X3_readParts_W_10 h309 h284.2.1 h251.1 h284.1)
          refine sv_aload_n (pc := 96) dX3_readParts_96 rfl rfl ?_
          refine gf_X3_7 (pc := 97) dX3_readParts_97 wF_X3_82 (A_76 hw) T288 fun z312 q313 h314 => ?_
          refine mr_if_eq (pc := 100) (tgt := 110) dX3_readParts_100 (by decide) (r32 h314 rfl) (fun h330 => ?_) (fun h330 => ?_)
          · have h331 : 0 ≤ z312 ∧ z312 ≤ 0 := (vc_X12_ring_22 h330 h314)
            refine sv_aload_n (pc := 110) dX3_readParts_110 rfl rfl ?_
            refine mr_iconst (pc := 111) (z := 2) dX3_readParts_111 ?_
            refine mr_iload_n (pc := 112) (z := z263) dX3_readParts_112 rfl rfl ?_
            refine mr_cVV (pc := 113) (c_X3_note_W hw T288 (rW (c := 0) (d := 3) (rR (x := 2)) rfl) (rW (c := (-2147483648)) (d := 2147483647) h268 rfl) ((((((h284.2.2.1 T282 F283) h284.1) μ286 u287 T288).2 h309) z312 q313 h314).1 h330)) (gOk _ _ _ _ _) dX3_readParts_113 (tX3_note _ _ _ _ _) ⟨wV_X3_note, wL_X3_note⟩ wM_X3_92 (gCX3 _ _ _ _ _) rfl (A_76 hw) rfl ⟨le_t rfl, le_t rfl⟩ ⟨le_t rfl, le_t rfl⟩ rfl (le_t rfl) fun μ332 T333 F334 h335 => ?_
            exact mr_vret dX3_readParts_116 rfl (le_t rfl) (le_t rfl) T333 (mF.call (mF.up (mF.call (mF.call (mF.up (mF.call mF.refl F250 rfl) (A_76 hw) u254 rfl) F272 rfl) F283 rfl) (A_76 hw) u287 rfl) F334 rfl) ⟨z252, z285, (F334.f (A_76 hw) rfl (u287.f (Or.inr (by decide)) (F283.f (A_76 hw) rfl (F272.f (A_76 hw) rfl u254.1)))), (F334.f (A_76 hw) rfl u287.1), (vc_X3_readParts_W_12 h251.2.1 h284.2.1 h309 h251.1 h311), (h335.1 T333 F334), trivial⟩
          have h336 : 1 ≤ z312 ∧ z312 ≤ 1 := (vc_X12_ring_24 h330 h314)
          refine sv_aload_n (pc := 103) dX3_readParts_103 rfl rfl ?_
          refine gf_X3_8 (pc := 104) dX3_readParts_104 wF_X3_85 (A_76 hw) T288 fun z337 q338 h339 => ?_
          refine mr_if_ne (pc := 107) (tgt := 116) dX3_readParts_107 (by decide) (r32 h339 rfl) (fun h346 => ?_) (fun h346 => ?_)
          · have h347 : 1 ≤ z337 ∧ z337 ≤ 1 := (vc_X12_ring_24 h346 h339)
            exact mr_vret dX3_readParts_116 rfl (le_t rfl) (le_t rfl) T288 (mF.up (mF.call (mF.call (mF.up (mF.call mF.refl F250 rfl) (A_76 hw) u254 rfl) F272 rfl) F283 rfl) (A_76 hw) u287 rfl) ⟨z252, z285, (u287.f (Or.inr (by decide)) (F283.f (A_76 hw) rfl (F272.f (A_76 hw) rfl u254.1))), u287.1, (vc_X3_readParts_W_12 h251.2.1 h284.2.1 h309 h251.1 h311), ((((((((h284.2.2.1 T282 F283) h284.1) μ286 u287 T288).2 h309) z312 q313 h314).2 h330) z337 q338 h339).1 h346), trivial⟩
          have h348 : 0 ≤ z337 ∧ z337 ≤ 0 := (vc_X12_ring_22 h346 h339)
          refine sv_aload_n (pc := 110) dX3_readParts_110 rfl rfl ?_
          refine mr_iconst (pc := 111) (z := 2) dX3_readParts_111 ?_
          refine mr_iload_n (pc := 112) (z := z263) dX3_readParts_112 rfl rfl ?_
          have W353 := ((((((((h284.2.2.1 T282 F283) h284.1) μ286 u287 T288).2 h309) z312 q313 h314).2 h330) z337 q338 h339).2 h346)
          refine mr_cVV (pc := 113) (c_X3_note_W hw T288 (rW (c := 0) (d := 3) (rR (x := 2)) rfl) (rW (c := (-2147483648)) (d := 2147483647) h268 rfl) W353) (gOk _ _ _ _ _) dX3_readParts_113 (tX3_note _ _ _ _ _) ⟨wV_X3_note, wL_X3_note⟩ wM_X3_92 (gCX3 _ _ _ _ _) rfl (A_76 hw) rfl ⟨le_t rfl, le_t rfl⟩ ⟨le_t rfl, le_t rfl⟩ rfl (le_t rfl) fun μ349 T350 F351 h352 => ?_
          exact mr_vret dX3_readParts_116 rfl (le_t rfl) (le_t rfl) T350 (mF.call (mF.up (mF.call (mF.call (mF.up (mF.call mF.refl F250 rfl) (A_76 hw) u254 rfl) F272 rfl) F283 rfl) (A_76 hw) u287 rfl) F351 rfl) ⟨z252, z285, (F351.f (A_76 hw) rfl (u287.f (Or.inr (by decide)) (F283.f (A_76 hw) rfl (F272.f (A_76 hw) rfl u254.1)))), (F351.f (A_76 hw) rfl u287.1), (vc_X3_readParts_W_12 h251.2.1 h284.2.1 h309 h251.1 h311), (h352.1 T350 F351), trivial⟩
        refine sv_aload_n (pc := 60) dX3_readParts_60 rfl rfl ?_
        refine mr_iconst (pc := 61) (z := 1) dX3_readParts_61 ?_
        refine mr_iload_n (pc := 62) (z := z241) dX3_readParts_62 rfl rfl ?_
        refine mr_cVV (pc := 63) (c_X3_note_W hw T255 (rW (c := 0) (d := 3) (rR (x := 1)) rfl) (rW (c := (-2147483648)) (d := 2147483647) h246 rfl) ((W266 h264).2 h267)) (gOk _ _ _ _ _) dX3_readParts_63 (tX3_note _ _ _ _ _) ⟨wV_X3_note, wL_X3_note⟩ wM_X3_92 (gCX3 _ _ _ _ _) rfl (A_76 hw) rfl ⟨le_t rfl, le_t rfl⟩ ⟨le_t rfl, le_t rfl⟩ rfl (le_t rfl) fun μ354 T355 F356 h357 => ?_
        exact mr_vret dX3_readParts_66 rfl (le_t rfl) (le_t rfl) T355 (mF.call (mF.up (mF.call mF.refl F250 rfl) (A_76 hw) u254 rfl) F356 rfl) ⟨z252, f_an, (F356.f (A_76 hw) rfl u254.1), (F356.f (A_76 hw) rfl (u254.f (Or.inr (by decide)) (F250.f (A_76 hw) rfl q_f_an))), (vc_X3_readParts_W_16 hq2 h251.2.1 h2 h251.1), (h357.1 T355 F356), trivial⟩
      refine mr_icmp_gt (pc := 44) (tgt := 55) dX3_readParts_44 (by decide) (r32 (rAdd (e := 4) (f := 1002) h246 (rR (x := 2)) rfl) rfl) (r32 h247 rfl) (fun h358 => ?_) (fun h358 => ?_)
      · refine mr_lvS (lv' := [(0, .ref 76), (1, iv p1), (2, iv z241), (3, iv (z241 + 2))]) (List.forall_mem_cons.mpr ⟨rfl, List.forall_mem_cons.mpr ⟨rfl, List.forall_mem_cons.mpr ⟨rfl, List.forall_mem_cons.mpr ⟨rfl, fun _ h => absurd h List.not_mem_nil⟩⟩⟩⟩) ?_
        exact J265 (z241 + 2) (rW (c := 4) (d := 66535) (rAdd (e := 4) (f := 1002) h246 (rR (x := 2)) rfl) rfl) ((((h251.2.2.1 T249 F250) h251.1) μ253 u254 T255).1 h358)
      have h359 : 2 ≤ z241 ∧ z241 ≤ 998 := (vc_X3_readParts_W_17 h358 h245 h247 h246)
      have h360 : 4 ≤ p1 ∧ p1 ≤ 1000 := (vc_X3_readParts_W_18 h358 h245 h247 h359)
      refine mr_iload_n (pc := 47) (z := (z241 + 2)) dX3_readParts_47 rfl rfl ?_
      refine sv_aload_n (pc := 48) dX3_readParts_48 rfl rfl ?_
      refine mr_iload_n (pc := 49) (z := z241) dX3_readParts_49 rfl rfl ?_
      refine mr_cVP (pc := 50) (c_X3_pairAt_W hw T255 (rW (c := 0) (d := 998) h359 rfl) (OC.keep hIOC hw ((mF.up (mF.call mF.refl F250 rfl) (A_76 hw) u254 rfl) : mF [76013, 80999, 84999, 85999] w μ μ253) rfl) ((((h251.2.2.1 T249 F250) h251.1) μ253 u254 T255).2 h358)) (gOk _ _ _ _ _) dX3_readParts_50 (tX3_pairAt _ _ _ _ _) ⟨wV_X3_pairAt, wL_X3_pairAt⟩ wM_X3_88 (gCX3 _ _ _ _ _) rfl (A_76 hw) rfl ⟨le_t rfl, le_t rfl⟩ ⟨le_t rfl, le_t rfl⟩ rfl (le_t rfl) fun z365 h364 => ?_
      refine mr_iadd (pc := 53) (x := (z241 + 2)) (y := z365) dX3_readParts_53 ?_
      refine mr_istore_n (pc := 54) (lv' := [(3, iv ((z241 + 2) + z365)), (0, .ref 76), (1, iv p1), (2, iv z241)]) dX3_readParts_54 rfl (by decide) rfl ?_
      refine mr_lvS (lv' := [(0, .ref 76), (1, iv p1), (2, iv z241), (3, iv ((z241 + 2) + z365))]) (List.forall_mem_cons.mpr ⟨rfl, List.forall_mem_cons.mpr ⟨rfl, List.forall_mem_cons.mpr ⟨rfl, List.forall_mem_cons.mpr ⟨rfl, fun _ h => absurd h List.not_mem_nil⟩⟩⟩⟩) ?_
      exact J265 ((z241 + 2) + z365) (rAdd (e := 4) (f := 66535) (rAdd (e := 4) (f := 1000) h359 (rR (x := 2)) rfl) h364.1 rfl) (h364.2.1 h364.1)
    refine sv_aload_n (pc := 20) dX3_readParts_20 rfl rfl ?_
    refine mr_iconst (pc := 21) (z := 1) dX3_readParts_21 ?_
    refine mr_iconst (pc := 22) (z := 0) dX3_readParts_22 ?_
    refine mr_cVV (pc := 23) (c_X3_note_W hw hT (rW (c := 0) (d := 3) (rR (x := 1)) rfl) (rW (c := (-2147483648)) (d := 2147483647) (rR (x := 0)) rfl) ((W244 h242).2 h245)) (gOk _ _ _ _ _) dX3_readParts_23 (tX3_note _ _ _ _ _) ⟨wV_X3_note, wL_X3_note⟩ wM_X3_92 (gCX3 _ _ _ _ _) rfl (A_76 hw) rfl ⟨le_t rfl, le_t rfl⟩ ⟨le_t rfl, le_t rfl⟩ rfl (le_t rfl) fun μ366 T367 F368 h369 => ?_
    exact mr_vret dX3_readParts_26 rfl (le_t rfl) (le_t rfl) T367 (mF.call mF.refl F368 rfl) ⟨f_wd, f_an, (F368.f (A_76 hw) rfl q_f_wd), (F368.f (A_76 hw) rfl q_f_an), (vc_X3_readParts_W_19 hq1 hq2 h2 h1), (h369.1 T367 F368), trivial⟩
  refine mr_icmp_lt (pc := 4) (tgt := 15) dX3_readParts_4 (by decide) (r32 hp1 rfl) (r32 (rR (x := 2)) rfl) (fun h370 => ?_) (fun h370 => ?_)
  · have h371 : 0 ≤ p1 ∧ p1 ≤ 1 := (vc_X3_readParts_W_20 h370 hp1)
    refine mr_lvS (lv' := [(0, .ref 76), (1, iv p1), (2, iv 2)]) (List.forall_mem_cons.mpr ⟨rfl, List.forall_mem_cons.mpr ⟨rfl, List.forall_mem_cons.mpr ⟨rfl, fun _ h => absurd h List.not_mem_nil⟩⟩⟩) ?_
    exact J243 2 (rW (c := 2) (d := 65537) (rR (x := 2)) rfl) ((((hQ f_cc q_f_cc ht_f_cc) f_wd q_f_wd ht_f_wd) f_an q_f_an ht_f_an).1 h370)
  have h372 : 2 ≤ p1 ∧ p1 ≤ 1000 := (vc_X3_readParts_W_21 h370 hp1)
  refine mr_iload_n (pc := 7) (z := 2) dX3_readParts_7 rfl rfl ?_
  refine sv_aload_n (pc := 8) dX3_readParts_8 rfl rfl ?_
  refine mr_iconst (pc := 9) (z := 0) dX3_readParts_9 ?_
  refine mr_cVP (pc := 10) (c_X3_pairAt_W hw hT (rW (c := 0) (d := 998) (rR (x := 0)) rfl) hIOC ((((hQ f_cc q_f_cc ht_f_cc) f_wd q_f_wd ht_f_wd) f_an q_f_an ht_f_an).2 h370)) (gOk _ _ _ _ _) dX3_readParts_10 (tX3_pairAt _ _ _ _ _) ⟨wV_X3_pairAt, wL_X3_pairAt⟩ wM_X3_88 (gCX3 _ _ _ _ _) rfl (A_76 hw) rfl ⟨le_t rfl, le_t rfl⟩ ⟨le_t rfl, le_t rfl⟩ rfl (le_t rfl) fun z377 h376 => ?_
  refine mr_iadd (pc := 13) (x := 2) (y := z377) dX3_readParts_13 ?_
  refine mr_istore_n (pc := 14) (lv' := [(2, iv (2 + z377)), (0, .ref 76), (1, iv p1)]) dX3_readParts_14 rfl (by decide) rfl ?_
  refine mr_lvS (lv' := [(0, .ref 76), (1, iv p1), (2, iv (2 + z377))]) (List.forall_mem_cons.mpr ⟨rfl, List.forall_mem_cons.mpr ⟨rfl, List.forall_mem_cons.mpr ⟨rfl, fun _ h => absurd h List.not_mem_nil⟩⟩⟩) ?_
  exact J243 (2 + z377) (rAdd (e := 2) (f := 65537) (rR (x := 2)) h376.1 rfl) (h376.2.1 h376.1)
def WL_X3_read_W_1 (w : mW) (Q : Int → mM → Prop) (z31 : Int) (z33 : Int) (μ46 : mM) (rec1 : (Int × mM) → Prop) (s : (Int × mM)) : Prop := ∀ z245 : Int, ∀ μ246 : mM, s = (z245, μ246) → (0 ≤ z245 ∧ z245 ≤ 8) → mT w μ246 → mF [200008, 202999] w μ46 μ246 → ∀ z256 : Int, μ246 76 6 = z256 → (0 ≤ z256 ∧ z256 ≤ 8) → ((z256 ≤ z245) → ∀ z269 : Int, μ246 80 ((2 : Int).toNat) = z269 → ((-2147483648) ≤ z269 ∧ z269 ≤ 2147483647) → ((z269 = (-99999999)) → ∀ z274 : Int, μ246 80 ((3 : Int).toNat) = z274 → ((-2147483648) ≤ z274 ∧ z274 ≤ 2147483647) → ((z274 = (-99999999)) → Q (0 : Int) μ246) ∧ ((¬ z274 = (-99999999)) → Q (3 : Int) μ246)) ∧ ((¬ z269 = (-99999999)) → ∀ μ280 : mM, mU μ246 76 (13) (z31 + z33) μ280 → mT w μ280 → ∀ μ283 : mM, mU μ280 76 (14) (0 : Int) μ283 → mT w μ283 → Q (2 : Int) μ283)) ∧ ((z245 < z256) → ∀ z288 : Int, μ246 79 (z245.toNat) = z288 → ((-2147483648) ≤ z288 ∧ z288 ≤ 2147483647) → WP_X7_addMark_W w μ246 81 z288 (fun μ291 => mT w μ291 → mF [200008, 202999] w μ246 μ291 → rec1 ((z245 + 1), μ291)))
def WP_X3_read_W (w : mW) (μ : mM) (p2 : Int) (Q : Int → mM → Prop) : Prop := ∀ μ1 : mM, mU μ 76 (4) ((1 : Nat) : Int) μ1 → mT w μ1 → WP_X3_forget_Wz w μ1  (fun μ4 => mT w μ4 → mF [76005, 76006, 76007, 76008, 76013, 76014, 76016, 77999, 80999, 200002, 200003, 200004, 200005, 200006, 200007, 200008] w μ1 μ4 → ∀ z8 : Int, μ4 76 5 = z8 → ∀ z10 : Int, μ4 76 13 = z10 → ∀ z12 : Int, μ4 76 14 = z12 → WP_X3_readParts_W w μ4 p2 (fun μ27 => mT w μ27 → mF [76005, 76006, 76007, 76008, 76013, 76014, 77999, 78999, 79999, 80999, 84999, 85999, 200005, 200006, 200007, 201999] w μ4 μ27 → ∀ z31 : Int, μ27 76 13 = z31 → ∀ z33 : Int, μ27 76 14 = z33 → ∀ z38 : Int, μ27 80 ((1 : Int).toNat) = z38 → ((-2147483648) ≤ z38 ∧ z38 ≤ 2147483647) → ((z38 = (-99999999)) → ∀ μ43 : mM, mU μ27 76 (16) (1 : Int) μ43 → mT w μ43 → ∀ μ46 : mM, mU μ43 81 (8) (0 : Int) μ46 → mT w μ46 → loopF (WL_X3_read_W_1 w Q z31 z33 μ46) False 10 ((0 : Int), μ46)) ∧ ((¬ z38 = (-99999999)) → Q (1 : Int) μ27)))
theorem vc_X3_read_W_1 {z8 : Int} (h0 : z8 = 0) (h1 : 0 ≤ z8 ∧ z8 ≤ 256) : 0 ≤ z8 ∧ z8 ≤ 0 := by omega
theorem vc_X3_read_W_4 {z24 : Int} (h0 : 0 ≤ z24 ∧ z24 ≤ 256) : (0 : Int) ≤ z24 := by omega
theorem vc_X3_read_W_11 {z31 z33 : Int} (h0 : z31 + z33 ≤ 1000) (h1 : 0 ≤ z31 ∧ z31 ≤ 1000) (h2 : 0 ≤ z33 ∧ z33 ≤ 1000) : 0 ≤ (z31 + z33) ∧ (z31 + z33) ≤ 1000 := by omega
theorem vc_X3_read_W_12 {z31 z33 : Int} (h0 : z31 + z33 ≤ 1000) (h1 : 0 ≤ z31 ∧ z31 ≤ 1000) (h2 : 0 ≤ z33 ∧ z33 ≤ 1000) : (z31 + z33) + (0 : Int) ≤ 1000 := by omega
set_option maxRecDepth 4000 in
set_option maxHeartbeats 4000000 in
theorem c_X3_read_W {l : Launch} {D : va_G} {c : Nat → ClassId} {H0 : Heap} {sa : Nat × Nat × (Nat → Int32)} {w : mW} {μ : mM} (hw : mWF w) (hT : mT w μ) (hA1 : mAt w 1 1) {p2 : Int} (hp2 : 0 ≤ p2 ∧ p2 ≤ 1000) {Q : Int → mM → Prop} (hQ : WP_X3_read_W w μ p2 Q) : sC (gG l D c H0 sa) mX3_read 7 0 0 [.ref 76, .ref 1, iv p2] (mk w μ) (qI w [76004, 76005, 76006, 76007, 76008, 76013, 76014, 76016, 77999, 78999, 79999, 80999, 84999, 85999, 200002, 200003, 200004, 200005, 200006, 200007, 200008, 201999, 202999] μ (fun z μ1 => ∃ o_wd o_an : Int, μ1 76 13 = o_wd ∧ μ1 76 14 = o_an ∧ ((-2147483648) ≤ z ∧ z ≤ 2147483647) ∧ (o_wd + o_an ≤ 1000) ∧ Q z μ1 ∧ True)) := by
  refine sC.of rfl (by decide) (le_t rfl) ?_
  refine mr_lvE (lv' := [(0, .ref 76), (1, .ref 1), (2, iv p2)]) rfl ?_
  refine sv_aload_n (pc := 0) dX3_read_0 rfl rfl ?_
  refine sv_aload_n (pc := 1) dX3_read_1 rfl rfl ?_
  refine pf_X3_4 (pc := 2) dX3_read_2 wF_X3_41 (A_76 hw) hT (A_1 hw) fun μ1 u2 T3 => ?_
  refine sv_aload_n (pc := 5) dX3_read_5 rfl rfl ?_
  refine mr_cVV (pc := 6) (c_X3_forget_Wz hw T3 (hQ μ1 u2 T3)) (gOk _ _ _ _ _) dX3_read_6 (tX3_forget _ _ _ _ _) ⟨wV_X3_forget, wL_X3_forget⟩ wM_X3_44 (gCX3 _ _ _ _ _) rfl (A_76 hw) rfl ⟨le_t rfl, le_t rfl⟩ ⟨le_t rfl, le_t rfl⟩ rfl (le_t rfl) fun μ4 T5 F6 h7 => ?_
  obtain ⟨z8, z10, z12, q9, q11, q13, h14⟩ := h7
  have h15 : (0 ≤ z8 ∧ z8 ≤ 256) := by rw [← q9]; exact T5 76 76 (A_76 hw) 5
  have h16 : (0 ≤ z10 ∧ z10 ≤ 1000) := by rw [← q11]; exact T5 76 76 (A_76 hw) 13
  have h17 : (0 ≤ z12 ∧ z12 ≤ 1000) := by rw [← q13]; exact T5 76 76 (A_76 hw) 14
  have q18 : μ4 76 5 = 0 := q9.trans h14.1
  have h19 : 0 ≤ z8 ∧ z8 ≤ 0 := (vc_X3_read_W_1 h14.1 h15)
  have q20 : μ4 76 13 = 0 := q11.trans h14.2.1
  have h21 : 0 ≤ z10 ∧ z10 ≤ 0 := (vc_X3_readParts_W_1 h14.2.1 h16)
  have q22 : μ4 76 14 = 0 := q13.trans h14.2.2.1
  have h23 : 0 ≤ z12 ∧ z12 ≤ 0 := (vc_X3_readParts_W_1 h14.2.2.1 h17)
  refine sv_aload_n (pc := 9) dX3_read_9 rfl rfl ?_
  refine mr_iload_n (pc := 10) (z := p2) dX3_read_10 rfl rfl ?_
  obtain ⟨z24, q25⟩ : ∃ z, cnt μ4 77 256 = z := ⟨_, rfl⟩
  have h26 : 0 ≤ z24 ∧ z24 ≤ 256 := by rw [← q25]; exact cnt_rng (fun i => T5 77 77 (A_77 hw) i) 256
  refine mr_cVV (pc := 11) (c_X3_readParts_W hw T5 hp2 q18 q25 q20 q22 (vc_X3_read_W_4 h26) vc_X12_next_v_403 vc_X12_next_v_403 (OC.keep (by show 0 ≤ μ1 76 4; rw [u2.1]; exact Int.natCast_nonneg _) hw ((mF.call mF.refl F6 rfl) : mF [76005, 76006, 76007, 76008, 76013, 76014, 76016, 77999, 80999, 200002, 200003, 200004, 200005, 200006, 200007, 200008] w μ1 μ4) rfl) ((((h14.2.2.2.1 T5 F6) z8 q9) z10 q11) z12 q13)) (gOk _ _ _ _ _) dX3_read_11 (tX3_readParts _ _ _ _ _) ⟨wV_X3_readParts, wL_X3_readParts⟩ wM_X3_47 (gCX3 _ _ _ _ _) rfl (A_76 hw) rfl ⟨le_t rfl, le_t rfl⟩ ⟨le_t rfl, le_t rfl⟩ rfl (le_t rfl) fun μ27 T28 F29 h30 => ?_
  obtain ⟨z31, z33, q32, q34, h35⟩ := h30
  have h36 : (0 ≤ z31 ∧ z31 ≤ 1000) := by rw [← q32]; exact T28 76 76 (A_76 hw) 13
  have h37 : (0 ≤ z33 ∧ z33 ≤ 1000) := by rw [← q34]; exact T28 76 76 (A_76 hw) 14
  refine sv_aload_n (pc := 14) dX3_read_14 rfl rfl ?_
  refine gf_X3_3 (pc := 15) dX3_read_15 wF_X3_22 (A_76 hw) T28 ?_
  refine mr_iconst (pc := 18) (z := 1) dX3_read_18 ?_
  refine la_80 (pc := 19) dX3_read_19 (A_80 hw) T28 (rIx (n := 4) (rR (x := 1)) rfl) fun z38 q39 h40 => ?_
  refine mr_ldc (pc := 20) (z := (-99999999)) dX3_read_20 wG_X3_21 (by decide) ?_
  refine mr_icmp_eq (pc := 22) (tgt := 27) dX3_read_22 (by decide) h40 (r32 (rR (x := (-99999999))) rfl) (fun h41 => ?_) (fun h41 => ?_)
  · have h42 : (-99999999) ≤ z38 ∧ z38 ≤ (-99999999) := (vc_X12_judgedAnew_21 h41 h40)
    refine sv_aload_n (pc := 27) dX3_read_27 rfl rfl ?_
    refine mr_iconst (pc := 28) (z := 1) dX3_read_28 ?_
    refine pf_X3_16 (pc := 29) dX3_read_29 wF_X3_51 (A_76 hw) T28 (rW (c := 0) (d := 1) (rR (x := 1)) rfl) fun μ43 u44 T45 => ?_
    refine sv_aload_n (pc := 32) dX3_read_32 rfl rfl ?_
    refine gf_X3_9 (pc := 33) dX3_read_33 wF_X3_28 (A_76 hw) T45 ?_
    refine mr_iconst (pc := 36) (z := 0) dX3_read_36 ?_
    refine pf_X7_8 (pc := 37) dX3_read_37 wF_X3_55 (A_81 hw) T45 (rW (c := 0) (d := 8) (rR (x := 0)) rfl) fun μ46 u47 T48 => ?_
    refine mr_iconst (pc := 40) (z := 0) dX3_read_40 ?_
    refine mr_istore_n (pc := 41) (lv' := [(3, iv 0), (0, .ref 76), (1, .ref 1), (2, iv p2)]) dX3_read_41 rfl (by decide) rfl ?_
    have L247 : ∀ (nL247 : Nat) (z245 : Int) (μ246 : mM), mT w μ246 → mF [200008, 202999] w μ46 μ246 → (0 ≤ z245 ∧ z245 ≤ 8) → OC μ246 → (9 - z245) < (nL247 : Int) → loopF (WL_X3_read_W_1 w Q z31 z33 μ46) False nL247 (z245, μ246) → sV (gG l D c H0 sa) mX3_read (sRm 7 0 0) (sZ (gG l D c H0 sa) 0 0 (qI w [76004, 76005, 76006, 76007, 76008, 76013, 76014, 76016, 77999, 78999, 79999, 80999, 84999, 85999, 200002, 200003, 200004, 200005, 200006, 200007, 200008, 201999, 202999] μ (fun z μ1 => ∃ o_wd o_an : Int, μ1 76 13 = o_wd ∧ μ1 76 14 = o_an ∧ ((-2147483648) ≤ z ∧ z ≤ 2147483647) ∧ (o_wd + o_an ≤ 1000) ∧ Q z μ1 ∧ True))) 42 [(0, .ref 76), (3, iv z245)] [] (mk w μ246) 0 0 := by
      intro nL247
      induction nL247 with
      | zero => intro z245 μ246 T249 F250 h248 I252 h253 W254; exact ((vc_X12_marked_1 h253 h248)).elim
      | succ nL247 ih255 =>
        intro z245 μ246 T249 F250 h248 I252 h253 W254
        refine mr_iload_n (pc := 42) (z := z245) dX3_read_42 rfl rfl ?_
        refine sv_aload_n (pc := 43) dX3_read_43 rfl rfl ?_
        refine gf_X3_6 (pc := 44) dX3_read_44 wF_X3_59 (A_76 hw) T249 fun z256 q257 h258 => ?_
        refine mr_icmp_ge (pc := 47) (tgt := 69) dX3_read_47 (by decide) (r32 h248 rfl) (r32 h258 rfl) (fun h268 => ?_) (fun h268 => ?_)
        · refine sv_aload_n (pc := 69) dX3_read_69 rfl rfl ?_
          refine gf_X3_3 (pc := 70) dX3_read_70 wF_X3_22 (A_76 hw) T249 ?_
          refine mr_iconst (pc := 73) (z := 2) dX3_read_73 ?_
          refine la_80 (pc := 74) dX3_read_74 (A_80 hw) T249 (rIx (n := 4) (rR (x := 2)) rfl) fun z269 q270 h271 => ?_
          refine mr_ldc (pc := 75) (z := (-99999999)) dX3_read_75 wG_X3_21 (by decide) ?_
          refine mr_icmp_eq (pc := 77) (tgt := 100) dX3_read_77 (by decide) h271 (r32 (rR (x := (-99999999))) rfl) (fun h272 => ?_) (fun h272 => ?_)
          · have h273 : (-99999999) ≤ z269 ∧ z269 ≤ (-99999999) := (vc_X12_judgedAnew_21 h272 h271)
            refine sv_aload_n (pc := 100) dX3_read_100 rfl rfl ?_
            refine gf_X3_3 (pc := 101) dX3_read_101 wF_X3_22 (A_76 hw) T249 ?_
            refine mr_iconst (pc := 104) (z := 3) dX3_read_104 ?_
            refine la_80 (pc := 105) dX3_read_105 (A_80 hw) T249 (rIx (n := 4) (rR (x := 3)) rfl) fun z274 q275 h276 => ?_
            refine mr_ldc (pc := 106) (z := (-99999999)) dX3_read_106 wG_X3_21 (by decide) ?_
            refine mr_icmp_eq (pc := 108) (tgt := 115) dX3_read_108 (by decide) h276 (r32 (rR (x := (-99999999))) rfl) (fun h278 => ?_) (fun h278 => ?_)
            · have h279 : (-99999999) ≤ z274 ∧ z274 ≤ (-99999999) := (vc_X12_judgedAnew_21 h278 h276)
              refine mr_iconst (pc := 115) (z := 0) dX3_read_115 ?_
              exact mr_iret dX3_read_116 rfl (le_t rfl) (le_t rfl) T249 (mF.call (mF.up (mF.up (mF.call (mF.call (mF.up mF.refl (A_76 hw) u2 rfl) F6 rfl) F29 rfl) (A_76 hw) u44 rfl) (A_81 hw) u47 rfl) F250 rfl) ⟨z31, z33, (F250.f (A_76 hw) rfl (u47.f (Or.inl (mAt.ne (A_81 hw) (A_76 hw) rfl)) (u44.f (Or.inr (by decide)) q32))), (F250.f (A_76 hw) rfl (u47.f (Or.inl (mAt.ne (A_81 hw) (A_76 hw) rfl)) (u44.f (Or.inr (by decide)) q34))), (rW (c := (-2147483648)) (d := 2147483647) (rR (x := 0)) rfl), (vc_X3_readAttribute_W_7 h35.1 h36 h37), (((((((W254 z245 μ246 rfl h248 T249 F250) z256 q257 h258).1 h268) z269 q270 h271).1 h272) z274 q275 h276).1 h278), trivial⟩
            refine mr_iconst (pc := 111) (z := 3) dX3_read_111 ?_
            refine sv_goto (pc := 112) (tgt := 116) dX3_read_112 (by decide) ?_
            exact mr_iret dX3_read_116 rfl (le_t rfl) (le_t rfl) T249 (mF.call (mF.up (mF.up (mF.call (mF.call (mF.up mF.refl (A_76 hw) u2 rfl) F6 rfl) F29 rfl) (A_76 hw) u44 rfl) (A_81 hw) u47 rfl) F250 rfl) ⟨z31, z33, (F250.f (A_76 hw) rfl (u47.f (Or.inl (mAt.ne (A_81 hw) (A_76 hw) rfl)) (u44.f (Or.inr (by decide)) q32))), (F250.f (A_76 hw) rfl (u47.f (Or.inl (mAt.ne (A_81 hw) (A_76 hw) rfl)) (u44.f (Or.inr (by decide)) q34))), (rW (c := (-2147483648)) (d := 2147483647) (rR (x := 3)) rfl), (vc_X3_readAttribute_W_7 h35.1 h36 h37), (((((((W254 z245 μ246 rfl h248 T249 F250) z256 q257 h258).1 h268) z269 q270 h271).1 h272) z274 q275 h276).2 h278), trivial⟩
          refine sv_aload_n (pc := 80) dX3_read_80 rfl rfl ?_
          refine sv_dup (pc := 81) dX3_read_81 rfl ?_
          refine gk_X3_13 (pc := 82) dX3_read_82 wF_X3_63 (A_76 hw) (F250.f (A_76 hw) rfl (u47.f (Or.inl (mAt.ne (A_81 hw) (A_76 hw) rfl)) (u44.f (Or.inr (by decide)) q32))) ?_
          refine sv_aload_n (pc := 85) dX3_read_85 rfl rfl ?_
          refine gk_X3_14 (pc := 86) dX3_read_86 wF_X3_66 (A_76 hw) (F250.f (A_76 hw) rfl (u47.f (Or.inl (mAt.ne (A_81 hw) (A_76 hw) rfl)) (u44.f (Or.inr (by decide)) q34))) ?_
          refine mr_iadd (pc := 89) (x := z31) (y := z33) dX3_read_89 ?_
          refine pf_X3_13 (pc := 90) dX3_read_90 wF_X3_63 (A_76 hw) T249 (vc_X3_read_W_11 h35.1 h36 h37) fun μ280 u281 T282 => ?_
          refine sv_aload_n (pc := 93) dX3_read_93 rfl rfl ?_
          refine mr_iconst (pc := 94) (z := 0) dX3_read_94 ?_
          refine pf_X3_14 (pc := 95) dX3_read_95 wF_X3_66 (A_76 hw) T282 (rW (c := 0) (d := 1000) (rR (x := 0)) rfl) fun μ283 u284 T285 => ?_
          refine mr_iconst (pc := 98) (z := 2) dX3_read_98 ?_
          exact mr_iret dX3_read_99 rfl (le_t rfl) (le_t rfl) T285 (mF.up (mF.up (mF.call (mF.up (mF.up (mF.call (mF.call (mF.up mF.refl (A_76 hw) u2 rfl) F6 rfl) F29 rfl) (A_76 hw) u44 rfl) (A_81 hw) u47 rfl) F250 rfl) (A_76 hw) u281 rfl) (A_76 hw) u284 rfl) ⟨(z31 + z33), 0, (u284.f (Or.inr (by decide)) u281.1), u284.1, (rW (c := (-2147483648)) (d := 2147483647) (rR (x := 2)) rfl), (vc_X3_read_W_12 h35.1 h36 h37), (((((((W254 z245 μ246 rfl h248 T249 F250) z256 q257 h258).1 h268) z269 q270 h271).2 h272) μ280 u281 T282) μ283 u284 T285), trivial⟩
        have h286 : 0 ≤ z245 ∧ z245 ≤ 7 := (vc_X12_marked_3 h268 h248 h258)
        have h287 : 1 ≤ z256 ∧ z256 ≤ 8 := (vc_X12_marked_4 h268 h286 h258)
        refine sv_aload_n (pc := 50) dX3_read_50 rfl rfl ?_
        refine gf_X3_9 (pc := 51) dX3_read_51 wF_X3_28 (A_76 hw) T249 ?_
        refine sv_aload_n (pc := 54) dX3_read_54 rfl rfl ?_
        refine gf_X3_2 (pc := 55) dX3_read_55 wF_X3_18 (A_76 hw) T249 ?_
        refine mr_iload_n (pc := 58) (z := z245) dX3_read_58 rfl rfl ?_
        refine la_79 (pc := 59) dX3_read_59 (A_79 hw) T249 (rIx (n := 8) h286 rfl) fun z288 q289 h290 => ?_
        refine mr_cVV (pc := 60) (c_X7_addMark_W hw T249 (A_81 hw) h290 ((((W254 z245 μ246 rfl h248 T249 F250) z256 q257 h258).2 h268) z288 q289 h290)) (gOk _ _ _ _ _) dX3_read_60 (tX7_addMark _ _ _ _ _) ⟨wV_X7_addMark, wL_X7_addMark⟩ wM_X3_60 (gCX7 _ _ _ _ _) rfl (A_81 hw) rfl ⟨le_t rfl, le_t rfl⟩ ⟨le_t rfl, le_t rfl⟩ rfl (le_t rfl) fun μ291 T292 F293 h294 => ?_
        refine mr_iinc (pc := 63) (lv' := [(3, iv (z245 + 1)), (0, .ref 76)]) dX3_read_63 rfl (by decide) rfl ?_
        refine sv_goto (pc := 66) (tgt := 42) dX3_read_66 (by decide) ?_
        refine mr_lvS (lv' := [(0, .ref 76), (3, iv (z245 + 1))]) (List.forall_mem_cons.mpr ⟨rfl, List.forall_mem_cons.mpr ⟨rfl, fun _ h => absurd h List.not_mem_nil⟩⟩) ?_
        exact ih255 (z245 + 1) μ291 T292 (mF.call (mF.call mF.refl F250 rfl) F293 rfl) (rW (c := 0) (d := 8) (rAdd (e := 1) (f := 8) h286 (rR (x := 1)) rfl) rfl) (OC.keep I252 hw ((mF.call mF.refl F293 rfl) : mF [200008, 202999] w μ246 μ291) rfl) (vc_X12_marked_6 (nS h253) h268 h286 h287) (h294.1 T292 F293)
    refine mr_lvS (lv' := [(0, .ref 76), (3, iv 0)]) (List.forall_mem_cons.mpr ⟨rfl, List.forall_mem_cons.mpr ⟨rfl, fun _ h => absurd h List.not_mem_nil⟩⟩) ?_
    exact L247 10 0 μ46 T48 mF.refl (rW (c := 0) (d := 8) (rR (x := 0)) rfl) (OC.keep (by show 0 ≤ μ1 76 4; rw [u2.1]; exact Int.natCast_nonneg _) hw ((mF.up (mF.up (mF.call (mF.call mF.refl F6 rfl) F29 rfl) (A_76 hw) u44 rfl) (A_81 hw) u47 rfl) : mF [76005, 76006, 76007, 76008, 76013, 76014, 76016, 77999, 78999, 79999, 80999, 84999, 85999, 200002, 200003, 200004, 200005, 200006, 200007, 200008, 201999] w μ1 μ46) rfl) vc_X12_marked_10 (((((((h35.2.1 T28 F29) z31 q32) z33 q34) z38 q39 h40).1 h41) μ43 u44 T45) μ46 u47 T48)
  refine mr_iconst (pc := 25) (z := 1) dX3_read_25 ?_
  exact mr_iret dX3_read_26 rfl (le_t rfl) (le_t rfl) T28 (mF.call (mF.call (mF.up mF.refl (A_76 hw) u2 rfl) F6 rfl) F29 rfl) ⟨z31, z33, q32, q34, (rW (c := (-2147483648)) (d := 2147483647) (rR (x := 1)) rfl), (vc_X3_readAttribute_W_7 h35.1 h36 h37), (((((h35.2.1 T28 F29) z31 q32) z33 q34) z38 q39 h40).2 h41), trivial⟩
def WP_X11_message_W (w : mW) (μ : mM) (Q : Int → mM → Prop) : Prop := ∀ z1 : Int, μ 0 10 = z1 → (0 ≤ z1 ∧ z1 ≤ 1000) → WP_X3_read_W w μ z1 (fun z8 μ4 => mT w μ4 → mF [76004, 76005, 76006, 76007, 76008, 76013, 76014, 76016, 77999, 78999, 79999, 80999, 84999, 85999, 200002, 200003, 200004, 200005, 200006, 200007, 200008, 201999, 202999] w μ μ4 → ((-2147483648) ≤ z8 ∧ z8 ≤ 2147483647) → ∀ z9 : Int, μ4 76 13 = z9 → ∀ z11 : Int, μ4 76 14 = z11 → ∀ μ16 : mM, mU μ4 0 (10) (0 : Int) μ16 → mT w μ16 → Q z8 μ16)
set_option maxRecDepth 4000 in
set_option maxHeartbeats 4000000 in
theorem c_X11_message_W {l : Launch} {D : va_G} {c : Nat → ClassId} {H0 : Heap} {sa : Nat × Nat × (Nat → Int32)} {w : mW} {μ : mM} (hw : mWF w) (hT : mT w μ) {Q : Int → mM → Prop} (hQ : WP_X11_message_W w μ  Q) : sC (gG l D c H0 sa) mX11_message 8 0 0 [.ref 0] (mk w μ) (qI w [10, 76004, 76005, 76006, 76007, 76008, 76013, 76014, 76016, 77999, 78999, 79999, 80999, 84999, 85999, 200002, 200003, 200004, 200005, 200006, 200007, 200008, 201999, 202999] μ (fun z μ1 => ∃ o_wd o_an : Int, μ1 76 13 = o_wd ∧ μ1 76 14 = o_an ∧ ((-2147483648) ≤ z ∧ z ≤ 2147483647) ∧ (o_wd + o_an ≤ 1000) ∧ Q z μ1 ∧ True)) := by
  refine sC.of rfl (by decide) (le_t rfl) ?_
  refine mr_lvE (lv' := [(0, .ref 0)]) rfl ?_
  refine sv_aload_n (pc := 0) dX11_message_0 rfl rfl ?_
  refine gf_X11_7 (pc := 1) dX11_message_1 wF_X11_58 (A_0 hw) hT ?_
  refine sv_aload_n (pc := 4) dX11_message_4 rfl rfl ?_
  refine gf_X11_0 (pc := 5) dX11_message_5 wF_X11_9 (A_0 hw) hT ?_
  refine sv_aload_n (pc := 8) dX11_message_8 rfl rfl ?_
  refine gf_X11_10 (pc := 9) dX11_message_9 wF_X11_76 (A_0 hw) hT fun z1 q2 h3 => ?_
  refine mr_cVI (pc := 12) (c_X3_read_W hw hT (A_1 hw) h3 (hQ z1 q2 h3)) (gOk _ _ _ _ _) dX11_message_12 (tX3_read _ _ _ _ _) ⟨wV_X3_read, wL_X3_read⟩ wM_X11_339 (gCX3 _ _ _ _ _) rfl (A_76 hw) rfl ⟨le_t rfl, le_t rfl⟩ ⟨le_t rfl, le_t rfl⟩ rfl (le_t rfl) fun z8 μ4 T5 F6 h7 => ?_
  obtain ⟨z9, z11, q10, q12, h13⟩ := h7
  have h14 : (0 ≤ z9 ∧ z9 ≤ 1000) := by rw [← q10]; exact T5 76 76 (A_76 hw) 13
  have h15 : (0 ≤ z11 ∧ z11 ≤ 1000) := by rw [← q12]; exact T5 76 76 (A_76 hw) 14
  refine mr_istore_n (pc := 15) (lv' := [(1, iv z8), (0, .ref 0)]) dX11_message_15 rfl (by decide) rfl ?_
  refine sv_aload_n (pc := 16) dX11_message_16 rfl rfl ?_
  refine mr_iconst (pc := 17) (z := 0) dX11_message_17 ?_
  refine pf_X11_10 (pc := 18) dX11_message_18 wF_X11_76 (A_0 hw) T5 (rW (c := 0) (d := 1000) (rR (x := 0)) rfl) fun μ16 u17 T18 => ?_
  refine mr_iload_n (pc := 21) (z := z8) dX11_message_21 rfl rfl ?_
  exact mr_iret dX11_message_22 rfl (le_t rfl) (le_t rfl) T18 (mF.up (mF.call mF.refl F6 rfl) (A_0 hw) u17 rfl) ⟨z9, z11, (u17.f (Or.inl (mAt.ne (A_0 hw) (A_76 hw) rfl)) q10), (u17.f (Or.inl (mAt.ne (A_0 hw) (A_76 hw) rfl)) q12), h13.1, (vc_X3_told_5 h13.2.1 h15 h14), (((((h13.2.2.1 T5 F6) h13.1) z9 q10) z11 q12) μ16 u17 T18), trivial⟩
def WP_X12_byteAt_Wf (w : mW) (μ : mM) (p1 : Int) (Q : Int → mM → Prop) : Prop := ∀ f_size : Int, μ 106 1 = f_size → (0 ≤ f_size ∧ f_size ≤ 1000) → ∀ z25 : Int, μ 107 (p1.toNat) = z25 → ((-128) ≤ z25 ∧ z25 ≤ 127) → ∀ z28 : Int, bAnd z25 (255 : Int) = z28 → Q z28 μ
theorem vc_X12_byteAt_Wf_3 {f_size p1 : Int} (h0 : f_size ≤ p1) (h1 : p1 < f_size) (h2 : 1 ≤ f_size ∧ f_size ≤ 1000) (h3 : 0 ≤ p1 ∧ p1 ≤ 999) : False := by omega
set_option maxRecDepth 4000 in
set_option maxHeartbeats 4000000 in
theorem c_X12_byteAt_Wf {l : Launch} {D : va_G} {c : Nat → ClassId} {H0 : Heap} {sa : Nat × Nat × (Nat → Int32)} {w : mW} {μ : mM} (hw : mWF w) (hT : mT w μ) {p1 : Int} (hp1 : 0 ≤ p1 ∧ p1 ≤ 2147483647) {f_size : Int} (q_f_size : μ 106 1 = f_size) (hq0 : p1 < f_size) {Q : Int → mM → Prop} (hQ : WP_X12_byteAt_Wf w μ p1 Q) : sC (gG l D c H0 sa) mX12_byteAt 1 0 0 [.ref 106, iv p1] (mk w μ) (qP w μ (fun z => (0 ≤ z ∧ z ≤ 255) ∧ z = byteF μ p1 ∧ Q z μ ∧ True)) := by
  refine sC.of rfl (by decide) (le_t rfl) ?_
  have ht_f_size : (0 ≤ f_size ∧ f_size ≤ 1000) := by rw [← q_f_size]; exact hT 106 106 (A_106 hw) 1
  have h1 : 0 ≤ p1 ∧ p1 ≤ 999 := (vc_X12_byteAt_g_4 hq0 ht_f_size hp1)
  have h2 : 1 ≤ f_size ∧ f_size ≤ 1000 := (vc_X12_byteAt_g_5 hq0 ht_f_size h1)
  refine mr_lvE (lv' := [(0, .ref 106), (1, iv p1)]) rfl ?_
  refine mr_iload_n (pc := 0) (z := p1) dX12_byteAt_0 rfl rfl ?_
  refine sv_aload_n (pc := 1) dX12_byteAt_1 rfl rfl ?_
  refine gk_X12_1 (pc := 2) dX12_byteAt_2 wF_X12_1 (A_106 hw) q_f_size ?_
  refine mr_icmp_ge (pc := 5) (tgt := 21) dX12_byteAt_5 (by decide) (r32 h1 rfl) (r32 h2 rfl) (fun h => ((vc_X12_byteAt_Wf_3 h hq0 h2 h1)).elim) (fun h24 => ?_)
  refine sv_aload_n (pc := 8) dX12_byteAt_8 rfl rfl ?_
  refine gf_X12_0 (pc := 9) dX12_byteAt_9 wF_X12_7 (A_106 hw) hT ?_
  refine mr_iload_n (pc := 12) (z := p1) dX12_byteAt_12 rfl rfl ?_
  refine la_107 (pc := 13) dX12_byteAt_13 (A_107 hw) hT (rIx (n := 1000) h1 rfl) fun z25 q26 h27 => ?_
  refine mr_sipush (pc := 14) (z := 255) dX12_byteAt_14 (by decide) ?_
  refine mr_iand (pc := 17) (x := z25) (y := 255) dX12_byteAt_17 ?_
  refine mr_gen (P := fun z => 0 ≤ z ∧ z ≤ 255) (rAndR (rR (x := 255)) rfl) fun z28 q29 h30 => ?_
  refine sv_goto (pc := 18) (tgt := 22) dX12_byteAt_18 (by decide) ?_
  exact mr_iretP dX12_byteAt_22 rfl (le_t rfl) (le_t rfl) ⟨h30, (byteF.in q_f_size (vc_X12_byteAt_g_6 hq0 h2 h1) q26 q29), (((hQ f_size q_f_size ht_f_size) z25 q26 h27) z28 q29), trivial⟩
def WP_X12_number_Wf2 (w : mW) (μ : mM) (p1 : Int) (p2 : Int) (Q : Int → mM → Prop) : Prop := ∀ f_size : Int, μ 106 1 = f_size → (0 ≤ f_size ∧ f_size ≤ 1000) → ((p2 ≤ 0) → Q (0 : Int) μ) ∧ ((0 < p2) → ∀ z108 : Int, bShl (0 : Int) (8 : Int) = z108 → WP_X12_byteAt_Wf w μ (p1 + 0) (fun z115 _ => (0 ≤ z115 ∧ z115 ≤ 255) → ∀ z116 : Int, bOr z108 z115 = z116 → ((p2 ≤ 1) → Q z116 μ) ∧ ((1 < p2) → ∀ z135 : Int, bShl z116 (8 : Int) = z135 → WP_X12_byteAt_Wf w μ (p1 + 1) (fun z142 _ => (0 ≤ z142 ∧ z142 ≤ 255) → ∀ z143 : Int, bOr z135 z142 = z143 → Q z143 μ))))
theorem vc_X12_number_Wf2_1 {f_size p1 p2 : Int} (h0 : p2 ≤ 0) (h1 : p1 + p2 ≤ f_size) (h2 : 0 ≤ f_size ∧ f_size ≤ 1000) (h3 : 0 ≤ p1 ∧ p1 ≤ 1000) (h4 : 0 ≤ p2 ∧ p2 ≤ 2) : 0 ≤ p2 ∧ p2 ≤ 0 := by omega
theorem vc_X12_number_Wf2_2 {f_size p1 p2 : Int} (h0 : p1 + p2 ≤ f_size) (h1 : p2 ≤ 0) (h2 : 0 ≤ f_size ∧ f_size ≤ 1000) (h3 : 0 ≤ p1 ∧ p1 ≤ 1000) (h4 : 0 ≤ p2 ∧ p2 ≤ 0) : p2 = (0 : Int) := by omega
theorem vc_X12_number_Wf2_3 {f_size p1 p2 : Int} (h0 : 0 < p2) (h1 : p1 + p2 ≤ f_size) (h2 : 0 ≤ f_size ∧ f_size ≤ 1000) (h3 : 0 ≤ p1 ∧ p1 ≤ 1000) (h4 : 0 ≤ p2 ∧ p2 ≤ 2) : 1 ≤ p2 ∧ p2 ≤ 2 := by omega
theorem vc_X12_number_Wf2_4 {f_size p1 p2 : Int} (h0 : p1 + p2 ≤ f_size) (h1 : 0 < p2) (h2 : 0 ≤ f_size ∧ f_size ≤ 1000) (h3 : 0 ≤ p1 ∧ p1 ≤ 1000) (h4 : 1 ≤ p2 ∧ p2 ≤ 2) : (p1 + 0) < f_size := by omega
theorem vc_X12_number_Wf2_6 {f_size p1 p2 : Int} (h0 : p1 + p2 ≤ f_size) (h1 : 0 < p2) (h2 : 0 ≤ f_size ∧ f_size ≤ 1000) (h3 : 0 ≤ p1 ∧ p1 ≤ 1000) (h4 : 1 ≤ p2 ∧ p2 ≤ 2) : (p1 + 0) = p1 + (0 : Int) := by omega
theorem vc_X12_number_Wf2_7 {f_size p1 p2 : Int} (h0 : p2 ≤ 1) (h1 : p1 + p2 ≤ f_size) (h2 : 0 < p2) (h3 : 0 ≤ f_size ∧ f_size ≤ 1000) (h4 : 0 ≤ p1 ∧ p1 ≤ 1000) (h5 : 1 ≤ p2 ∧ p2 ≤ 2) : 1 ≤ p2 ∧ p2 ≤ 1 := by omega
theorem vc_X12_number_Wf2_8 {f_size p1 p2 : Int} (h0 : p1 + p2 ≤ f_size) (h1 : 0 < p2) (h2 : p2 ≤ 1) (h3 : 0 ≤ f_size ∧ f_size ≤ 1000) (h4 : 0 ≤ p1 ∧ p1 ≤ 1000) (h5 : 1 ≤ p2 ∧ p2 ≤ 1) : p2 = (1 : Int) := by omega
theorem vc_X12_number_Wf2_9 {f_size p1 p2 : Int} (h0 : 1 < p2) (h1 : p1 + p2 ≤ f_size) (h2 : 0 < p2) (h3 : 0 ≤ f_size ∧ f_size ≤ 1000) (h4 : 0 ≤ p1 ∧ p1 ≤ 1000) (h5 : 1 ≤ p2 ∧ p2 ≤ 2) : 2 ≤ p2 ∧ p2 ≤ 2 := by omega
theorem vc_X12_number_Wf2_10 {f_size p1 p2 : Int} (h0 : p1 + p2 ≤ f_size) (h1 : 0 < p2) (h2 : 1 < p2) (h3 : 0 ≤ f_size ∧ f_size ≤ 1000) (h4 : 0 ≤ p1 ∧ p1 ≤ 1000) (h5 : 2 ≤ p2 ∧ p2 ≤ 2) : (p1 + 1) < f_size := by omega
theorem vc_X12_number_Wf2_11  : (0 : Int) ≤ ((1 : Int) : Int) := by omega
theorem vc_X12_number_Wf2_12 {f_size p1 p2 : Int} (h0 : p1 + p2 ≤ f_size) (h1 : 0 < p2) (h2 : 1 < p2) (h3 : 0 ≤ f_size ∧ f_size ≤ 1000) (h4 : 0 ≤ p1 ∧ p1 ≤ 1000) (h5 : 2 ≤ p2 ∧ p2 ≤ 2) : (p1 + 1) = p1 + (1 : Int) := by omega
theorem vc_X12_number_Wf2_13 {p2 : Int} (h0 : 2 < p2) (h1 : 2 ≤ p2 ∧ p2 ≤ 2) : False := by omega
theorem vc_X12_number_Wf2_14 {f_size p1 p2 : Int} (h0 : p1 + p2 ≤ f_size) (h1 : 0 < p2) (h2 : 1 < p2) (h3 : 0 ≤ f_size ∧ f_size ≤ 1000) (h4 : 0 ≤ p1 ∧ p1 ≤ 1000) (h5 : 2 ≤ p2 ∧ p2 ≤ 2) : p2 = (2 : Int) := by omega
set_option maxRecDepth 4000 in
set_option maxHeartbeats 4000000 in
theorem c_X12_number_Wf2 {l : Launch} {D : va_G} {c : Nat → ClassId} {H0 : Heap} {sa : Nat × Nat × (Nat → Int32)} {w : mW} {μ : mM} (hw : mWF w) (hT : mT w μ) {p1 : Int} (hp1 : 0 ≤ p1 ∧ p1 ≤ 1000) {p2 : Int} (hp2 : 0 ≤ p2 ∧ p2 ≤ 2) {f_size : Int} (q_f_size : μ 106 1 = f_size) (hq0 : p1 + p2 ≤ f_size) {Q : Int → mM → Prop} (hQ : WP_X12_number_Wf2 w μ p1 p2 Q) : sC (gG l D c H0 sa) mX12_number 2 0 0 [.ref 106, iv p1, iv p2] (mk w μ) (qP w μ (fun z => (0 ≤ z ∧ z ≤ 65535) ∧ z = numF μ p1 p2 ∧ Q z μ ∧ True)) := by
  refine sC.of rfl (by decide) (le_t rfl) ?_
  have ht_f_size : (0 ≤ f_size ∧ f_size ≤ 1000) := by rw [← q_f_size]; exact hT 106 106 (A_106 hw) 1
  refine mr_lvE (lv' := [(0, .ref 106), (1, iv p1), (2, iv p2)]) rfl ?_
  refine mr_iconst (pc := 0) (z := 0) dX12_number_0 ?_
  refine mr_istore_n (pc := 1) (lv' := [(3, iv 0), (0, .ref 106), (1, iv p1), (2, iv p2)]) dX12_number_1 rfl (by decide) rfl ?_
  refine mr_iconst (pc := 2) (z := 0) dX12_number_2 ?_
  refine mr_istore (pc := 3) (lv' := [(4, iv 0), (3, iv 0), (0, .ref 106), (1, iv p1), (2, iv p2)]) dX12_number_3 (by decide) rfl ?_
  refine mr_iload (pc := 5) (z := 0) dX12_number_5 rfl ?_
  refine mr_iload_n (pc := 7) (z := p2) dX12_number_7 rfl rfl ?_
  refine mr_icmp_ge (pc := 8) (tgt := 31) dX12_number_8 (by decide) (r32 (rR (x := 0)) rfl) (r32 hp2 rfl) (fun h105 => ?_) (fun h105 => ?_)
  · have h106 : 0 ≤ p2 ∧ p2 ≤ 0 := (vc_X12_number_Wf2_1 h105 hq0 ht_f_size hp1 hp2)
    refine mr_iload_n (pc := 31) (z := 0) dX12_number_31 rfl rfl ?_
    exact mr_iretP dX12_number_32 rfl (le_t rfl) (le_t rfl) ⟨(rW (c := 0) (d := 65535) (rR (x := 0)) rfl), (numF.fin (k := (0 : Int)) numF.zero (vc_X12_number_Wf2_2 hq0 h105 ht_f_size hp1 h106)), ((hQ f_size q_f_size ht_f_size).1 h105), trivial⟩
  have h107 : 1 ≤ p2 ∧ p2 ≤ 2 := (vc_X12_number_Wf2_3 h105 hq0 ht_f_size hp1 hp2)
  refine mr_iload_n (pc := 11) (z := 0) dX12_number_11 rfl rfl ?_
  refine mr_bipush (pc := 12) (z := 8) dX12_number_12 (by decide) ?_
  refine mr_ishl (pc := 14) (x := 0) (y := 8) dX12_number_14 ?_
  refine mr_gen (P := fun z => 0 ≤ z ∧ z ≤ 0) (rShl (k := 8) (rR (x := 0)) rfl) fun z108 q109 h110 => ?_
  refine sv_aload_n (pc := 15) dX12_number_15 rfl rfl ?_
  refine mr_iload_n (pc := 16) (z := p1) dX12_number_16 rfl rfl ?_
  refine mr_iload (pc := 17) (z := 0) dX12_number_17 rfl ?_
  refine mr_iadd (pc := 19) (x := p1) (y := 0) dX12_number_19 ?_
  refine mr_cVP (pc := 20) (c_X12_byteAt_Wf hw hT (rW (c := 0) (d := 2147483647) (rAdd (e := 0) (f := 1000) hp1 (rR (x := 0)) rfl) rfl) q_f_size (vc_X12_number_Wf2_4 hq0 h105 ht_f_size hp1 h107) (((hQ f_size q_f_size ht_f_size).2 h105) z108 q109)) (gOk _ _ _ _ _) dX12_number_20 (tX12_byteAt _ _ _ _ _) ⟨wV_X12_byteAt, wL_X12_byteAt⟩ wM_X12_227 (gCX12 _ _ _ _ _) rfl (A_106 hw) rfl ⟨le_t rfl, le_t rfl⟩ ⟨le_t rfl, le_t rfl⟩ rfl (le_t rfl) fun z115 h114 => ?_
  refine mr_ior (pc := 23) (x := z108) (y := z115) dX12_number_23 ?_
  refine mr_gen (P := fun z => 0 ≤ z ∧ z ≤ 255) (rOr 8 h110 h114.1 rfl) fun z116 q117 h118 => ?_
  refine mr_istore_n (pc := 24) (lv' := [(3, iv z116), (4, iv 0), (0, .ref 106), (1, iv p1), (2, iv p2)]) dX12_number_24 rfl (by decide) rfl ?_
  refine mr_iinc (pc := 25) (lv' := [(4, iv 1), (3, iv z116), (0, .ref 106), (1, iv p1), (2, iv p2)]) dX12_number_25 rfl (by decide) rfl ?_
  refine sv_goto (pc := 28) (tgt := 5) dX12_number_28 (by decide) ?_
  refine mr_iload (pc := 5) (z := 1) dX12_number_5 rfl ?_
  refine mr_iload_n (pc := 7) (z := p2) dX12_number_7 rfl rfl ?_
  refine mr_icmp_ge (pc := 8) (tgt := 31) dX12_number_8 (by decide) (r32 (rR (x := 1)) rfl) (r32 h107 rfl) (fun h132 => ?_) (fun h132 => ?_)
  · have h133 : 1 ≤ p2 ∧ p2 ≤ 1 := (vc_X12_number_Wf2_7 h132 hq0 h105 ht_f_size hp1 h107)
    refine mr_iload_n (pc := 31) (z := z116) dX12_number_31 rfl rfl ?_
    exact mr_iretP dX12_number_32 rfl (le_t rfl) (le_t rfl) ⟨(rW (c := 0) (d := 65535) h118 rfl), (numF.fin (k := (1 : Int)) (numF.succ (n := (0 : Int)) numF.zero vc_X12_through_6 q109 (vc_X12_number_Wf2_6 hq0 h105 ht_f_size hp1 h107) h114.2.1.symm.symm q117) (vc_X12_number_Wf2_8 hq0 h105 h132 ht_f_size hp1 h133)), (((h114.2.2.1 h114.1) z116 q117).1 h132), trivial⟩
  have h134 : 2 ≤ p2 ∧ p2 ≤ 2 := (vc_X12_number_Wf2_9 h132 hq0 h105 ht_f_size hp1 h107)
  refine mr_iload_n (pc := 11) (z := z116) dX12_number_11 rfl rfl ?_
  refine mr_bipush (pc := 12) (z := 8) dX12_number_12 (by decide) ?_
  refine mr_ishl (pc := 14) (x := z116) (y := 8) dX12_number_14 ?_
  refine mr_gen (P := fun z => 0 ≤ z ∧ z ≤ 65280) (rShl (k := 8) h118 rfl) fun z135 q136 h137 => ?_
  refine sv_aload_n (pc := 15) dX12_number_15 rfl rfl ?_
  refine mr_iload_n (pc := 16) (z := p1) dX12_number_16 rfl rfl ?_
  refine mr_iload (pc := 17) (z := 1) dX12_number_17 rfl ?_
  refine mr_iadd (pc := 19) (x := p1) (y := 1) dX12_number_19 ?_
  refine mr_cVP (pc := 20) (c_X12_byteAt_Wf hw hT (rW (c := 0) (d := 2147483647) (rAdd (e := 1) (f := 1001) hp1 (rR (x := 1)) rfl) rfl) q_f_size (vc_X12_number_Wf2_10 hq0 h105 h132 ht_f_size hp1 h134) ((((h114.2.2.1 h114.1) z116 q117).2 h132) z135 q136)) (gOk _ _ _ _ _) dX12_number_20 (tX12_byteAt _ _ _ _ _) ⟨wV_X12_byteAt, wL_X12_byteAt⟩ wM_X12_227 (gCX12 _ _ _ _ _) rfl (A_106 hw) rfl ⟨le_t rfl, le_t rfl⟩ ⟨le_t rfl, le_t rfl⟩ rfl (le_t rfl) fun z142 h141 => ?_
  refine mr_ior (pc := 23) (x := z135) (y := z142) dX12_number_23 ?_
  refine mr_gen (P := fun z => 0 ≤ z ∧ z ≤ 65535) (rOr 16 h137 h141.1 rfl) fun z143 q144 h145 => ?_
  refine mr_istore_n (pc := 24) (lv' := [(3, iv z143), (4, iv 1), (0, .ref 106), (1, iv p1), (2, iv p2)]) dX12_number_24 rfl (by decide) rfl ?_
  refine mr_iinc (pc := 25) (lv' := [(4, iv 2), (3, iv z143), (0, .ref 106), (1, iv p1), (2, iv p2)]) dX12_number_25 rfl (by decide) rfl ?_
  refine sv_goto (pc := 28) (tgt := 5) dX12_number_28 (by decide) ?_
  refine mr_iload (pc := 5) (z := 2) dX12_number_5 rfl ?_
  refine mr_iload_n (pc := 7) (z := p2) dX12_number_7 rfl rfl ?_
  refine mr_icmp_ge (pc := 8) (tgt := 31) dX12_number_8 (by decide) (r32 (rR (x := 2)) rfl) (r32 h134 rfl) (fun _ => ?_) (fun h => ((vc_X12_number_Wf2_13 h h134)).elim)
  refine mr_iload_n (pc := 31) (z := z143) dX12_number_31 rfl rfl ?_
  exact mr_iretP dX12_number_32 rfl (le_t rfl) (le_t rfl) ⟨h145, (numF.fin (k := (2 : Int)) (numF.succ (n := (1 : Int)) (numF.succ (n := (0 : Int)) numF.zero vc_X12_through_6 q109 (vc_X12_number_Wf2_6 hq0 h105 ht_f_size hp1 h107) h114.2.1.symm.symm q117) vc_X12_number_Wf2_11 q136 (vc_X12_number_Wf2_12 hq0 h105 h132 ht_f_size hp1 h134) h141.2.1.symm.symm q144) (vc_X12_number_Wf2_14 hq0 h105 h132 ht_f_size hp1 h134)), ((h141.2.2.1 h141.1) z143 q144), trivial⟩
def WP_X12_fails_W (w : mW) (μ : mM) (p1 : Int) (p2 : Int) (Q : mM → Prop) : Prop := ∀ z1 : Int, μ 172 (p1.toNat) = z1 → ((-2147483648) ≤ z1 ∧ z1 ≤ 2147483647) → ((¬ z1 = (-99999999)) → Q μ) ∧ ((z1 = (-99999999)) → ∀ μ10 : mM, mU μ 172 (p1.toNat) p2 μ10 → mT w μ10 → Q μ10)
set_option maxRecDepth 4000 in
set_option maxHeartbeats 4000000 in
theorem c_X12_fails_W {l : Launch} {D : va_G} {c : Nat → ClassId} {H0 : Heap} {sa : Nat × Nat × (Nat → Int32)} {w : mW} {μ : mM} (hw : mWF w) (hT : mT w μ) {p1 : Int} (hp1 : 0 ≤ p1 ∧ p1 ≤ 3) {p2 : Int} (hp2 : (-2147483648) ≤ p2 ∧ p2 ≤ 2147483647) {Q : mM → Prop} (hQ : WP_X12_fails_W w μ p1 p2 Q) : sC (gG l D c H0 sa) mX12_fails 1 0 0 [.ref 106, iv p1, iv p2] (mk w μ) (qV w [172999] μ (fun μ1 => Q μ1 ∧ True)) := by
  refine sC.of rfl (by decide) (le_t rfl) ?_
  refine mr_lvE (lv' := [(0, .ref 106), (1, iv p1), (2, iv p2)]) rfl ?_
  refine sv_aload_n (pc := 0) dX12_fails_0 rfl rfl ?_
  refine gf_X12_95 (pc := 1) dX12_fails_1 wF_X12_478 (A_106 hw) hT ?_
  refine mr_iload_n (pc := 4) (z := p1) dX12_fails_4 rfl rfl ?_
  refine la_172 (pc := 5) dX12_fails_5 (A_172 hw) hT (rIx (n := 4) hp1 rfl) fun z1 q2 h3 => ?_
  refine mr_ldc (pc := 6) (z := (-99999999)) dX12_fails_6 wG_X12_29 (by decide) ?_
  refine mr_icmp_ne (pc := 8) (tgt := 18) dX12_fails_8 (by decide) h3 (r32 (rR (x := (-99999999))) rfl) (fun h8 => ?_) (fun h8 => ?_)
  · exact mr_vret dX12_fails_18 rfl (le_t rfl) (le_t rfl) hT mF.refl ⟨((hQ z1 q2 h3).1 h8), trivial⟩
  have h9 : (-99999999) ≤ z1 ∧ z1 ≤ (-99999999) := (vc_X12_judgedAnew_21 h8 h3)
  refine sv_aload_n (pc := 11) dX12_fails_11 rfl rfl ?_
  refine gf_X12_95 (pc := 12) dX12_fails_12 wF_X12_478 (A_106 hw) hT ?_
  refine mr_iload_n (pc := 15) (z := p1) dX12_fails_15 rfl rfl ?_
  refine mr_iload_n (pc := 16) (z := p2) dX12_fails_16 rfl rfl ?_
  refine ss_172 (pc := 17) dX12_fails_17 (A_172 hw) hT (rIx (n := 4) hp1 rfl) hp2 fun μ10 u11 T12 => ?_
  exact mr_vret dX12_fails_18 rfl (le_t rfl) (le_t rfl) T12 (mF.up mF.refl (A_172 hw) u11 rfl) ⟨(((hQ z1 q2 h3).2 h8) μ10 u11 T12), trivial⟩
def WP_X12_byteAt_Win (w : mW) (μ : mM) (p1 : Int) (Q : Int → mM → Prop) : Prop := ∀ f_size : Int, μ 106 1 = f_size → (0 ≤ f_size ∧ f_size ≤ 1000) → ∀ z25 : Int, μ 107 (p1.toNat) = z25 → ((-128) ≤ z25 ∧ z25 ≤ 127) → ∀ z28 : Int, bAnd z25 (255 : Int) = z28 → Q z28 μ
set_option maxRecDepth 4000 in
set_option maxHeartbeats 4000000 in
theorem c_X12_byteAt_Win {l : Launch} {D : va_G} {c : Nat → ClassId} {H0 : Heap} {sa : Nat × Nat × (Nat → Int32)} {w : mW} {μ : mM} (hw : mWF w) (hT : mT w μ) {p1 : Int} (hp1 : 0 ≤ p1 ∧ p1 ≤ 2147483647) {f_size : Int} (q_f_size : μ 106 1 = f_size) (hq0 : p1 < f_size) {Q : Int → mM → Prop} (hQ : WP_X12_byteAt_Win w μ p1 Q) : sC (gG l D c H0 sa) mX12_byteAt 1 0 0 [.ref 106, iv p1] (mk w μ) (qP w μ (fun z => (0 ≤ z ∧ z ≤ 255) ∧ Q z μ ∧ True)) := by
  refine sC.of rfl (by decide) (le_t rfl) ?_
  have ht_f_size : (0 ≤ f_size ∧ f_size ≤ 1000) := by rw [← q_f_size]; exact hT 106 106 (A_106 hw) 1
  have h1 : 0 ≤ p1 ∧ p1 ≤ 999 := (vc_X12_byteAt_g_4 hq0 ht_f_size hp1)
  have h2 : 1 ≤ f_size ∧ f_size ≤ 1000 := (vc_X12_byteAt_g_5 hq0 ht_f_size h1)
  refine mr_lvE (lv' := [(0, .ref 106), (1, iv p1)]) rfl ?_
  refine mr_iload_n (pc := 0) (z := p1) dX12_byteAt_0 rfl rfl ?_
  refine sv_aload_n (pc := 1) dX12_byteAt_1 rfl rfl ?_
  refine gk_X12_1 (pc := 2) dX12_byteAt_2 wF_X12_1 (A_106 hw) q_f_size ?_
  refine mr_icmp_ge (pc := 5) (tgt := 21) dX12_byteAt_5 (by decide) (r32 h1 rfl) (r32 h2 rfl) (fun h => ((vc_X12_byteAt_Wf_3 h hq0 h2 h1)).elim) (fun h24 => ?_)
  refine sv_aload_n (pc := 8) dX12_byteAt_8 rfl rfl ?_
  refine gf_X12_0 (pc := 9) dX12_byteAt_9 wF_X12_7 (A_106 hw) hT ?_
  refine mr_iload_n (pc := 12) (z := p1) dX12_byteAt_12 rfl rfl ?_
  refine la_107 (pc := 13) dX12_byteAt_13 (A_107 hw) hT (rIx (n := 1000) h1 rfl) fun z25 q26 h27 => ?_
  refine mr_sipush (pc := 14) (z := 255) dX12_byteAt_14 (by decide) ?_
  refine mr_iand (pc := 17) (x := z25) (y := 255) dX12_byteAt_17 ?_
  refine mr_gen (P := fun z => 0 ≤ z ∧ z ≤ 255) (rAndR (rR (x := 255)) rfl) fun z28 q29 h30 => ?_
  refine sv_goto (pc := 18) (tgt := 22) dX12_byteAt_18 (by decide) ?_
  exact mr_iretP dX12_byteAt_22 rfl (le_t rfl) (le_t rfl) ⟨h30, (((hQ f_size q_f_size ht_f_size) z25 q26 h27) z28 q29), trivial⟩
def WL_X12_number_W_1 (w : mW) (μ : mM) (p1 : Int) (p2 : Int) (Q : Int → mM → Prop) (rec1 : (Int × Int) → Prop) (s : (Int × Int)) : Prop := ∀ z453 : Int, ∀ z452 : Int, s = (z453, z452) → ((-2147483648) ≤ z453 ∧ z453 ≤ 2147483647) → (2 ≤ z452 ∧ z452 ≤ 4) → ((p2 ≤ z452) → Q z453 μ) ∧ ((z452 < p2) → ∀ z481 : Int, bShl z453 (8 : Int) = z481 → WP_X12_byteAt_Win w μ (p1 + z452) (fun z488 _ => (0 ≤ z488 ∧ z488 ≤ 255) → ∀ z489 : Int, bOr z481 z488 = z489 → rec1 (z489, (z452 + 1))))
def WP_X12_number_W (w : mW) (μ : mM) (p1 : Int) (p2 : Int) (Q : Int → mM → Prop) : Prop := ∀ f_size : Int, μ 106 1 = f_size → (0 ≤ f_size ∧ f_size ≤ 1000) → ((p2 ≤ 0) → Q (0 : Int) μ) ∧ ((0 < p2) → ∀ z295 : Int, bShl (0 : Int) (8 : Int) = z295 → WP_X12_byteAt_Win w μ (p1 + 0) (fun z302 _ => (0 ≤ z302 ∧ z302 ≤ 255) → ∀ z303 : Int, bOr z295 z302 = z303 → ((p2 ≤ 1) → Q z303 μ) ∧ ((1 < p2) → ∀ z356 : Int, bShl z303 (8 : Int) = z356 → WP_X12_byteAt_Win w μ (p1 + 1) (fun z363 _ => (0 ≤ z363 ∧ z363 ≤ 255) → ∀ z364 : Int, bOr z356 z363 = z364 → loopF (WL_X12_number_W_1 w μ p1 p2 Q) False 4 (z364, (2 : Int))))))
theorem vc_X12_number_W_1 {f_size p1 p2 : Int} (h0 : p2 ≤ 0) (h1 : p1 + p2 ≤ f_size) (h2 : 0 ≤ f_size ∧ f_size ≤ 1000) (h3 : 0 ≤ p1 ∧ p1 ≤ 1000) (h4 : 0 ≤ p2 ∧ p2 ≤ 4) : 0 ≤ p2 ∧ p2 ≤ 0 := by omega
theorem vc_X12_number_W_2 {f_size p1 p2 : Int} (h0 : p1 + p2 ≤ f_size) (h1 : p2 ≤ 0) (h2 : 0 ≤ f_size ∧ f_size ≤ 1000) (h3 : 0 ≤ p1 ∧ p1 ≤ 1000) (h4 : 0 ≤ p2 ∧ p2 ≤ 0) : p2 ≤ 2 → 0 ≤ (0 : Int) ∧ (0 : Int) ≤ 65535 := by omega
theorem vc_X12_number_W_3 {f_size p1 p2 : Int} (h0 : 0 < p2) (h1 : p1 + p2 ≤ f_size) (h2 : 0 ≤ f_size ∧ f_size ≤ 1000) (h3 : 0 ≤ p1 ∧ p1 ≤ 1000) (h4 : 0 ≤ p2 ∧ p2 ≤ 4) : 1 ≤ p2 ∧ p2 ≤ 4 := by omega
theorem vc_X12_number_W_4 {f_size p1 p2 : Int} (h0 : p1 + p2 ≤ f_size) (h1 : 0 < p2) (h2 : 0 ≤ f_size ∧ f_size ≤ 1000) (h3 : 0 ≤ p1 ∧ p1 ≤ 1000) (h4 : 1 ≤ p2 ∧ p2 ≤ 4) : (p1 + 0) < f_size := by omega
theorem vc_X12_number_W_5 {f_size p1 p2 : Int} (h0 : p2 ≤ 1) (h1 : p1 + p2 ≤ f_size) (h2 : 0 < p2) (h3 : 0 ≤ f_size ∧ f_size ≤ 1000) (h4 : 0 ≤ p1 ∧ p1 ≤ 1000) (h5 : 1 ≤ p2 ∧ p2 ≤ 4) : 1 ≤ p2 ∧ p2 ≤ 1 := by omega
theorem vc_X12_number_W_6 {f_size p1 p2 z303 : Int} (h0 : p1 + p2 ≤ f_size) (h1 : 0 < p2) (h2 : p2 ≤ 1) (h3 : 0 ≤ f_size ∧ f_size ≤ 1000) (h4 : 0 ≤ p1 ∧ p1 ≤ 1000) (h5 : 1 ≤ p2 ∧ p2 ≤ 1) (h6 : 0 ≤ z303 ∧ z303 ≤ 255) : p2 ≤ 2 → 0 ≤ z303 ∧ z303 ≤ 65535 := by omega
theorem vc_X12_number_W_7 {f_size p1 p2 : Int} (h0 : 1 < p2) (h1 : p1 + p2 ≤ f_size) (h2 : 0 < p2) (h3 : 0 ≤ f_size ∧ f_size ≤ 1000) (h4 : 0 ≤ p1 ∧ p1 ≤ 1000) (h5 : 1 ≤ p2 ∧ p2 ≤ 4) : 2 ≤ p2 ∧ p2 ≤ 4 := by omega
theorem vc_X12_number_W_8 {f_size p1 p2 : Int} (h0 : p1 + p2 ≤ f_size) (h1 : 0 < p2) (h2 : 1 < p2) (h3 : 0 ≤ f_size ∧ f_size ≤ 1000) (h4 : 0 ≤ p1 ∧ p1 ≤ 1000) (h5 : 2 ≤ p2 ∧ p2 ≤ 4) : (p1 + 1) < f_size := by omega
theorem vc_X12_number_W_9 {f_size p1 p2 z452 z453 : Int} (h0 : (5 - z452) < ((0 : Nat) : Int)) (h1 : z452 = 2 → 0 ≤ z453 ∧ z453 ≤ 65535) (h2 : z452 ≤ p2) (h3 : p1 + p2 ≤ f_size) (h4 : 0 < p2) (h5 : 1 < p2) (h6 : 0 ≤ f_size ∧ f_size ≤ 1000) (h7 : 0 ≤ p1 ∧ p1 ≤ 1000) (h8 : 2 ≤ p2 ∧ p2 ≤ 4) (h9 : 2 ≤ z452 ∧ z452 ≤ 4) (h10 : (-2147483648) ≤ z453 ∧ z453 ≤ 2147483647) : False := by omega
theorem vc_X12_number_W_10 {f_size p1 p2 z452 z453 : Int} (h0 : p1 + p2 ≤ f_size) (h1 : 0 < p2) (h2 : 1 < p2) (h3 : z452 = 2 → 0 ≤ z453 ∧ z453 ≤ 65535) (h4 : z452 ≤ p2) (h5 : p2 ≤ z452) (h6 : 0 ≤ f_size ∧ f_size ≤ 1000) (h7 : 0 ≤ p1 ∧ p1 ≤ 1000) (h8 : 2 ≤ p2 ∧ p2 ≤ 4) (h9 : 2 ≤ z452 ∧ z452 ≤ 4) (h10 : (-2147483648) ≤ z453 ∧ z453 ≤ 2147483647) : p2 ≤ 2 → 0 ≤ z453 ∧ z453 ≤ 65535 := by omega
theorem vc_X12_number_W_11 {f_size p1 p2 z452 z453 : Int} (h0 : z452 < p2) (h1 : p1 + p2 ≤ f_size) (h2 : 0 < p2) (h3 : 1 < p2) (h4 : z452 = 2 → 0 ≤ z453 ∧ z453 ≤ 65535) (h5 : z452 ≤ p2) (h6 : 0 ≤ f_size ∧ f_size ≤ 1000) (h7 : 0 ≤ p1 ∧ p1 ≤ 1000) (h8 : 2 ≤ p2 ∧ p2 ≤ 4) (h9 : 2 ≤ z452 ∧ z452 ≤ 4) (h10 : (-2147483648) ≤ z453 ∧ z453 ≤ 2147483647) : 2 ≤ z452 ∧ z452 ≤ 3 := by omega
theorem vc_X12_number_W_12 {f_size p1 p2 z452 z453 : Int} (h0 : z452 < p2) (h1 : p1 + p2 ≤ f_size) (h2 : 0 < p2) (h3 : 1 < p2) (h4 : z452 = 2 → 0 ≤ z453 ∧ z453 ≤ 65535) (h5 : z452 ≤ p2) (h6 : 0 ≤ f_size ∧ f_size ≤ 1000) (h7 : 0 ≤ p1 ∧ p1 ≤ 1000) (h8 : 2 ≤ p2 ∧ p2 ≤ 4) (h9 : 2 ≤ z452 ∧ z452 ≤ 3) (h10 : (-2147483648) ≤ z453 ∧ z453 ≤ 2147483647) : 3 ≤ p2 ∧ p2 ≤ 4 := by omega
theorem vc_X12_number_W_13 {f_size p1 p2 z452 z453 : Int} (h0 : p1 + p2 ≤ f_size) (h1 : z452 = 2 → 0 ≤ z453 ∧ z453 ≤ 65535) (h2 : z452 ≤ p2) (h3 : z452 < p2) (h4 : 0 < p2) (h5 : 1 < p2) (h6 : 0 ≤ f_size ∧ f_size ≤ 1000) (h7 : 0 ≤ p1 ∧ p1 ≤ 1000) (h8 : 3 ≤ p2 ∧ p2 ≤ 4) (h9 : 2 ≤ z452 ∧ z452 ≤ 3) (h10 : (-2147483648) ≤ z453 ∧ z453 ≤ 2147483647) : (p1 + z452) < f_size := by omega
theorem vc_X12_number_W_14 {f_size p1 p2 z452 z453 z489 : Int} (h0 : z452 = 2 → 0 ≤ z453 ∧ z453 ≤ 65535) (h1 : z452 ≤ p2) (h2 : z452 < p2) (h3 : p1 + p2 ≤ f_size) (h4 : 0 < p2) (h5 : 1 < p2) (h6 : 0 ≤ f_size ∧ f_size ≤ 1000) (h7 : 0 ≤ p1 ∧ p1 ≤ 1000) (h8 : 3 ≤ p2 ∧ p2 ≤ 4) (h9 : 2 ≤ z452 ∧ z452 ≤ 3) (h10 : (-2147483648) ≤ z453 ∧ z453 ≤ 2147483647) (h11 : (-2147483648) ≤ z489 ∧ z489 ≤ 2147483647) : (z452 + 1) = 2 → 0 ≤ z489 ∧ z489 ≤ 65535 := by omega
theorem vc_X12_number_W_15 {f_size p1 p2 z452 z453 : Int} (h0 : p1 + p2 ≤ f_size) (h1 : 0 < p2) (h2 : 1 < p2) (h3 : z452 = 2 → 0 ≤ z453 ∧ z453 ≤ 65535) (h4 : z452 ≤ p2) (h5 : z452 < p2) (h6 : 0 ≤ f_size ∧ f_size ≤ 1000) (h7 : 0 ≤ p1 ∧ p1 ≤ 1000) (h8 : 3 ≤ p2 ∧ p2 ≤ 4) (h9 : 2 ≤ z452 ∧ z452 ≤ 3) (h10 : (-2147483648) ≤ z453 ∧ z453 ≤ 2147483647) : (z452 + 1) ≤ p2 := by omega
theorem vc_X12_number_W_16 {N f_size p1 p2 z452 z453 : Int} (h0 : (5 - z452) < N + 1) (h1 : z452 = 2 → 0 ≤ z453 ∧ z453 ≤ 65535) (h2 : z452 ≤ p2) (h3 : z452 < p2) (h4 : p1 + p2 ≤ f_size) (h5 : 0 < p2) (h6 : 1 < p2) (h7 : 0 ≤ f_size ∧ f_size ≤ 1000) (h8 : 0 ≤ p1 ∧ p1 ≤ 1000) (h9 : 3 ≤ p2 ∧ p2 ≤ 4) (h10 : 2 ≤ z452 ∧ z452 ≤ 3) (h11 : (-2147483648) ≤ z453 ∧ z453 ≤ 2147483647) : (5 - (z452 + 1)) < N := by omega
theorem vc_X12_number_W_17 {z364 : Int} (h0 : 0 ≤ z364 ∧ z364 ≤ 65535) : (2 : Int) = 2 → 0 ≤ z364 ∧ z364 ≤ 65535 := by omega
theorem vc_X12_number_W_18 {f_size p1 p2 : Int} (h0 : p1 + p2 ≤ f_size) (h1 : 0 < p2) (h2 : 1 < p2) (h3 : 0 ≤ f_size ∧ f_size ≤ 1000) (h4 : 0 ≤ p1 ∧ p1 ≤ 1000) (h5 : 2 ≤ p2 ∧ p2 ≤ 4) : (2 : Int) ≤ p2 := by omega
theorem vc_X12_number_W_19  : (5 - 2) < ((4 : Nat) : Int) := by omega
set_option maxRecDepth 4000 in
set_option maxHeartbeats 4000000 in
theorem c_X12_number_W {l : Launch} {D : va_G} {c : Nat → ClassId} {H0 : Heap} {sa : Nat × Nat × (Nat → Int32)} {w : mW} {μ : mM} (hw : mWF w) (hT : mT w μ) {p1 : Int} (hp1 : 0 ≤ p1 ∧ p1 ≤ 1000) {p2 : Int} (hp2 : 0 ≤ p2 ∧ p2 ≤ 4) {f_size : Int} (q_f_size : μ 106 1 = f_size) (hq0 : p1 + p2 ≤ f_size) {Q : Int → mM → Prop} (hQ : WP_X12_number_W w μ p1 p2 Q) : sC (gG l D c H0 sa) mX12_number 2 0 0 [.ref 106, iv p1, iv p2] (mk w μ) (qP w μ (fun z => ((-2147483648) ≤ z ∧ z ≤ 2147483647) ∧ (p2 ≤ 2 → 0 ≤ z ∧ z ≤ 65535) ∧ Q z μ ∧ True)) := by
  refine sC.of rfl (by decide) (le_t rfl) ?_
  have ht_f_size : (0 ≤ f_size ∧ f_size ≤ 1000) := by rw [← q_f_size]; exact hT 106 106 (A_106 hw) 1
  refine mr_lvE (lv' := [(0, .ref 106), (1, iv p1), (2, iv p2)]) rfl ?_
  refine mr_iconst (pc := 0) (z := 0) dX12_number_0 ?_
  refine mr_istore_n (pc := 1) (lv' := [(3, iv 0), (0, .ref 106), (1, iv p1), (2, iv p2)]) dX12_number_1 rfl (by decide) rfl ?_
  refine mr_iconst (pc := 2) (z := 0) dX12_number_2 ?_
  refine mr_istore (pc := 3) (lv' := [(4, iv 0), (3, iv 0), (0, .ref 106), (1, iv p1), (2, iv p2)]) dX12_number_3 (by decide) rfl ?_
  refine mr_iload (pc := 5) (z := 0) dX12_number_5 rfl ?_
  refine mr_iload_n (pc := 7) (z := p2) dX12_number_7 rfl rfl ?_
  refine mr_icmp_ge (pc := 8) (tgt := 31) dX12_number_8 (by decide) (r32 (rR (x := 0)) rfl) (r32 hp2 rfl) (fun h292 => ?_) (fun h292 => ?_)
  · have h293 : 0 ≤ p2 ∧ p2 ≤ 0 := (vc_X12_number_W_1 h292 hq0 ht_f_size hp1 hp2)
    refine mr_iload_n (pc := 31) (z := 0) dX12_number_31 rfl rfl ?_
    exact mr_iretP dX12_number_32 rfl (le_t rfl) (le_t rfl) ⟨(rW (c := (-2147483648)) (d := 2147483647) (rR (x := 0)) rfl), (vc_X12_number_W_2 hq0 h292 ht_f_size hp1 h293), ((hQ f_size q_f_size ht_f_size).1 h292), trivial⟩
  have h294 : 1 ≤ p2 ∧ p2 ≤ 4 := (vc_X12_number_W_3 h292 hq0 ht_f_size hp1 hp2)
  refine mr_iload_n (pc := 11) (z := 0) dX12_number_11 rfl rfl ?_
  refine mr_bipush (pc := 12) (z := 8) dX12_number_12 (by decide) ?_
  refine mr_ishl (pc := 14) (x := 0) (y := 8) dX12_number_14 ?_
  refine mr_gen (P := fun z => 0 ≤ z ∧ z ≤ 0) (rShl (k := 8) (rR (x := 0)) rfl) fun z295 q296 h297 => ?_
  refine sv_aload_n (pc := 15) dX12_number_15 rfl rfl ?_
  refine mr_iload_n (pc := 16) (z := p1) dX12_number_16 rfl rfl ?_
  refine mr_iload (pc := 17) (z := 0) dX12_number_17 rfl ?_
  refine mr_iadd (pc := 19) (x := p1) (y := 0) dX12_number_19 ?_
  refine mr_cVP (pc := 20) (c_X12_byteAt_Win hw hT (rW (c := 0) (d := 2147483647) (rAdd (e := 0) (f := 1000) hp1 (rR (x := 0)) rfl) rfl) q_f_size (vc_X12_number_W_4 hq0 h292 ht_f_size hp1 h294) (((hQ f_size q_f_size ht_f_size).2 h292) z295 q296)) (gOk _ _ _ _ _) dX12_number_20 (tX12_byteAt _ _ _ _ _) ⟨wV_X12_byteAt, wL_X12_byteAt⟩ wM_X12_227 (gCX12 _ _ _ _ _) rfl (A_106 hw) rfl ⟨le_t rfl, le_t rfl⟩ ⟨le_t rfl, le_t rfl⟩ rfl (le_t rfl) fun z302 h301 => ?_
  refine mr_ior (pc := 23) (x := z295) (y := z302) dX12_number_23 ?_
  refine mr_gen (P := fun z => 0 ≤ z ∧ z ≤ 255) (rOr 8 h297 h301.1 rfl) fun z303 q304 h305 => ?_
  refine mr_istore_n (pc := 24) (lv' := [(3, iv z303), (4, iv 0), (0, .ref 106), (1, iv p1), (2, iv p2)]) dX12_number_24 rfl (by decide) rfl ?_
  refine mr_iinc (pc := 25) (lv' := [(4, iv 1), (3, iv z303), (0, .ref 106), (1, iv p1), (2, iv p2)]) dX12_number_25 rfl (by decide) rfl ?_
  refine sv_goto (pc := 28) (tgt := 5) dX12_number_28 (by decide) ?_
  refine mr_iload (pc := 5) (z := 1) dX12_number_5 rfl ?_
  refine mr_iload_n (pc := 7) (z := p2) dX12_number_7 rfl rfl ?_
  refine mr_icmp_ge (pc := 8) (tgt := 31) dX12_number_8 (by decide) (r32 (rR (x := 1)) rfl) (r32 h294 rfl) (fun h353 => ?_) (fun h353 => ?_)
  · have h354 : 1 ≤ p2 ∧ p2 ≤ 1 := (vc_X12_number_W_5 h353 hq0 h292 ht_f_size hp1 h294)
    refine mr_iload_n (pc := 31) (z := z303) dX12_number_31 rfl rfl ?_
    exact mr_iretP dX12_number_32 rfl (le_t rfl) (le_t rfl) ⟨(rW (c := (-2147483648)) (d := 2147483647) h305 rfl), (vc_X12_number_W_6 hq0 h292 h353 ht_f_size hp1 h354 h305), (((h301.2.1 h301.1) z303 q304).1 h353), trivial⟩
  have h355 : 2 ≤ p2 ∧ p2 ≤ 4 := (vc_X12_number_W_7 h353 hq0 h292 ht_f_size hp1 h294)
  refine mr_iload_n (pc := 11) (z := z303) dX12_number_11 rfl rfl ?_
  refine mr_bipush (pc := 12) (z := 8) dX12_number_12 (by decide) ?_
  refine mr_ishl (pc := 14) (x := z303) (y := 8) dX12_number_14 ?_
  refine mr_gen (P := fun z => 0 ≤ z ∧ z ≤ 65280) (rShl (k := 8) h305 rfl) fun z356 q357 h358 => ?_
  refine sv_aload_n (pc := 15) dX12_number_15 rfl rfl ?_
  refine mr_iload_n (pc := 16) (z := p1) dX12_number_16 rfl rfl ?_
  refine mr_iload (pc := 17) (z := 1) dX12_number_17 rfl ?_
  refine mr_iadd (pc := 19) (x := p1) (y := 1) dX12_number_19 ?_
  refine mr_cVP (pc := 20) (c_X12_byteAt_Win hw hT (rW (c := 0) (d := 2147483647) (rAdd (e := 1) (f := 1001) hp1 (rR (x := 1)) rfl) rfl) q_f_size (vc_X12_number_W_8 hq0 h292 h353 ht_f_size hp1 h355) ((((h301.2.1 h301.1) z303 q304).2 h353) z356 q357)) (gOk _ _ _ _ _) dX12_number_20 (tX12_byteAt _ _ _ _ _) ⟨wV_X12_byteAt, wL_X12_byteAt⟩ wM_X12_227 (gCX12 _ _ _ _ _) rfl (A_106 hw) rfl ⟨le_t rfl, le_t rfl⟩ ⟨le_t rfl, le_t rfl⟩ rfl (le_t rfl) fun z363 h362 => ?_
  refine mr_ior (pc := 23) (x := z356) (y := z363) dX12_number_23 ?_
  refine mr_gen (P := fun z => 0 ≤ z ∧ z ≤ 65535) (rOr 16 h358 h362.1 rfl) fun z364 q365 h366 => ?_
  refine mr_istore_n (pc := 24) (lv' := [(3, iv z364), (4, iv 1), (0, .ref 106), (1, iv p1), (2, iv p2)]) dX12_number_24 rfl (by decide) rfl ?_
  refine mr_iinc (pc := 25) (lv' := [(4, iv 2), (3, iv z364), (0, .ref 106), (1, iv p1), (2, iv p2)]) dX12_number_25 rfl (by decide) rfl ?_
  refine sv_goto (pc := 28) (tgt := 5) dX12_number_28 (by decide) ?_
  have L454 : ∀ (nL454 : Nat) (z453 z452 : Int), True → ((-2147483648) ≤ z453 ∧ z453 ≤ 2147483647) → (2 ≤ z452 ∧ z452 ≤ 4) → (z452 = 2 → 0 ≤ z453 ∧ z453 ≤ 65535) → (z452 ≤ p2) → (5 - z452) < (nL454 : Int) → loopF (WL_X12_number_W_1 w μ p1 p2 Q) False nL454 (z453, z452) → sV (gG l D c H0 sa) mX12_number (sRm 2 0 0) (sZ (gG l D c H0 sa) 0 0 (qP w μ (fun z => ((-2147483648) ≤ z ∧ z ≤ 2147483647) ∧ (p2 ≤ 2 → 0 ≤ z ∧ z ≤ 65535) ∧ Q z μ ∧ True))) 5 [(0, .ref 106), (1, iv p1), (2, iv p2), (3, iv z453), (4, iv z452)] [] (mk w μ) 0 0 := by
    intro nL454
    induction nL454 with
    | zero => intro z453 z452 _ h455 h456 h460 h461 h462 W463; exact ((vc_X12_number_W_9 h462 h460 h461 hq0 h292 h353 ht_f_size hp1 h355 h456 h455)).elim
    | succ nL454 ih464 =>
      intro z453 z452 _ h455 h456 h460 h461 h462 W463
      refine mr_iload (pc := 5) (z := z452) dX12_number_5 rfl ?_
      refine mr_iload_n (pc := 7) (z := p2) dX12_number_7 rfl rfl ?_
      refine mr_icmp_ge (pc := 8) (tgt := 31) dX12_number_8 (by decide) (r32 h456 rfl) (r32 h355 rfl) (fun h478 => ?_) (fun h478 => ?_)
      · refine mr_iload_n (pc := 31) (z := z453) dX12_number_31 rfl rfl ?_
        exact mr_iretP dX12_number_32 rfl (le_t rfl) (le_t rfl) ⟨h455, (vc_X12_number_W_10 hq0 h292 h353 h460 h461 h478 ht_f_size hp1 h355 h456 h455), ((W463 z453 z452 rfl h455 h456).1 h478), trivial⟩
      have h479 : 2 ≤ z452 ∧ z452 ≤ 3 := (vc_X12_number_W_11 h478 hq0 h292 h353 h460 h461 ht_f_size hp1 h355 h456 h455)
      have h480 : 3 ≤ p2 ∧ p2 ≤ 4 := (vc_X12_number_W_12 h478 hq0 h292 h353 h460 h461 ht_f_size hp1 h355 h479 h455)
      refine mr_iload_n (pc := 11) (z := z453) dX12_number_11 rfl rfl ?_
      refine mr_bipush (pc := 12) (z := 8) dX12_number_12 (by decide) ?_
      refine mr_ishl (pc := 14) (x := z453) (y := 8) dX12_number_14 ?_
      refine mr_gen (P := fun z => (-2147483648) ≤ z ∧ z ≤ 2147483647) (r32i _) fun z481 q482 h483 => ?_
      refine sv_aload_n (pc := 15) dX12_number_15 rfl rfl ?_
      refine mr_iload_n (pc := 16) (z := p1) dX12_number_16 rfl rfl ?_
      refine mr_iload (pc := 17) (z := z452) dX12_number_17 rfl ?_
      refine mr_iadd (pc := 19) (x := p1) (y := z452) dX12_number_19 ?_
      refine mr_cVP (pc := 20) (c_X12_byteAt_Win hw hT (rW (c := 0) (d := 2147483647) (rAdd (e := 2) (f := 1003) hp1 h479 rfl) rfl) q_f_size (vc_X12_number_W_13 hq0 h460 h461 h478 h292 h353 ht_f_size hp1 h480 h479 h455) (((W463 z453 z452 rfl h455 h456).2 h478) z481 q482)) (gOk _ _ _ _ _) dX12_number_20 (tX12_byteAt _ _ _ _ _) ⟨wV_X12_byteAt, wL_X12_byteAt⟩ wM_X12_227 (gCX12 _ _ _ _ _) rfl (A_106 hw) rfl ⟨le_t rfl, le_t rfl⟩ ⟨le_t rfl, le_t rfl⟩ rfl (le_t rfl) fun z488 h487 => ?_
      refine mr_ior (pc := 23) (x := z481) (y := z488) dX12_number_23 ?_
      refine mr_gen (P := fun z => (-2147483648) ≤ z ∧ z ≤ 2147483647) (r32i _) fun z489 q490 h491 => ?_
      refine mr_istore_n (pc := 24) (lv' := [(3, iv z489), (0, .ref 106), (1, iv p1), (2, iv p2), (4, iv z452)]) dX12_number_24 rfl (by decide) rfl ?_
      refine mr_iinc (pc := 25) (lv' := [(4, iv (z452 + 1)), (3, iv z489), (0, .ref 106), (1, iv p1), (2, iv p2)]) dX12_number_25 rfl (by decide) rfl ?_
      refine sv_goto (pc := 28) (tgt := 5) dX12_number_28 (by decide) ?_
      refine mr_lvS (lv' := [(0, .ref 106), (1, iv p1), (2, iv p2), (3, iv z489), (4, iv (z452 + 1))]) (List.forall_mem_cons.mpr ⟨rfl, List.forall_mem_cons.mpr ⟨rfl, List.forall_mem_cons.mpr ⟨rfl, List.forall_mem_cons.mpr ⟨rfl, List.forall_mem_cons.mpr ⟨rfl, fun _ h => absurd h List.not_mem_nil⟩⟩⟩⟩⟩) ?_
      exact ih464 z489 (z452 + 1) trivial h491 (rW (c := 2) (d := 4) (rAdd (e := 3) (f := 4) h479 (rR (x := 1)) rfl) rfl) (vc_X12_number_W_14 h460 h461 h478 hq0 h292 h353 ht_f_size hp1 h480 h479 h455 h491) (vc_X12_number_W_15 hq0 h292 h353 h460 h461 h478 ht_f_size hp1 h480 h479 h455) (vc_X12_number_W_16 (nS h462) h460 h461 h478 hq0 h292 h353 ht_f_size hp1 h480 h479 h455) ((h487.2.1 h487.1) z489 q490)
  refine mr_lvS (lv' := [(0, .ref 106), (1, iv p1), (2, iv p2), (3, iv z364), (4, iv 2)]) (List.forall_mem_cons.mpr ⟨rfl, List.forall_mem_cons.mpr ⟨rfl, List.forall_mem_cons.mpr ⟨rfl, List.forall_mem_cons.mpr ⟨rfl, List.forall_mem_cons.mpr ⟨rfl, fun _ h => absurd h List.not_mem_nil⟩⟩⟩⟩⟩) ?_
  exact L454 4 z364 2 trivial (rW (c := (-2147483648)) (d := 2147483647) h366 rfl) (rW (c := 2) (d := 4) (rR (x := 2)) rfl) (vc_X12_number_W_17 h366) (vc_X12_number_W_18 hq0 h292 h353 ht_f_size hp1 h355) vc_X12_number_W_19 ((h362.2.1 h362.1) z364 q365)
