theorem vc_X11_isRule_v_2 {z87 : Int} (h0 : z87 < ((0 : Nat) : Int)) (h1 : 0 ≤ z87 ∧ z87 ≤ 2147483647) : False := by omega
theorem vc_X11_isRule_v_3 {z87 : Int} (h0 : z87 ≤ 0) (h1 : 0 ≤ z87 ∧ z87 ≤ 2147483647) : 0 ≤ z87 ∧ z87 ≤ 0 := by omega
theorem vc_X11_isRule_v_4 {p1 : Int} (h0 : 0 ≤ p1) (h1 : 0 ≤ p1 ∧ p1 ≤ 2147483647) : (1 : Int) = 1 → 0 ≤ p1 := by omega
theorem vc_X11_isRule_v_5 {p1 : Int} (h0 : 0 ≤ p1) (h1 : 0 ≤ p1 ∧ p1 ≤ 2147483647) : 0 ≤ p1 := by omega
theorem vc_X11_isRule_v_7 {z87 : Int} (h0 : 0 < z87) (h1 : 0 ≤ z87 ∧ z87 ≤ 2147483647) : 1 ≤ z87 ∧ z87 ≤ 2147483647 := by omega
theorem vc_X11_isRule_v_9 {z102 z87 : Int} (h0 : z102 < 1) (h1 : z87 % 10 = z102) (h2 : 0 ≤ z102 ∧ z102 ≤ 9) (h3 : 1 ≤ z87 ∧ z87 ≤ 2147483647) : 0 ≤ z102 ∧ z102 ≤ 0 := by omega
theorem vc_X11_isRule_v_10 {p1 : Int} (h0 : 0 ≤ p1) (h1 : 0 ≤ p1 ∧ p1 ≤ 2147483647) : (0 : Int) = 1 → 0 ≤ p1 := by omega
theorem vc_X11_isRule_v_11 {z102 z87 : Int} (h0 : 0 < z87) (h1 : z87 % 10 = z102) (h2 : z102 < 1) (h3 : 0 ≤ z102 ∧ z102 ≤ 0) (h4 : 1 ≤ z87 ∧ z87 ≤ 2147483647) : 0 < z87 := by omega
theorem vc_X11_isRule_v_12 {z102 z87 : Int} (h0 : 0 < z87) (h1 : z87 % 10 = z102) (h2 : z102 < 1) (h3 : 0 ≤ z102 ∧ z102 ≤ 0) (h4 : 1 ≤ z87 ∧ z87 ≤ 2147483647) : z87 % 10 = z102 := by omega
theorem vc_X11_isRule_v_13 {z102 z87 : Int} (h0 : z87 % 10 = z102) (h1 : z102 < 1) (h2 : 0 < z87) (h3 : 0 ≤ z102 ∧ z102 ≤ 0) (h4 : 1 ≤ z87 ∧ z87 ≤ 2147483647) : z102 < 1 ∨ 6 < z102 := by omega
theorem vc_X11_isRule_v_14 {z102 z87 : Int} (h0 : 1 ≤ z102) (h1 : z87 % 10 = z102) (h2 : 0 ≤ z102 ∧ z102 ≤ 9) (h3 : 1 ≤ z87 ∧ z87 ≤ 2147483647) : 1 ≤ z102 ∧ z102 ≤ 9 := by omega
theorem vc_X11_isRule_v_15 {z102 z87 : Int} (h0 : 6 < z102) (h1 : z87 % 10 = z102) (h2 : 1 ≤ z102) (h3 : 1 ≤ z102 ∧ z102 ≤ 9) (h4 : 1 ≤ z87 ∧ z87 ≤ 2147483647) : 7 ≤ z102 ∧ z102 ≤ 9 := by omega
theorem vc_X11_isRule_v_16 {z102 z87 : Int} (h0 : 0 < z87) (h1 : z87 % 10 = z102) (h2 : 1 ≤ z102) (h3 : 6 < z102) (h4 : 7 ≤ z102 ∧ z102 ≤ 9) (h5 : 1 ≤ z87 ∧ z87 ≤ 2147483647) : 0 < z87 := by omega
theorem vc_X11_isRule_v_17 {z102 z87 : Int} (h0 : 0 < z87) (h1 : z87 % 10 = z102) (h2 : 1 ≤ z102) (h3 : 6 < z102) (h4 : 7 ≤ z102 ∧ z102 ≤ 9) (h5 : 1 ≤ z87 ∧ z87 ≤ 2147483647) : z87 % 10 = z102 := by omega
theorem vc_X11_isRule_v_18 {z102 z87 : Int} (h0 : z87 % 10 = z102) (h1 : 1 ≤ z102) (h2 : 6 < z102) (h3 : 0 < z87) (h4 : 7 ≤ z102 ∧ z102 ≤ 9) (h5 : 1 ≤ z87 ∧ z87 ≤ 2147483647) : z102 < 1 ∨ 6 < z102 := by omega
theorem vc_X11_isRule_v_19 {z102 z87 : Int} (h0 : z102 ≤ 6) (h1 : z87 % 10 = z102) (h2 : 1 ≤ z102) (h3 : 1 ≤ z102 ∧ z102 ≤ 9) (h4 : 1 ≤ z87 ∧ z87 ≤ 2147483647) : 1 ≤ z102 ∧ z102 ≤ 6 := by omega
theorem vc_X11_isRule_v_21 {z102 z87 : Int} (h0 : z87 % 10 = z102) (h1 : 1 ≤ z102) (h2 : z102 ≤ 6) (h3 : 0 < z87) (h4 : 1 ≤ z102 ∧ z102 ≤ 6) (h5 : 1 ≤ z87 ∧ z87 ≤ 2147483647) : 1 ≤ z102 ∧ z102 ≤ 6 := by omega
theorem vc_X11_isRule_v_22 {N z102 z125 z87 : Int} (h0 : z87 < N + 1) (h1 : 0 < z87) (h2 : z87 % 10 = z102) (h3 : z87 / 10 = z125) (h4 : 1 ≤ z102) (h5 : z102 ≤ 6) (h6 : 1 ≤ z102 ∧ z102 ≤ 6) (h7 : 0 ≤ z125 ∧ z125 ≤ 214748364) (h8 : 1 ≤ z87 ∧ z87 ≤ 2147483647) : z125 < N := by omega
theorem vc_X11_isRule_v_23 {z102 z125 z87 : Int} (h0 : 0 < z87) (h1 : z87 % 10 = z102) (h2 : z87 / 10 = z125) (h3 : 1 ≤ z102) (h4 : z102 ≤ 6) (h5 : 1 ≤ z102 ∧ z102 ≤ 6) (h6 : 0 ≤ z125 ∧ z125 ≤ 214748364) (h7 : 1 ≤ z87 ∧ z87 ≤ 2147483647) : 0 < z87 := by omega
theorem vc_X11_isRule_v_24 {z102 z125 z87 : Int} (h0 : 0 < z87) (h1 : z87 % 10 = z102) (h2 : 1 ≤ z102) (h3 : z102 ≤ 6) (h4 : z87 / 10 = z125) (h5 : 1 ≤ z102 ∧ z102 ≤ 6) (h6 : 0 ≤ z125 ∧ z125 ≤ 214748364) (h7 : 1 ≤ z87 ∧ z87 ≤ 2147483647) : z87 % 10 = z102 := by omega
theorem vc_X11_isRule_v_25 {z102 z125 z87 : Int} (h0 : z87 % 10 = z102) (h1 : 1 ≤ z102) (h2 : z102 ≤ 6) (h3 : 0 < z87) (h4 : z87 / 10 = z125) (h5 : 1 ≤ z102 ∧ z102 ≤ 6) (h6 : 0 ≤ z125 ∧ z125 ≤ 214748364) (h7 : 1 ≤ z87 ∧ z87 ≤ 2147483647) : 1 ≤ z102 ∧ z102 ≤ 6 := by omega
theorem vc_X11_isRule_v_27 {z102 z125 z87 : Int} (h0 : 0 < z87) (h1 : z87 % 10 = z102) (h2 : z87 / 10 = z125) (h3 : 1 ≤ z102) (h4 : z102 ≤ 6) (h5 : 1 ≤ z102 ∧ z102 ≤ 6) (h6 : 0 ≤ z125 ∧ z125 ≤ 214748364) (h7 : 1 ≤ z87 ∧ z87 ≤ 2147483647) : z87 / 10 = z125 := by omega
theorem vc_X11_isRule_v_29 {z102 z87 : Int} (h0 : 0 < z87) (h1 : z87 % 10 = z102) (h2 : 1 ≤ z102) (h3 : z102 ≤ 6) (h4 : 1 ≤ z102 ∧ z102 ≤ 6) (h5 : 1 ≤ z87 ∧ z87 ≤ 2147483647) : 0 < z87 := by omega
theorem vc_X11_isRule_v_30 {z102 z87 : Int} (h0 : 0 < z87) (h1 : z87 % 10 = z102) (h2 : 1 ≤ z102) (h3 : z102 ≤ 6) (h4 : 1 ≤ z102 ∧ z102 ≤ 6) (h5 : 1 ≤ z87 ∧ z87 ≤ 2147483647) : z87 % 10 = z102 := by omega
theorem vc_X11_isRule_v_32 {p1 : Int} (h0 : 0 ≤ p1) (h1 : 0 ≤ p1 ∧ p1 ≤ 2147483647) : p1 < ((2147483648 : Nat) : Int) := by omega
theorem vc_X11_isRule_v_34 {p1 : Int} (h0 : p1 < 0) (h1 : (-2147483648) ≤ p1 ∧ p1 ≤ (-1)) : (0 : Int) = 1 → 0 ≤ p1 := by omega
theorem vc_X11_isRule_v_35 {p1 : Int} (h0 : p1 < 0) (h1 : (-2147483648) ≤ p1 ∧ p1 ≤ (-1)) : ¬ 0 ≤ p1 := by omega
set_option maxRecDepth 4000 in
set_option maxHeartbeats 4000000 in
theorem c_X11_isRule_v {l : Launch} {D : va_G} {c : Nat → ClassId} {H0 : Heap} {sa : Nat × Nat × (Nat → Int32)} {w : mW} {μ : mM} (hw : mWF w) (hT : mT w μ) {p1 : Int} (hp1 : (-2147483648) ≤ p1 ∧ p1 ≤ 2147483647) : sC (gG l D c H0 sa) mX11_isRule 1 0 0 [iv p1] (mk w μ) (qP w μ (fun z => (0 ≤ z ∧ z ≤ 1) ∧ (z = 1 → p1 ≤ 999999) ∧ (z = 1 → 0 ≤ p1) ∧ (z = 1 → 0 ≤ p1 ∧ rlK 0 p1) ∧ (z = 0 → ¬ (0 ≤ p1 ∧ rlK 0 p1)) ∧ True)) := by
  refine sC.of rfl (by decide) (le_t rfl) ?_
  refine mr_lvE (lv' := [(0, iv p1)]) rfl ?_
  refine mr_iload_n (pc := 0) (z := p1) dX11_isRule_0 rfl rfl ?_
  refine mr_if_ge (pc := 1) (tgt := 6) dX11_isRule_1 (by decide) hp1 (fun h1 => ?_) (fun h1 => ?_)
  · have h2 : 0 ≤ p1 ∧ p1 ≤ 2147483647 := (vc_X12_cut_2 h1 hp1)
    refine mr_iconst (pc := 6) (z := 0) dX11_isRule_6 ?_
    refine mr_istore_n (pc := 7) (lv' := [(1, iv 0), (0, iv p1)]) dX11_isRule_7 rfl (by decide) rfl ?_
    refine mr_iload_n (pc := 8) (z := p1) dX11_isRule_8 rfl rfl ?_
    refine mr_istore_n (pc := 9) (lv' := [(2, iv p1), (1, iv 0), (0, iv p1)]) dX11_isRule_9 rfl (by decide) rfl ?_
    have L89 : ∀ (nL89 : Nat) (z88 z87 : Int), True → ((-2147483648) ≤ z88 ∧ z88 ≤ 2147483647) → (0 ≤ z87 ∧ z87 ≤ 2147483647) → rOK p1 z87 z88 → (rlK 0 p1 ↔ rlK z88 z87) → z87 < (nL89 : Int) → sV (gG l D c H0 sa) mX11_isRule (sRm 1 0 0) (sZ (gG l D c H0 sa) 0 0 (qP w μ (fun z => (0 ≤ z ∧ z ≤ 1) ∧ (z = 1 → p1 ≤ 999999) ∧ (z = 1 → 0 ≤ p1) ∧ (z = 1 → 0 ≤ p1 ∧ rlK 0 p1) ∧ (z = 0 → ¬ (0 ≤ p1 ∧ rlK 0 p1)) ∧ True))) 10 [(1, iv z88), (2, iv z87)] [] (mk w μ) 0 0 := by
      intro nL89
      induction nL89 with
      | zero => intro z88 z87 _ h90 h91 R95 R96 h97; exact ((vc_X11_isRule_v_2 h97 h91)).elim
      | succ nL89 ih98 =>
        intro z88 z87 _ h90 h91 R95 R96 h97
        refine mr_iload_n (pc := 10) (z := z87) dX11_isRule_10 rfl rfl ?_
        refine mr_if_le (pc := 11) (tgt := 54) dX11_isRule_11 (by decide) (r32 h91 rfl) (fun h99 => ?_) (fun h99 => ?_)
        · have h100 : 0 ≤ z87 ∧ z87 ≤ 0 := (vc_X11_isRule_v_3 h99 h91)
          refine mr_iconst (pc := 54) (z := 1) dX11_isRule_54 ?_
          exact mr_zretP dX11_isRule_55 rfl (rW (c := 0) (d := 1) (rR (x := 1)) rfl) (le_t rfl) (le_t rfl) ⟨(rW (c := 0) (d := 1) (rR (x := 1)) rfl), (fun _ => rOK.done R95 h99), (vc_X11_isRule_v_4 h1 h2), (fun _ => ⟨(vc_X11_isRule_v_5 h1 h2), R96.mpr (rlK.zero (vc_X12_pick_u_50 h99 h100))⟩), (fun h => absurd h (by decide)), trivial⟩
        have h101 : 1 ≤ z87 ∧ z87 ≤ 2147483647 := (vc_X11_isRule_v_7 h99 h91)
        refine mr_iload_n (pc := 14) (z := z87) dX11_isRule_14 rfl rfl ?_
        refine mr_bipush (pc := 15) (z := 10) dX11_isRule_15 (by decide) ?_
        refine mr_irem (pc := 17) (x := z87) (y := 10) dX11_isRule_17 (rW (c := 0) (d := 2147483647) h101 rfl) vc_X0_goBy_6 ?_
        refine mr_gen (P := fun z => 0 ≤ z ∧ z ≤ 9) (rMod h101 rfl) fun z102 q103 h104 => ?_
        refine mr_istore_n (pc := 18) (lv' := [(3, iv z102), (1, iv z88), (2, iv z87)]) dX11_isRule_18 rfl (by decide) rfl ?_
        refine mr_iload_n (pc := 19) (z := z102) dX11_isRule_19 rfl rfl ?_
        refine mr_iconst (pc := 20) (z := 1) dX11_isRule_20 ?_
        refine mr_icmp_lt (pc := 21) (tgt := 38) dX11_isRule_21 (by decide) (r32 h104 rfl) (r32 (rR (x := 1)) rfl) (fun h105 => ?_) (fun h105 => ?_)
        · have h106 : 0 ≤ z102 ∧ z102 ≤ 0 := (vc_X11_isRule_v_9 h105 q103 h104 h101)
          refine mr_iconst (pc := 38) (z := 0) dX11_isRule_38 ?_
          exact mr_zretP dX11_isRule_39 rfl (rW (c := 0) (d := 1) (rR (x := 0)) rfl) (le_t rfl) (le_t rfl) ⟨(rW (c := 0) (d := 1) (rR (x := 0)) rfl), (fun h => absurd h (by decide)), (vc_X11_isRule_v_10 h1 h2), (fun h => absurd h (by decide)), (fun _ h => (rlK.bad R96 (vc_X11_isRule_v_11 h99 q103 h105 h106 h101) (vc_X11_isRule_v_12 h99 q103 h105 h106 h101) (vc_X11_isRule_v_13 q103 h105 h99 h106 h101)) h.2), trivial⟩
        have h107 : 1 ≤ z102 ∧ z102 ≤ 9 := (vc_X11_isRule_v_14 h105 q103 h104 h101)
        refine mr_iload_n (pc := 24) (z := z102) dX11_isRule_24 rfl rfl ?_
        refine mr_bipush (pc := 25) (z := 6) dX11_isRule_25 (by decide) ?_
        refine mr_icmp_gt (pc := 27) (tgt := 38) dX11_isRule_27 (by decide) (r32 h107 rfl) (r32 (rR (x := 6)) rfl) (fun h108 => ?_) (fun h108 => ?_)
        · have h109 : 7 ≤ z102 ∧ z102 ≤ 9 := (vc_X11_isRule_v_15 h108 q103 h105 h107 h101)
          refine mr_iconst (pc := 38) (z := 0) dX11_isRule_38 ?_
          exact mr_zretP dX11_isRule_39 rfl (rW (c := 0) (d := 1) (rR (x := 0)) rfl) (le_t rfl) (le_t rfl) ⟨(rW (c := 0) (d := 1) (rR (x := 0)) rfl), (fun h => absurd h (by decide)), (vc_X11_isRule_v_10 h1 h2), (fun h => absurd h (by decide)), (fun _ h => (rlK.bad R96 (vc_X11_isRule_v_16 h99 q103 h105 h108 h109 h101) (vc_X11_isRule_v_17 h99 q103 h105 h108 h109 h101) (vc_X11_isRule_v_18 q103 h105 h108 h99 h109 h101)) h.2), trivial⟩
        have h110 : 1 ≤ z102 ∧ z102 ≤ 6 := (vc_X11_isRule_v_19 h108 q103 h105 h107 h101)
        refine mr_iload_n (pc := 30) (z := z88) dX11_isRule_30 rfl rfl ?_
        refine mr_iload_n (pc := 31) (z := z102) dX11_isRule_31 rfl rfl ?_
        refine mr_ishr (pc := 32) (x := z88) (y := z102) dX11_isRule_32 ?_
        refine mr_gen (P := fun z => (-2147483648) ≤ z ∧ z ≤ 2147483647) (r32i _) fun z111 q112 h113 => ?_
        refine mr_iconst (pc := 33) (z := 1) dX11_isRule_33 ?_
        refine mr_iand (pc := 34) (x := z111) (y := 1) dX11_isRule_34 ?_
        refine mr_gen (P := fun z => 0 ≤ z ∧ z ≤ 1) (rAndR (rR (x := 1)) rfl) fun z114 q115 h116 => ?_
        refine mr_if_eq (pc := 35) (tgt := 40) dX11_isRule_35 (by decide) (r32 h116 rfl) (fun h117 => ?_) (fun h117 => ?_)
        · have h118 : 0 ≤ z114 ∧ z114 ≤ 0 := (vc_X12_ring_22 h117 h116)
          refine mr_iload_n (pc := 40) (z := z88) dX11_isRule_40 rfl rfl ?_
          refine mr_iconst (pc := 41) (z := 1) dX11_isRule_41 ?_
          refine mr_iload_n (pc := 42) (z := z102) dX11_isRule_42 rfl rfl ?_
          refine mr_ishl (pc := 43) (x := 1) (y := z102) dX11_isRule_43 ?_
          refine mr_gen (P := fun z => (-2147483648) ≤ z ∧ z ≤ 2147483647) (r32i _) fun z119 q120 h121 => ?_
          refine mr_ior (pc := 44) (x := z88) (y := z119) dX11_isRule_44 ?_
          refine mr_gen (P := fun z => (-2147483648) ≤ z ∧ z ≤ 2147483647) (r32i _) fun z122 q123 h124 => ?_
          refine mr_istore_n (pc := 45) (lv' := [(1, iv z122), (3, iv z102), (2, iv z87)]) dX11_isRule_45 rfl (by decide) rfl ?_
          refine mr_iload_n (pc := 46) (z := z87) dX11_isRule_46 rfl rfl ?_
          refine mr_bipush (pc := 47) (z := 10) dX11_isRule_47 (by decide) ?_
          refine mr_idiv (pc := 49) (x := z87) (y := 10) dX11_isRule_49 (rW (c := 0) (d := 2147483647) h101 rfl) vc_X0_goBy_6 ?_
          refine mr_gen (P := fun z => 0 ≤ z ∧ z ≤ 214748364) (rDiv h101 rfl) fun z125 q126 h127 => ?_
          refine mr_istore_n (pc := 50) (lv' := [(2, iv z125), (1, iv z122), (3, iv z102)]) dX11_isRule_50 rfl (by decide) rfl ?_
          refine sv_goto (pc := 51) (tgt := 10) dX11_isRule_51 (by decide) ?_
          refine mr_lvS (lv' := [(1, iv z122), (2, iv z125)]) (List.forall_mem_cons.mpr ⟨rfl, List.forall_mem_cons.mpr ⟨rfl, fun _ h => absurd h List.not_mem_nil⟩⟩) ?_
          exact ih98 z122 z125 trivial h124 (rW (c := 0) (d := 2147483647) h127 rfl) (rOK.step R95 (fun n h => sOK.add h (vc_X11_isRule_v_21 q103 h105 h108 h99 h110 h101) q112 q115 (bAnd1 q115 h117) q120 q123) q126) (rlK.step R96 (vc_X11_isRule_v_23 h99 q103 q126 h105 h108 h110 h127 h101) (vc_X11_isRule_v_24 h99 q103 h105 h108 q126 h110 h127 h101) (vc_X11_isRule_v_25 q103 h105 h108 h99 q126 h110 h127 h101) q112 q115 (vc_X12_goes_7 h117 h118) q120 q123 (vc_X11_isRule_v_27 h99 q103 q126 h105 h108 h110 h127 h101)) (vc_X11_isRule_v_22 (nS h97) h99 q103 q126 h105 h108 h110 h127 h101)
        have h128 : 1 ≤ z114 ∧ z114 ≤ 1 := (vc_X12_ring_24 h117 h116)
        refine mr_iconst (pc := 38) (z := 0) dX11_isRule_38 ?_
        exact mr_zretP dX11_isRule_39 rfl (rW (c := 0) (d := 1) (rR (x := 0)) rfl) (le_t rfl) (le_t rfl) ⟨(rW (c := 0) (d := 1) (rR (x := 0)) rfl), (fun h => absurd h (by decide)), (vc_X11_isRule_v_10 h1 h2), (fun h => absurd h (by decide)), (fun _ h => (rlK.bad2 R96 (vc_X11_isRule_v_29 h99 q103 h105 h108 h110 h101) (vc_X11_isRule_v_30 h99 q103 h105 h108 h110 h101) q112 q115 (vc_X12_raise_u_7 h117 h128)) h.2), trivial⟩
    refine mr_lvS (lv' := [(1, iv 0), (2, iv p1)]) (List.forall_mem_cons.mpr ⟨rfl, List.forall_mem_cons.mpr ⟨rfl, fun _ h => absurd h List.not_mem_nil⟩⟩) ?_
    exact L89 2147483648 0 p1 trivial (rW (c := (-2147483648)) (d := 2147483647) (rR (x := 0)) rfl) h2 rOK.init Iff.rfl (vc_X11_isRule_v_32 h1 h2)
  have h129 : (-2147483648) ≤ p1 ∧ p1 ≤ (-1) := (vc_X12_cut_1 h1 hp1)
  refine mr_iconst (pc := 4) (z := 0) dX11_isRule_4 ?_
  exact mr_zretP dX11_isRule_5 rfl (rW (c := 0) (d := 1) (rR (x := 0)) rfl) (le_t rfl) (le_t rfl) ⟨(rW (c := 0) (d := 1) (rR (x := 0)) rfl), (fun h => absurd h (by decide)), (vc_X11_isRule_v_34 h1 h129), (fun h => absurd h (by decide)), (fun _ h => absurd h.1 (vc_X11_isRule_v_35 h1 h129)), trivial⟩
theorem vc_X11_rule_v_1 {f_dm p1 z101 : Int} (h0 : z101 = 0) (h1 : (z101 = 1 → 0 ≤ p1 ∧ p1 < f_dm)) (h2 : (z101 = 0 → p1 < 0 ∨ f_dm ≤ p1)) (h3 : 0 ≤ f_dm ∧ f_dm ≤ 10) (h4 : (-2147483648) ≤ p1 ∧ p1 ≤ 2147483647) (h5 : 0 ≤ z101 ∧ z101 ≤ 1) : 0 ≤ z101 ∧ z101 ≤ 0 := by omega
theorem vc_X11_rule_v_2 {f_dm n0 p1 z101 : Int} (h0 : (z101 = 1 → 0 ≤ p1 ∧ p1 < f_dm)) (h1 : (z101 = 0 → p1 < 0 ∨ f_dm ≤ p1)) (h2 : z101 = 0) (h3 : f_dm = n0) (h4 : 0 ≤ f_dm ∧ f_dm ≤ 10) (h5 : (-2147483648) ≤ p1 ∧ p1 ≤ 2147483647) (h6 : 0 ≤ z101 ∧ z101 ≤ 0) : z101 = 0 := by omega
theorem vc_X11_rule_v_3 {f_dm n0 p1 z101 : Int} (h0 : f_dm = n0) (h1 : (z101 = 1 → 0 ≤ p1 ∧ p1 < f_dm)) (h2 : (z101 = 0 → p1 < 0 ∨ f_dm ≤ p1)) (h3 : p1 < 0 ∨ f_dm ≤ p1) (h4 : z101 = 0) (h5 : 0 ≤ f_dm ∧ f_dm ≤ 10) (h6 : (-2147483648) ≤ p1 ∧ p1 ≤ 2147483647) (h7 : 0 ≤ z101 ∧ z101 ≤ 0) : p1 < 0 ∨ f_dm ≤ p1 := by omega
theorem vc_X11_rule_v_4 {f_dm p1 z101 : Int} (h0 : ¬ z101 = 0) (h1 : (z101 = 1 → 0 ≤ p1 ∧ p1 < f_dm)) (h2 : (z101 = 0 → p1 < 0 ∨ f_dm ≤ p1)) (h3 : 0 ≤ f_dm ∧ f_dm ≤ 10) (h4 : (-2147483648) ≤ p1 ∧ p1 ≤ 2147483647) (h5 : 0 ≤ z101 ∧ z101 ≤ 1) : 1 ≤ z101 ∧ z101 ≤ 1 := by omega
theorem vc_X11_rule_v_5 {f_dm n0 p1 z101 : Int} (h0 : (z101 = 1 → 0 ≤ p1 ∧ p1 < f_dm)) (h1 : (z101 = 0 → p1 < 0 ∨ f_dm ≤ p1)) (h2 : ¬ z101 = 0) (h3 : f_dm = n0) (h4 : 0 ≤ f_dm ∧ f_dm ≤ 10) (h5 : (-2147483648) ≤ p1 ∧ p1 ≤ 2147483647) (h6 : 1 ≤ z101 ∧ z101 ≤ 1) : z101 = 1 := by omega
theorem vc_X11_rule_v_6 {f_dm n0 p1 z101 : Int} (h0 : 0 ≤ p1 ∧ p1 < f_dm) (h1 : f_dm = n0) (h2 : (z101 = 1 → 0 ≤ p1 ∧ p1 < f_dm)) (h3 : (z101 = 0 → p1 < 0 ∨ f_dm ≤ p1)) (h4 : 0 ≤ f_dm ∧ f_dm ≤ 10) (h5 : (-2147483648) ≤ p1 ∧ p1 ≤ 2147483647) (h6 : 1 ≤ z101 ∧ z101 ≤ 1) : 0 ≤ p1 ∧ p1 ≤ 9 := by omega
theorem vc_X11_rule_v_7 {p2 z112 : Int} (h0 : ¬ z112 = 0) (h1 : (z112 = 1 → p2 ≤ 999999)) (h2 : (z112 = 1 → 0 ≤ p2)) (h3 : (-2147483648) ≤ p2 ∧ p2 ≤ 2147483647) (h4 : 0 ≤ z112 ∧ z112 ≤ 1) : 1 ≤ z112 ∧ z112 ≤ 1 := by omega
theorem vc_X11_rule_v_8 {p2 z112 : Int} (h0 : (z112 = 1 → p2 ≤ 999999)) (h1 : (z112 = 1 → 0 ≤ p2)) (h2 : ¬ z112 = 0) (h3 : (-2147483648) ≤ p2 ∧ p2 ≤ 2147483647) (h4 : 1 ≤ z112 ∧ z112 ≤ 1) : z112 = 1 := by omega
theorem vc_X11_rule_v_9 {p2 z112 : Int} (h0 : p2 ≤ 999999) (h1 : (z112 = 1 → p2 ≤ 999999)) (h2 : (z112 = 1 → 0 ≤ p2)) (h3 : (-2147483648) ≤ p2 ∧ p2 ≤ 2147483647) (h4 : 1 ≤ z112 ∧ z112 ≤ 1) : (-2147483648) ≤ p2 ∧ p2 ≤ 999999 := by omega
theorem vc_X11_rule_v_10 {p2 z112 : Int} (h0 : (z112 = 1 → p2 ≤ 999999)) (h1 : (z112 = 1 → 0 ≤ p2)) (h2 : ¬ z112 = 0) (h3 : p2 ≤ 999999) (h4 : (-2147483648) ≤ p2 ∧ p2 ≤ 999999) (h5 : 1 ≤ z112 ∧ z112 ≤ 1) : z112 = 1 := by omega
theorem vc_X11_rule_v_11 {p2 z112 : Int} (h0 : 0 ≤ p2) (h1 : (z112 = 1 → p2 ≤ 999999)) (h2 : (z112 = 1 → 0 ≤ p2)) (h3 : p2 ≤ 999999) (h4 : (-2147483648) ≤ p2 ∧ p2 ≤ 999999) (h5 : 1 ≤ z112 ∧ z112 ≤ 1) : 0 ≤ p2 ∧ p2 ≤ 999999 := by omega
theorem vc_X11_rule_v_12 {f_dm n0 p1 z101 : Int} (h0 : f_dm = n0) (h1 : (z101 = 1 → 0 ≤ p1 ∧ p1 < f_dm)) (h2 : (z101 = 0 → p1 < 0 ∨ f_dm ≤ p1)) (h3 : 0 ≤ p1 ∧ p1 < f_dm) (h4 : ¬ z101 = 0) (h5 : 0 ≤ f_dm ∧ f_dm ≤ 10) (h6 : 0 ≤ p1 ∧ p1 ≤ 9) (h7 : 1 ≤ z101 ∧ z101 ≤ 1) : p1 < n0 := by omega
theorem vc_X11_rule_v_13 {f_dm n0 p1 z101 : Int} (h0 : (z101 = 1 → 0 ≤ p1 ∧ p1 < f_dm)) (h1 : (z101 = 0 → p1 < 0 ∨ f_dm ≤ p1)) (h2 : 0 ≤ p1 ∧ p1 < f_dm) (h3 : f_dm = n0) (h4 : ¬ z101 = 0) (h5 : 0 ≤ f_dm ∧ f_dm ≤ 10) (h6 : 0 ≤ p1 ∧ p1 ≤ 9) (h7 : 1 ≤ z101 ∧ z101 ≤ 1) : 0 ≤ p1 := by omega
theorem vc_X11_rule_v_14 {f_dm n0 p1 z101 : Int} (h0 : f_dm = n0) (h1 : (z101 = 1 → 0 ≤ p1 ∧ p1 < f_dm)) (h2 : (z101 = 0 → p1 < 0 ∨ f_dm ≤ p1)) (h3 : 0 ≤ p1 ∧ p1 < f_dm) (h4 : ¬ z101 = 0) (h5 : 0 ≤ f_dm ∧ f_dm ≤ 10) (h6 : 0 ≤ p1 ∧ p1 ≤ 9) (h7 : 1 ≤ z101 ∧ z101 ≤ 1) : p1 < f_dm := by omega
theorem vc_X11_rule_v_15 {p2 z112 : Int} (h0 : (z112 = 1 → p2 ≤ 999999)) (h1 : (z112 = 1 → 0 ≤ p2)) (h2 : ¬ z112 = 0) (h3 : p2 ≤ 999999) (h4 : 0 ≤ p2) (h5 : 0 ≤ p2 ∧ p2 ≤ 999999) (h6 : 1 ≤ z112 ∧ z112 ≤ 1) : z112 = 1 := by omega
theorem vc_X11_rule_v_16 {p2 z112 : Int} (h0 : z112 = 0) (h1 : (z112 = 1 → p2 ≤ 999999)) (h2 : (z112 = 1 → 0 ≤ p2)) (h3 : (-2147483648) ≤ p2 ∧ p2 ≤ 2147483647) (h4 : 0 ≤ z112 ∧ z112 ≤ 1) : 0 ≤ z112 ∧ z112 ≤ 0 := by omega
theorem vc_X11_rule_v_17 {p2 z112 : Int} (h0 : (z112 = 1 → p2 ≤ 999999)) (h1 : (z112 = 1 → 0 ≤ p2)) (h2 : z112 = 0) (h3 : (-2147483648) ≤ p2 ∧ p2 ≤ 2147483647) (h4 : 0 ≤ z112 ∧ z112 ≤ 0) : z112 = 0 := by omega
set_option maxRecDepth 4000 in
set_option maxHeartbeats 4000000 in
theorem c_X11_rule_v {l : Launch} {D : va_G} {c : Nat → ClassId} {H0 : Heap} {sa : Nat × Nat × (Nat → Int32)} {w : mW} {μ : mM} (hw : mWF w) (hT : mT w μ) {p1 : Int} (hp1 : (-2147483648) ≤ p1 ∧ p1 ≤ 2147483647) {p2 : Int} (hp2 : (-2147483648) ≤ p2 ∧ p2 ≤ 2147483647) {p3 : Int} (hp3 : 0 ≤ p3 ∧ p3 ≤ 1) {f_dm : Int} (q_f_dm : μ 6 15 = f_dm) (hIPC : PC w μ) : sC (gG l D c H0 sa) mX11_rule 44 0 0 [.ref 0, iv p1, iv p2, iv p3] (mk w μ) (qI w [21002, 21003, 21004, 21005, 21006, 21007, 32009, 32010, 33999, 34999, 66999, 200002, 200003, 200004, 200005, 200006, 200007, 200008, 200009, 200010, 200011, 201999, 202999, 210004, 210005, 211999, 213999] μ (fun z μ1 => ((-2147483648) ≤ z ∧ z ≤ 2147483647) ∧ (rlA f_dm p1 p2 z) ∧ True)) := by
  refine sC.of rfl (by decide) (le_t rfl) ?_
  have ht_f_dm : (f_dm = w.2.2.2 0 ∧ 0 ≤ f_dm ∧ f_dm ≤ 10) := by rw [← q_f_dm]; exact hT 6 6 (A_6 hw) 15
  refine mr_lvE (lv' := [(0, .ref 0), (1, iv p1), (2, iv p2), (3, iv p3)]) rfl ?_
  refine sv_aload_n (pc := 0) dX11_rule_0 rfl rfl ?_
  refine mr_iload_n (pc := 1) (z := p1) dX11_rule_1 rfl rfl ?_
  refine mr_cVP (pc := 2) (c_X11_isDomain hw hT hp1 q_f_dm) (gOk _ _ _ _ _) dX11_rule_2 (tX11_isDomain _ _ _ _ _) ⟨wV_X11_isDomain, wL_X11_isDomain⟩ wM_X11_105 (gCX11 _ _ _ _ _) rfl (A_0 hw) rfl ⟨le_t rfl, le_t rfl⟩ ⟨le_t rfl, le_t rfl⟩ rfl (le_t rfl) fun z101 h100 => ?_
  refine mr_if_eq (pc := 5) (tgt := 15) dX11_rule_5 (by decide) (r32 h100.1 rfl) (fun h102 => ?_) (fun h102 => ?_)
  · have h103 : 0 ≤ z101 ∧ z101 ≤ 0 := (vc_X11_rule_v_1 h102 h100.2.1 h100.2.2.1 ht_f_dm.2 hp1 h100.1)
    have h104 : p1 < 0 ∨ f_dm ≤ p1 := (h100.2.2.1 (vc_X11_rule_v_2 h100.2.1 h100.2.2.1 h102 ht_f_dm.1 ht_f_dm.2 hp1 h103))
    refine mr_iconst (pc := 15) (z := (-1)) dX11_rule_15 ?_
    exact mr_iret dX11_rule_16 rfl (le_t rfl) (le_t rfl) hT mF.refl ⟨(rW (c := (-2147483648)) (d := 2147483647) (rR (x := (-1))) rfl), (Or.inl ⟨(by have h : p1 < 0 ∨ f_dm ≤ p1 := (vc_X11_rule_v_3 ht_f_dm.1 h100.2.1 h100.2.2.1 h104 h102 ht_f_dm.2 hp1 h103); exact h.elim Or.inl fun h => Or.inr (Or.inl h)), rfl⟩), trivial⟩
  have h105 : 1 ≤ z101 ∧ z101 ≤ 1 := (vc_X11_rule_v_4 h102 h100.2.1 h100.2.2.1 ht_f_dm.2 hp1 h100.1)
  have h106 : 0 ≤ p1 ∧ p1 < f_dm := (h100.2.1 (vc_X11_rule_v_5 h100.2.1 h100.2.2.1 h102 ht_f_dm.1 ht_f_dm.2 hp1 h105))
  have h107 : 0 ≤ p1 ∧ p1 ≤ 9 := (vc_X11_rule_v_6 h106 ht_f_dm.1 h100.2.1 h100.2.2.1 ht_f_dm.2 hp1 h105)
  refine mr_iload_n (pc := 8) (z := p2) dX11_rule_8 rfl rfl ?_
  refine mr_cSP (pc := 9) (c_X11_isRule_v hw hT hp2) (gOk _ _ _ _ _) dX11_rule_9 (tX11_isRule _ _ _ _ _) wS_X11_isRule wM_X11_280 ⟨le_t rfl, le_t rfl⟩ ⟨le_t rfl, le_t rfl⟩ rfl (le_t rfl) fun z112 h111 => ?_
  refine mr_if_ne (pc := 12) (tgt := 17) dX11_rule_12 (by decide) (r32 h111.1 rfl) (fun h113 => ?_) (fun h113 => ?_)
  · have h114 : 1 ≤ z112 ∧ z112 ≤ 1 := (vc_X11_rule_v_7 h113 h111.2.1 h111.2.2.1 hp2 h111.1)
    have h115 : p2 ≤ 999999 := (h111.2.1 (vc_X11_rule_v_8 h111.2.1 h111.2.2.1 h113 hp2 h114))
    have h116 : (-2147483648) ≤ p2 ∧ p2 ≤ 999999 := (vc_X11_rule_v_9 h115 h111.2.1 h111.2.2.1 hp2 h114)
    have h117 : 0 ≤ p2 := (h111.2.2.1 (vc_X11_rule_v_10 h111.2.1 h111.2.2.1 h113 h115 h116 h114))
    have h118 : 0 ≤ p2 ∧ p2 ≤ 999999 := (vc_X11_rule_v_11 h117 h111.2.1 h111.2.2.1 h115 h116 h114)
    refine sv_aload_n (pc := 17) dX11_rule_17 rfl rfl ?_
    refine gf_X11_3 (pc := 18) dX11_rule_18 wF_X11_26 (A_0 hw) hT ?_
    refine gf_X10_3 (pc := 21) dX11_rule_21 wF_X11_283 (A_6 hw) hT ?_
    refine mr_iload_n (pc := 24) (z := p1) dX11_rule_24 rfl rfl ?_
    refine la_10 (pc := 25) dX11_rule_25 (A_10 hw) hT (rIx (n := 10) h107 rfl) (vc_X11_rule_v_12 ht_f_dm.1 h100.2.1 h100.2.2.1 h106 h102 ht_f_dm.2 h107 h105) fun b119 q120 A121 => ?_
    refine mr_iload_n (pc := 26) (z := p2) dX11_rule_26 rfl rfl ?_
    refine mr_iload_n (pc := 27) (z := p3) dX11_rule_27 rfl rfl ?_
    refine mr_cVV (pc := 28) (c_X0_goBy hw hT A121 h118 hp3) (gOk _ _ _ _ _) dX11_rule_28 (tX0_goBy _ _ _ _ _) ⟨wV_X0_goBy, wL_X0_goBy⟩ wM_X11_287 (gCX0 _ _ _ _ _) rfl A121 rfl ⟨le_t rfl, le_t rfl⟩ ⟨le_t rfl, le_t rfl⟩ rfl (le_t rfl) fun μ122 T123 F124 h125 => ?_
    refine sv_aload_n (pc := 31) dX11_rule_31 rfl rfl ?_
    refine gf_X11_6 (pc := 32) dX11_rule_32 wF_X11_51 (A_0 hw) T123 ?_
    refine mr_iload_n (pc := 35) (z := p1) dX11_rule_35 rfl rfl ?_
    refine mr_cVV (pc := 36) (c_X8_lookAtAll hw T123 h107 (vc_X11_rule_v_12 ht_f_dm.1 h100.2.1 h100.2.2.1 h106 h102 ht_f_dm.2 h107 h105) (PC.keep hIPC hw ((mF.call mF.refl F124 rfl) : mF [210004, 210005, 211999] w μ μ122) rfl)) (gOk _ _ _ _ _) dX11_rule_36 (tX8_lookAtAll _ _ _ _ _) ⟨wV_X8_lookAtAll, wL_X8_lookAtAll⟩ wM_X11_148 (gCX8 _ _ _ _ _) rfl (A_32 hw) rfl ⟨le_t rfl, le_t rfl⟩ ⟨le_t rfl, le_t rfl⟩ rfl (le_t rfl) fun μ126 T127 F128 h129 => ?_
    refine mr_iconst (pc := 39) (z := 0) dX11_rule_39 ?_
    exact mr_iret dX11_rule_40 rfl (le_t rfl) (le_t rfl) T127 (mF.call (mF.call mF.refl F124 rfl) F128 rfl) ⟨(rW (c := (-2147483648)) (d := 2147483647) (rR (x := 0)) rfl), (Or.inr ⟨⟨(vc_X11_rule_v_13 h100.2.1 h100.2.2.1 h106 ht_f_dm.1 h102 ht_f_dm.2 h107 h105), (vc_X11_rule_v_14 ht_f_dm.1 h100.2.1 h100.2.2.1 h106 h102 ht_f_dm.2 h107 h105), h111.2.2.2.1 (vc_X11_rule_v_15 h111.2.1 h111.2.2.1 h113 h115 h117 h118 h114)⟩, rfl⟩), trivial⟩
  have h130 : 0 ≤ z112 ∧ z112 ≤ 0 := (vc_X11_rule_v_16 h113 h111.2.1 h111.2.2.1 hp2 h111.1)
  refine mr_iconst (pc := 15) (z := (-1)) dX11_rule_15 ?_
  exact mr_iret dX11_rule_16 rfl (le_t rfl) (le_t rfl) hT mF.refl ⟨(rW (c := (-2147483648)) (d := 2147483647) (rR (x := (-1))) rfl), (Or.inl ⟨Or.inr (Or.inr (h111.2.2.2.2.1 (vc_X11_rule_v_17 h111.2.1 h111.2.2.1 h113 hp2 h130))), rfl⟩), trivial⟩
theorem vc_X12_rule_v_2 {f_dm p1 z1461 : Int} (h0 : (z1461 = 1 → 0 ≤ p1 ∧ p1 < f_dm)) (h1 : (z1461 = 0 → p1 < 0 ∨ f_dm ≤ p1)) (h2 : z1461 = 0) (h3 : 0 ≤ f_dm ∧ f_dm ≤ 10) (h4 : (-2147483648) ≤ p1 ∧ p1 ≤ 2147483647) (h5 : 0 ≤ z1461 ∧ z1461 ≤ 0) : z1461 = 0 := by omega
theorem vc_X12_rule_v_3 {f_dm p1 z1461 : Int} (h0 : (z1461 = 1 → 0 ≤ p1 ∧ p1 < f_dm)) (h1 : (z1461 = 0 → p1 < 0 ∨ f_dm ≤ p1)) (h2 : p1 < 0 ∨ f_dm ≤ p1) (h3 : z1461 = 0) (h4 : 0 ≤ f_dm ∧ f_dm ≤ 10) (h5 : (-2147483648) ≤ p1 ∧ p1 ≤ 2147483647) (h6 : 0 ≤ z1461 ∧ z1461 ≤ 0) : p1 < 0 ∨ f_dm ≤ p1 := by omega
theorem vc_X12_rule_v_5 {f_dm p1 z1461 : Int} (h0 : (z1461 = 1 → 0 ≤ p1 ∧ p1 < f_dm)) (h1 : (z1461 = 0 → p1 < 0 ∨ f_dm ≤ p1)) (h2 : ¬ z1461 = 0) (h3 : 0 ≤ f_dm ∧ f_dm ≤ 10) (h4 : (-2147483648) ≤ p1 ∧ p1 ≤ 2147483647) (h5 : 1 ≤ z1461 ∧ z1461 ≤ 1) : z1461 = 1 := by omega
theorem vc_X12_rule_v_6 {f_dm p1 z1461 : Int} (h0 : 0 ≤ p1 ∧ p1 < f_dm) (h1 : (z1461 = 1 → 0 ≤ p1 ∧ p1 < f_dm)) (h2 : (z1461 = 0 → p1 < 0 ∨ f_dm ≤ p1)) (h3 : 0 ≤ f_dm ∧ f_dm ≤ 10) (h4 : (-2147483648) ≤ p1 ∧ p1 ≤ 2147483647) (h5 : 1 ≤ z1461 ∧ z1461 ≤ 1) : 0 ≤ p1 ∧ p1 ≤ 9 := by omega
theorem vc_X12_rule_v_16 {f_dm p1 z1461 : Int} (h0 : (z1461 = 1 → 0 ≤ p1 ∧ p1 < f_dm)) (h1 : (z1461 = 0 → p1 < 0 ∨ f_dm ≤ p1)) (h2 : 0 ≤ p1 ∧ p1 < f_dm) (h3 : ¬ z1461 = 0) (h4 : 0 ≤ f_dm ∧ f_dm ≤ 10) (h5 : 0 ≤ p1 ∧ p1 ≤ 9) (h6 : 1 ≤ z1461 ∧ z1461 ≤ 1) : ((400 * p1) + 1200) ≤ ((400 * p1) + 1200) ∧ ((400 * p1) + 1600) ≤ ((400 * p1) + 1600) := by omega
theorem vc_X12_rule_v_19 {f_dm p1 z1461 : Int} (h0 : (z1461 = 1 → 0 ≤ p1 ∧ p1 < f_dm)) (h1 : (z1461 = 0 → p1 < 0 ∨ f_dm ≤ p1)) (h2 : 0 ≤ p1 ∧ p1 < f_dm) (h3 : ¬ z1461 = 0) (h4 : 0 ≤ f_dm ∧ f_dm ≤ 10) (h5 : 0 ≤ p1 ∧ p1 ≤ 9) (h6 : 1 ≤ z1461 ∧ z1461 ≤ 1) : ((400 * p1) + 1600) ≤ 5200 ∨ 21200 ≤ ((400 * p1) + 1200) := by omega
theorem vc_X12_rule_v_21 {f_dm p1 z1461 : Int} (h0 : (z1461 = 1 → 0 ≤ p1 ∧ p1 < f_dm)) (h1 : (z1461 = 0 → p1 < 0 ∨ f_dm ≤ p1)) (h2 : 0 ≤ p1 ∧ p1 < f_dm) (h3 : ¬ z1461 = 0) (h4 : 0 ≤ f_dm ∧ f_dm ≤ 10) (h5 : 0 ≤ p1 ∧ p1 ≤ 9) (h6 : 1 ≤ z1461 ∧ z1461 ≤ 1) : 0 ≤ p1 := by omega
theorem vc_X12_rule_v_22 {f_dm p1 z1461 : Int} (h0 : (z1461 = 1 → 0 ≤ p1 ∧ p1 < f_dm)) (h1 : (z1461 = 0 → p1 < 0 ∨ f_dm ≤ p1)) (h2 : 0 ≤ p1 ∧ p1 < f_dm) (h3 : ¬ z1461 = 0) (h4 : 0 ≤ f_dm ∧ f_dm ≤ 10) (h5 : 0 ≤ p1 ∧ p1 ≤ 9) (h6 : 1 ≤ z1461 ∧ z1461 ≤ 1) : p1 < f_dm := by omega
theorem vc_X12_rule_v_27 {z2343 : Int} (h0 : 0 ≤ z2343 ∧ z2343 ≤ 6) : ((z2343 - 1) - (-2)) < ((8 : Nat) : Int) := by omega
theorem vc_X12_rule_v_32 {z2618 z2625 : Int} (h0 : z2625 = 0) (h1 : (z2625 = 1 → (1 : Int) ≤ z2618 ∧ z2618 ≤ (6 : Int))) (h2 : (z2625 = 0 → z2618 < (1 : Int) ∨ (6 : Int) < z2618)) (h3 : 0 ≤ z2618 ∧ z2618 ≤ 9) (h4 : 0 ≤ z2625 ∧ z2625 ≤ 1) : 0 ≤ z2625 ∧ z2625 ≤ 0 := by omega
theorem vc_X12_rule_v_33 {z2342 z2618 z2625 : Int} (h0 : (z2625 = 1 → (1 : Int) ≤ z2618 ∧ z2618 ≤ (6 : Int))) (h1 : (z2625 = 0 → z2618 < (1 : Int) ∨ (6 : Int) < z2618)) (h2 : z2625 = 0) (h3 : z2342 % 10 = z2618) (h4 : 1 ≤ z2342 ∧ z2342 ≤ 2147483647) (h5 : 0 ≤ z2618 ∧ z2618 ≤ 9) (h6 : 0 ≤ z2625 ∧ z2625 ≤ 0) : z2625 = 0 := by omega
theorem vc_X12_rule_v_34 {z2342 z2618 z2625 : Int} (h0 : 0 < z2342) (h1 : z2342 % 10 = z2618) (h2 : (z2625 = 1 → (1 : Int) ≤ z2618 ∧ z2618 ≤ (6 : Int))) (h3 : (z2625 = 0 → z2618 < (1 : Int) ∨ (6 : Int) < z2618)) (h4 : z2618 < (1 : Int) ∨ (6 : Int) < z2618) (h5 : 1 ≤ z2342 ∧ z2342 ≤ 2147483647) (h6 : 0 ≤ z2618 ∧ z2618 ≤ 9) (h7 : 0 ≤ z2625 ∧ z2625 ≤ 0) : 0 < z2342 := by omega
theorem vc_X12_rule_v_35 {z2342 z2618 z2625 : Int} (h0 : 0 < z2342) (h1 : z2342 % 10 = z2618) (h2 : (z2625 = 1 → (1 : Int) ≤ z2618 ∧ z2618 ≤ (6 : Int))) (h3 : (z2625 = 0 → z2618 < (1 : Int) ∨ (6 : Int) < z2618)) (h4 : z2618 < (1 : Int) ∨ (6 : Int) < z2618) (h5 : z2625 = 0) (h6 : 1 ≤ z2342 ∧ z2342 ≤ 2147483647) (h7 : 0 ≤ z2618 ∧ z2618 ≤ 9) (h8 : 0 ≤ z2625 ∧ z2625 ≤ 0) : z2342 % 10 = z2618 := by omega
theorem vc_X12_rule_v_36 {z2342 z2618 z2625 : Int} (h0 : z2342 % 10 = z2618) (h1 : (z2625 = 1 → (1 : Int) ≤ z2618 ∧ z2618 ≤ (6 : Int))) (h2 : (z2625 = 0 → z2618 < (1 : Int) ∨ (6 : Int) < z2618)) (h3 : z2618 < (1 : Int) ∨ (6 : Int) < z2618) (h4 : 0 < z2342) (h5 : z2625 = 0) (h6 : 1 ≤ z2342 ∧ z2342 ≤ 2147483647) (h7 : 0 ≤ z2618 ∧ z2618 ≤ 9) (h8 : 0 ≤ z2625 ∧ z2625 ≤ 0) : z2618 < 1 ∨ 6 < z2618 := by omega
theorem vc_X12_rule_v_37 {z2618 z2625 : Int} (h0 : ¬ z2625 = 0) (h1 : (z2625 = 1 → (1 : Int) ≤ z2618 ∧ z2618 ≤ (6 : Int))) (h2 : (z2625 = 0 → z2618 < (1 : Int) ∨ (6 : Int) < z2618)) (h3 : 0 ≤ z2618 ∧ z2618 ≤ 9) (h4 : 0 ≤ z2625 ∧ z2625 ≤ 1) : 1 ≤ z2625 ∧ z2625 ≤ 1 := by omega
theorem vc_X12_rule_v_38 {z2342 z2618 z2625 : Int} (h0 : (z2625 = 1 → (1 : Int) ≤ z2618 ∧ z2618 ≤ (6 : Int))) (h1 : (z2625 = 0 → z2618 < (1 : Int) ∨ (6 : Int) < z2618)) (h2 : ¬ z2625 = 0) (h3 : z2342 % 10 = z2618) (h4 : 1 ≤ z2342 ∧ z2342 ≤ 2147483647) (h5 : 0 ≤ z2618 ∧ z2618 ≤ 9) (h6 : 1 ≤ z2625 ∧ z2625 ≤ 1) : z2625 = 1 := by omega
theorem vc_X12_rule_v_39 {z2342 z2618 z2625 : Int} (h0 : (1 : Int) ≤ z2618 ∧ z2618 ≤ (6 : Int)) (h1 : z2342 % 10 = z2618) (h2 : (z2625 = 1 → (1 : Int) ≤ z2618 ∧ z2618 ≤ (6 : Int))) (h3 : (z2625 = 0 → z2618 < (1 : Int) ∨ (6 : Int) < z2618)) (h4 : 1 ≤ z2342 ∧ z2342 ≤ 2147483647) (h5 : 0 ≤ z2618 ∧ z2618 ≤ 9) (h6 : 1 ≤ z2625 ∧ z2625 ≤ 1) : 1 ≤ z2618 ∧ z2618 ≤ 6 := by omega
theorem vc_X12_rule_v_41 {z2635 : Int} (h0 : ¬ z2635 = 1) (h1 : 0 ≤ z2635 ∧ z2635 ≤ 0) : ¬ z2635 = 1 := by omega
theorem vc_X12_rule_v_42 {z2342 z2618 z2625 : Int} (h0 : z2342 % 10 = z2618) (h1 : (z2625 = 1 → (1 : Int) ≤ z2618 ∧ z2618 ≤ (6 : Int))) (h2 : (z2625 = 0 → z2618 < (1 : Int) ∨ (6 : Int) < z2618)) (h3 : (1 : Int) ≤ z2618 ∧ z2618 ≤ (6 : Int)) (h4 : 0 < z2342) (h5 : ¬ z2625 = 0) (h6 : 1 ≤ z2342 ∧ z2342 ≤ 2147483647) (h7 : 1 ≤ z2618 ∧ z2618 ≤ 6) (h8 : 1 ≤ z2625 ∧ z2625 ≤ 1) : 1 ≤ z2618 ∧ z2618 ≤ 6 := by omega
theorem vc_X12_rule_v_44 {N z2342 z2618 z2625 z2650 : Int} (h0 : z2342 < N + 1) (h1 : 0 < z2342) (h2 : z2342 % 10 = z2618) (h3 : z2342 / 10 = z2650) (h4 : (z2625 = 1 → (1 : Int) ≤ z2618 ∧ z2618 ≤ (6 : Int))) (h5 : (z2625 = 0 → z2618 < (1 : Int) ∨ (6 : Int) < z2618)) (h6 : (1 : Int) ≤ z2618 ∧ z2618 ≤ (6 : Int)) (h7 : 1 ≤ z2342 ∧ z2342 ≤ 2147483647) (h8 : 1 ≤ z2618 ∧ z2618 ≤ 6) (h9 : 1 ≤ z2625 ∧ z2625 ≤ 1) (h10 : 0 ≤ z2650 ∧ z2650 ≤ 214748364) : z2650 < N := by omega
theorem vc_X12_rule_v_45 {z2342 z2618 z2625 z2650 : Int} (h0 : 0 < z2342) (h1 : z2342 % 10 = z2618) (h2 : z2342 / 10 = z2650) (h3 : (z2625 = 1 → (1 : Int) ≤ z2618 ∧ z2618 ≤ (6 : Int))) (h4 : (z2625 = 0 → z2618 < (1 : Int) ∨ (6 : Int) < z2618)) (h5 : (1 : Int) ≤ z2618 ∧ z2618 ≤ (6 : Int)) (h6 : 1 ≤ z2342 ∧ z2342 ≤ 2147483647) (h7 : 1 ≤ z2618 ∧ z2618 ≤ 6) (h8 : 1 ≤ z2625 ∧ z2625 ≤ 1) (h9 : 0 ≤ z2650 ∧ z2650 ≤ 214748364) : 0 < z2342 := by omega
theorem vc_X12_rule_v_46 {z2342 z2618 z2625 z2650 : Int} (h0 : 0 < z2342) (h1 : z2342 % 10 = z2618) (h2 : (z2625 = 1 → (1 : Int) ≤ z2618 ∧ z2618 ≤ (6 : Int))) (h3 : (z2625 = 0 → z2618 < (1 : Int) ∨ (6 : Int) < z2618)) (h4 : (1 : Int) ≤ z2618 ∧ z2618 ≤ (6 : Int)) (h5 : z2342 / 10 = z2650) (h6 : ¬ z2625 = 0) (h7 : 1 ≤ z2342 ∧ z2342 ≤ 2147483647) (h8 : 1 ≤ z2618 ∧ z2618 ≤ 6) (h9 : 1 ≤ z2625 ∧ z2625 ≤ 1) (h10 : 0 ≤ z2650 ∧ z2650 ≤ 214748364) : z2342 % 10 = z2618 := by omega
theorem vc_X12_rule_v_47 {z2342 z2618 z2625 z2650 : Int} (h0 : z2342 % 10 = z2618) (h1 : (z2625 = 1 → (1 : Int) ≤ z2618 ∧ z2618 ≤ (6 : Int))) (h2 : (z2625 = 0 → z2618 < (1 : Int) ∨ (6 : Int) < z2618)) (h3 : (1 : Int) ≤ z2618 ∧ z2618 ≤ (6 : Int)) (h4 : 0 < z2342) (h5 : ¬ z2625 = 0) (h6 : z2342 / 10 = z2650) (h7 : 1 ≤ z2342 ∧ z2342 ≤ 2147483647) (h8 : 1 ≤ z2618 ∧ z2618 ≤ 6) (h9 : 1 ≤ z2625 ∧ z2625 ≤ 1) (h10 : 0 ≤ z2650 ∧ z2650 ≤ 214748364) : 1 ≤ z2618 ∧ z2618 ≤ 6 := by omega
theorem vc_X12_rule_v_48 {z2635 : Int} (h0 : ¬ z2635 = 1) (h1 : 0 ≤ z2635 ∧ z2635 ≤ 0) : z2635 = 0 := by omega
theorem vc_X12_rule_v_49 {z2342 z2618 z2625 z2650 : Int} (h0 : 0 < z2342) (h1 : z2342 % 10 = z2618) (h2 : z2342 / 10 = z2650) (h3 : (z2625 = 1 → (1 : Int) ≤ z2618 ∧ z2618 ≤ (6 : Int))) (h4 : (z2625 = 0 → z2618 < (1 : Int) ∨ (6 : Int) < z2618)) (h5 : (1 : Int) ≤ z2618 ∧ z2618 ≤ (6 : Int)) (h6 : 1 ≤ z2342 ∧ z2342 ≤ 2147483647) (h7 : 1 ≤ z2618 ∧ z2618 ≤ 6) (h8 : 1 ≤ z2625 ∧ z2625 ≤ 1) (h9 : 0 ≤ z2650 ∧ z2650 ≤ 214748364) : z2342 / 10 = z2650 := by omega
theorem vc_X12_rule_v_51 {z2342 z2618 z2625 : Int} (h0 : 0 < z2342) (h1 : z2342 % 10 = z2618) (h2 : (z2625 = 1 → (1 : Int) ≤ z2618 ∧ z2618 ≤ (6 : Int))) (h3 : (z2625 = 0 → z2618 < (1 : Int) ∨ (6 : Int) < z2618)) (h4 : (1 : Int) ≤ z2618 ∧ z2618 ≤ (6 : Int)) (h5 : 1 ≤ z2342 ∧ z2342 ≤ 2147483647) (h6 : 1 ≤ z2618 ∧ z2618 ≤ 6) (h7 : 1 ≤ z2625 ∧ z2625 ≤ 1) : 0 < z2342 := by omega
theorem vc_X12_rule_v_52 {z2342 z2618 z2625 : Int} (h0 : 0 < z2342) (h1 : z2342 % 10 = z2618) (h2 : (z2625 = 1 → (1 : Int) ≤ z2618 ∧ z2618 ≤ (6 : Int))) (h3 : (z2625 = 0 → z2618 < (1 : Int) ∨ (6 : Int) < z2618)) (h4 : (1 : Int) ≤ z2618 ∧ z2618 ≤ (6 : Int)) (h5 : ¬ z2625 = 0) (h6 : 1 ≤ z2342 ∧ z2342 ≤ 2147483647) (h7 : 1 ≤ z2618 ∧ z2618 ≤ 6) (h8 : 1 ≤ z2625 ∧ z2625 ≤ 1) : z2342 % 10 = z2618 := by omega
theorem vc_X12_rule_v_53 {z2635 : Int} (h0 : z2635 = 1) (h1 : 1 ≤ z2635 ∧ z2635 ≤ 1) : ¬ z2635 = 0 := by omega
set_option maxRecDepth 4000 in
set_option maxHeartbeats 4000000 in
theorem c_X12_rule_v {l : Launch} {D : va_G} {c : Nat → ClassId} {H0 : Heap} {sa : Nat × Nat × (Nat → Int32)} {w : mW} {μ : mM} (hw : mWF w) (hT : mT w μ) {p1 : Int} (hp1 : (-2147483648) ≤ p1 ∧ p1 ≤ 2147483647) {p2 : Int} (hp2 : (-2147483648) ≤ p2 ∧ p2 ≤ 2147483647) {p3 : Int} (hp3 : 0 ≤ p3 ∧ p3 ≤ 1) {f_dm : Int} (q_f_dm : μ 106 5 = f_dm) (hIJC : JC l D c H0 sa μ) (hIRP : RP μ) (hIEP : EP μ) (hIHP : HP μ) (hIUP : UP l D c H0 sa μ) (hIG1 : G1 μ) (hIEV : EV μ) (hIPK : PK μ) : sC (gG l D c H0 sa) mX12_rule 12 0 0 [.ref 106, iv p1, iv p2, iv p3] (mk w μ) (qI w [106026, 106027, 106028, 106029, 106030, 106031, 106072, 126999, 151999, 152999, 153999, 155999, 156999, 157999, 158999, 159999, 160999, 161999, 163999, 164999, 165999] μ (fun z μ1 => ((-2147483648) ≤ z ∧ z ≤ 2147483647) ∧ JC l D c H0 sa μ1 ∧ RP μ1 ∧ EP μ1 ∧ HP μ1 ∧ UP l D c H0 sa μ1 ∧ G1 μ1 ∧ EV μ1 ∧ (rlA f_dm p1 p2 z) ∧ True)) := by
  refine sC.of rfl (by decide) (le_t rfl) ?_
  have ht_f_dm : (0 ≤ f_dm ∧ f_dm ≤ 10) := by rw [← q_f_dm]; exact hT 106 106 (A_106 hw) 5
  refine mr_lvE (lv' := [(0, .ref 106), (1, iv p1), (2, iv p2), (3, iv p3)]) rfl ?_
  refine sv_aload_n (pc := 0) dX12_rule_0 rfl rfl ?_
  refine mr_iload_n (pc := 1) (z := p1) dX12_rule_1 rfl rfl ?_
  refine mr_cVP (pc := 2) (c_X12_isDomain hw hT hp1 q_f_dm) (gOk _ _ _ _ _) dX12_rule_2 (tX12_isDomain _ _ _ _ _) ⟨wV_X12_isDomain, wL_X12_isDomain⟩ wM_X12_49 (gCX12 _ _ _ _ _) rfl (A_106 hw) rfl ⟨le_t rfl, le_t rfl⟩ ⟨le_t rfl, le_t rfl⟩ rfl (le_t rfl) fun z1461 h1460 => ?_
  refine mr_if_eq (pc := 5) (tgt := 12) dX12_rule_5 (by decide) (r32 h1460.1 rfl) (fun h1462 => ?_) (fun h1462 => ?_)
  · have h1463 : 0 ≤ z1461 ∧ z1461 ≤ 0 := (vc_X11_rule_v_1 h1462 h1460.2.1 h1460.2.2.1 ht_f_dm hp1 h1460.1)
    have h1464 : p1 < 0 ∨ f_dm ≤ p1 := (h1460.2.2.1 (vc_X12_rule_v_2 h1460.2.1 h1460.2.2.1 h1462 ht_f_dm hp1 h1463))
    refine mr_iconst (pc := 12) (z := (-1)) dX12_rule_12 ?_
    exact mr_iret dX12_rule_13 rfl (le_t rfl) (le_t rfl) hT mF.refl ⟨(rW (c := (-2147483648)) (d := 2147483647) (rR (x := (-1))) rfl), hIJC, hIRP, hIEP, hIHP, hIUP, hIG1, hIEV, (Or.inl ⟨(by have h : p1 < 0 ∨ f_dm ≤ p1 := (vc_X12_rule_v_3 h1460.2.1 h1460.2.2.1 h1464 h1462 ht_f_dm hp1 h1463); exact h.elim Or.inl fun h => Or.inr (Or.inl h)), rfl⟩), trivial⟩
  have h1465 : 1 ≤ z1461 ∧ z1461 ≤ 1 := (vc_X11_rule_v_4 h1462 h1460.2.1 h1460.2.2.1 ht_f_dm hp1 h1460.1)
  have h1466 : 0 ≤ p1 ∧ p1 < f_dm := (h1460.2.1 (vc_X12_rule_v_5 h1460.2.1 h1460.2.2.1 h1462 ht_f_dm hp1 h1465))
  have h1467 : 0 ≤ p1 ∧ p1 ≤ 9 := (vc_X12_rule_v_6 h1466 h1460.2.1 h1460.2.2.1 ht_f_dm hp1 h1465)
  refine mr_iload_n (pc := 8) (z := p2) dX12_rule_8 rfl rfl ?_
  refine mr_if_ge (pc := 9) (tgt := 14) dX12_rule_9 (by decide) hp2 (fun h1468 => ?_) (fun h1468 => ?_)
  · have h1469 : 0 ≤ p2 ∧ p2 ≤ 2147483647 := (vc_X12_cut_2 h1468 hp2)
    refine mr_iconst (pc := 14) (z := 0) dX12_rule_14 ?_
    refine mr_istore (pc := 15) (lv' := [(4, iv 0), (0, .ref 106), (1, iv p1), (2, iv p2), (3, iv p3)]) dX12_rule_15 (by decide) rfl ?_
    refine mr_iconst (pc := 17) (z := 0) dX12_rule_17 ?_
    refine mr_istore (pc := 18) (lv' := [(5, iv 0), (4, iv 0), (0, .ref 106), (1, iv p1), (2, iv p2), (3, iv p3)]) dX12_rule_18 (by decide) rfl ?_
    refine mr_iload_n (pc := 20) (z := p2) dX12_rule_20 rfl rfl ?_
    refine mr_istore (pc := 21) (lv' := [(6, iv p2), (5, iv 0), (4, iv 0), (0, .ref 106), (1, iv p1), (2, iv p2), (3, iv p3)]) dX12_rule_21 (by decide) rfl ?_
    have L2345 : ∀ (nL2345 : Nat) (z2344 z2343 z2342 : Int), True → (0 ≤ z2344 ∧ z2344 ≤ 126) → (0 ≤ z2343 ∧ z2343 ≤ 6) → (0 ≤ z2342 ∧ z2342 ≤ 2147483647) → sOK z2344 z2343 → (rlK 0 p2 ↔ rlK z2344 z2342) → z2342 < (nL2345 : Int) → sV (gG l D c H0 sa) mX12_rule (sRm 12 0 0) (sZ (gG l D c H0 sa) 0 0 (qI w [106026, 106027, 106028, 106029, 106030, 106031, 106072, 126999, 151999, 152999, 153999, 155999, 156999, 157999, 158999, 159999, 160999, 161999, 163999, 164999, 165999] μ (fun z μ1 => ((-2147483648) ≤ z ∧ z ≤ 2147483647) ∧ JC l D c H0 sa μ1 ∧ RP μ1 ∧ EP μ1 ∧ HP μ1 ∧ UP l D c H0 sa μ1 ∧ G1 μ1 ∧ EV μ1 ∧ (rlA f_dm p1 p2 z) ∧ True))) 23 [(0, .ref 106), (1, iv p1), (2, iv p2), (3, iv p3), (4, iv z2344), (5, iv z2343), (6, iv z2342)] [] (mk w μ) 0 0 := by
      intro nL2345
      induction nL2345 with
      | zero => intro z2344 z2343 z2342 _ h2346 h2347 h2348 R2352 R2353 h2354; exact ((vc_X11_isRule_v_2 h2354 h2348)).elim
      | succ nL2345 ih2355 =>
        intro z2344 z2343 z2342 _ h2346 h2347 h2348 R2352 R2353 h2354
        refine mr_iload (pc := 23) (z := z2342) dX12_rule_23 rfl ?_
        refine mr_if_le (pc := 25) (tgt := 81) dX12_rule_25 (by decide) (r32 h2348 rfl) (fun h2356 => ?_) (fun h2356 => ?_)
        · have h2357 : 0 ≤ z2342 ∧ z2342 ≤ 0 := (vc_X11_isRule_v_3 h2356 h2348)
          refine mr_iconst (pc := 81) (z := 0) dX12_rule_81 ?_
          refine mr_istore (pc := 82) (lv' := [(6, iv 0), (0, .ref 106), (1, iv p1), (2, iv p2), (3, iv p3), (4, iv z2344), (5, iv z2343)]) dX12_rule_82 (by decide) rfl ?_
          have L2490 : ∀ (nL2490 : Nat) (z2488 : Int) (μ2489 : mM), mT w μ2489 → mF [163999] w μ μ2489 → (0 ≤ z2488 ∧ z2488 ≤ 6) → JC l D c H0 sa μ2489 → RP μ2489 → EP μ2489 → HP μ2489 → UP l D c H0 sa μ2489 → G1 μ2489 → EV μ2489 → PK μ2489 → (7 - z2488) < (nL2490 : Int) → sV (gG l D c H0 sa) mX12_rule (sRm 12 0 0) (sZ (gG l D c H0 sa) 0 0 (qI w [106026, 106027, 106028, 106029, 106030, 106031, 106072, 126999, 151999, 152999, 153999, 155999, 156999, 157999, 158999, 159999, 160999, 161999, 163999, 164999, 165999] μ (fun z μ1 => ((-2147483648) ≤ z ∧ z ≤ 2147483647) ∧ JC l D c H0 sa μ1 ∧ RP μ1 ∧ EP μ1 ∧ HP μ1 ∧ UP l D c H0 sa μ1 ∧ G1 μ1 ∧ EV μ1 ∧ (rlA f_dm p1 p2 z) ∧ True))) 84 [(0, .ref 106), (1, iv p1), (2, iv p2), (3, iv p3), (5, iv z2343), (6, iv z2488)] [] (mk w μ2489) 0 0 := by
            intro nL2490
            induction nL2490 with
            | zero => intro z2488 μ2489 T2492 F2493 h2491 I2495 I2496 I2497 I2498 I2499 I2500 I2501 I2502 h2503; exact ((vc_X12_same_14 h2503 h2491)).elim
            | succ nL2490 ih2504 =>
              intro z2488 μ2489 T2492 F2493 h2491 I2495 I2496 I2497 I2498 I2499 I2500 I2501 I2502 h2503
              refine mr_iload (pc := 84) (z := z2488) dX12_rule_84 rfl ?_
              refine mr_bipush (pc := 86) (z := 6) dX12_rule_86 (by decide) ?_
              refine mr_icmp_ge (pc := 88) (tgt := 110) dX12_rule_88 (by decide) (r32 h2491 rfl) (r32 (rR (x := 6)) rfl) (fun h2510 => ?_) (fun h2510 => ?_)
              · have h2511 : 6 ≤ z2488 ∧ z2488 ≤ 6 := (vc_X12_same_15 h2510 h2491)
                refine mr_iload_n (pc := 110) (z := p2) dX12_rule_110 rfl rfl ?_
                refine mr_istore (pc := 111) (lv' := [(6, iv p2), (0, .ref 106), (1, iv p1), (2, iv p2), (3, iv p3), (5, iv z2343)]) dX12_rule_111 (by decide) rfl ?_
                refine mr_iload (pc := 113) (z := z2343) dX12_rule_113 rfl ?_
                refine mr_iconst (pc := 115) (z := 1) dX12_rule_115 ?_
                refine mr_isub (pc := 116) (x := z2343) (y := 1) dX12_rule_116 ?_
                refine mr_istore (pc := 117) (lv' := [(7, iv (z2343 - 1)), (6, iv p2), (0, .ref 106), (1, iv p1), (2, iv p2), (3, iv p3), (5, iv z2343)]) dX12_rule_117 (by decide) rfl ?_
                have L2563 : ∀ (nL2563 : Nat) (z2561 z2560 : Int) (μ2562 : mM), mT w μ2562 → mF [163999] w μ2489 μ2562 → (0 ≤ z2561 ∧ z2561 ≤ 2147483647) → ((-1) ≤ z2560 ∧ z2560 ≤ 5) → JC l D c H0 sa μ2562 → RP μ2562 → EP μ2562 → HP μ2562 → UP l D c H0 sa μ2562 → G1 μ2562 → EV μ2562 → PK μ2562 → (z2560 - (-2)) < (nL2563 : Int) → sV (gG l D c H0 sa) mX12_rule (sRm 12 0 0) (sZ (gG l D c H0 sa) 0 0 (qI w [106026, 106027, 106028, 106029, 106030, 106031, 106072, 126999, 151999, 152999, 153999, 155999, 156999, 157999, 158999, 159999, 160999, 161999, 163999, 164999, 165999] μ (fun z μ1 => ((-2147483648) ≤ z ∧ z ≤ 2147483647) ∧ JC l D c H0 sa μ1 ∧ RP μ1 ∧ EP μ1 ∧ HP μ1 ∧ UP l D c H0 sa μ1 ∧ G1 μ1 ∧ EV μ1 ∧ (rlA f_dm p1 p2 z) ∧ True))) 119 [(0, .ref 106), (1, iv p1), (3, iv p3), (6, iv z2561), (7, iv z2560)] [] (mk w μ2562) 0 0 := by
                  intro nL2563
                  induction nL2563 with
                  | zero => intro z2561 z2560 μ2562 T2566 F2567 h2564 h2565 I2569 I2570 I2571 I2572 I2573 I2574 I2575 I2576 h2577; exact ((vc_X0_goBy_3 h2577 h2565)).elim
                  | succ nL2563 ih2578 =>
                    intro z2561 z2560 μ2562 T2566 F2567 h2564 h2565 I2569 I2570 I2571 I2572 I2573 I2574 I2575 I2576 h2577
                    refine mr_iload (pc := 119) (z := z2560) dX12_rule_119 rfl ?_
                    refine mr_if_lt (pc := 121) (tgt := 154) dX12_rule_121 (by decide) (r32 h2565 rfl) (fun h2590 => ?_) (fun h2590 => ?_)
                    · have h2591 : (-1) ≤ z2560 ∧ z2560 ≤ (-1) := (vc_X0_goBy_4 h2590 h2565)
                      refine sv_aload_n (pc := 154) dX12_rule_154 rfl rfl ?_
                      refine gf_X12_84 (pc := 155) dX12_rule_155 wF_X12_454 (A_106 hw) T2566 ?_
                      refine mr_iload_n (pc := 158) (z := p1) dX12_rule_158 rfl rfl ?_
                      refine mr_iload_n (pc := 159) (z := p3) dX12_rule_159 rfl rfl ?_
                      refine ss_164 (pc := 160) dX12_rule_160 (A_164 hw) T2566 (rIx (n := 10) h1467 rfl) hp3 fun μ2592 u2593 T2594 => ?_
                      refine sv_aload_n (pc := 161) dX12_rule_161 rfl rfl ?_
                      refine mr_iload_n (pc := 162) (z := p1) dX12_rule_162 rfl rfl ?_
                      obtain ⟨z2595, q2596⟩ : ∃ z, μ2592 106 2 = z := ⟨_, rfl⟩
                      have h2597 : (0 ≤ z2595 ∧ z2595 ≤ 10) := by rw [← q2596]; exact T2594 106 106 (A_106 hw) 2
                      refine mr_cVV (pc := 163) (c_X12_lookAll_u hw T2594 h1467 q2596 (JC.keepJ I2569 hw ((mF.up mF.refl (A_164 hw) u2593 rfl) : mF [164999] w μ2562 μ2592) rfl) (RP.keep I2570 hw ((mF.up mF.refl (A_164 hw) u2593 rfl) : mF [164999] w μ2562 μ2592) rfl ((mG.upO mG.refl u2593 rfl) : mG [] μ2562 μ2592) (fun _ h => absurd h List.not_mem_nil)) (EP.keep I2571 hw ((mF.up mF.refl (A_164 hw) u2593 rfl) : mF [164999] w μ2562 μ2592) rfl) (G1.keep I2574 hw ((mF.up mF.refl (A_164 hw) u2593 rfl) : mF [164999] w μ2562 μ2592) rfl rfl ((mG.upO mG.refl u2593 rfl) : mG [] μ2562 μ2592) (fun _ h => absurd h List.not_mem_nil)) (EV.keep I2575 hw ((mF.up mF.refl (A_164 hw) u2593 rfl) : mF [164999] w μ2562 μ2592) rfl) (PK.keep I2576 hw ((mF.up mF.refl (A_164 hw) u2593 rfl) : mF [164999] w μ2562 μ2592) rfl)) (gOk _ _ _ _ _) dX12_rule_163 (tX12_lookAll _ _ _ _ _) ⟨wV_X12_lookAll, wL_X12_lookAll⟩ wM_X12_600 (gCX12 _ _ _ _ _) rfl (A_106 hw) rfl ⟨le_t rfl, le_t rfl⟩ ⟨le_t rfl, le_t rfl⟩ rfl (le_t rfl) fun μ2598 T2599 F2600 h2601 => ?_
                      have I2602 : UP l D c H0 sa μ2598 := UPg.lookAll (UPg.fr I2573 hw T2594 rfl ((mF.up mF.refl (A_164 hw) u2593 rfl) : mF [164999] w μ2562 μ2592) rfl rfl rfl ((mG.upO mG.refl u2593 rfl) : mG [] μ2562 μ2592) (fun _ h => absurd h List.not_mem_nil)) (fun _ _ h => h.elim) h1467 q2596 hw T2594 rfl rfl ((mF.call mF.refl F2600 rfl) : mF [106026, 106027, 106028, 106029, 106030, 106031, 106072, 126999, 151999, 152999, 153999, 155999, 156999, 157999, 158999, 159999, 160999, 161999, 165999] w μ2592 μ2598) rfl rfl rfl ((mG.call mG.refl h2601.1 (List.forall_mem_cons.mpr ⟨⟨_, List.mem_cons_self, vc_X12_look_u_35⟩, (List.forall_mem_cons.mpr ⟨⟨_, (List.mem_cons_of_mem _ List.mem_cons_self), (vc_X12_rule_v_16 h1460.2.1 h1460.2.2.1 h1466 h1462 ht_f_dm h1467 h1465)⟩, (List.forall_mem_cons.mpr ⟨⟨_, (List.mem_cons_of_mem _ (List.mem_cons_of_mem _ List.mem_cons_self)), vc_X12_say_u_34⟩, (fun _ h => absurd h List.not_mem_nil)⟩)⟩)⟩)) : mG [(80, 960), (((400 * p1) + 1200), ((400 * p1) + 1600)), (21200, 53200)] μ2592 μ2598) (List.forall_mem_cons.mpr ⟨vc_X12_lookAll_u_14, (List.forall_mem_cons.mpr ⟨(vc_X12_rule_v_19 h1460.2.1 h1460.2.2.1 h1466 h1462 ht_f_dm h1467 h1465), (List.forall_mem_cons.mpr ⟨vc_X12_look_u_55, (fun _ h => absurd h List.not_mem_nil)⟩)⟩)⟩) h2601.2.2.2.2.2.2.2.1 h2601.2.2.2.2.2.2.1
                      refine mr_iconst (pc := 166) (z := 0) dX12_rule_166 ?_
                      exact mr_iret dX12_rule_167 rfl (le_t rfl) (le_t rfl) T2599 (mF.call (mF.up (mF.call (mF.call mF.refl F2493 rfl) F2567 rfl) (A_164 hw) u2593 rfl) F2600 rfl) ⟨(rW (c := (-2147483648)) (d := 2147483647) (rR (x := 0)) rfl), h2601.2.1, h2601.2.2.1, h2601.2.2.2.1, (HP.keep I2572 hw ((mF.call (mF.up mF.refl (A_164 hw) u2593 rfl) F2600 rfl) : mF [106026, 106027, 106028, 106029, 106030, 106031, 106072, 126999, 151999, 152999, 153999, 155999, 156999, 157999, 158999, 159999, 160999, 161999, 164999, 165999] w μ2562 μ2598) rfl ((mG.call (mG.upO mG.refl u2593 rfl) h2601.1 (List.forall_mem_cons.mpr ⟨⟨_, List.mem_cons_self, vc_X12_look_u_35⟩, (List.forall_mem_cons.mpr ⟨⟨_, (List.mem_cons_of_mem _ List.mem_cons_self), (vc_X12_rule_v_16 h1460.2.1 h1460.2.2.1 h1466 h1462 ht_f_dm h1467 h1465)⟩, (List.forall_mem_cons.mpr ⟨⟨_, (List.mem_cons_of_mem _ (List.mem_cons_of_mem _ List.mem_cons_self)), vc_X12_say_u_34⟩, (fun _ h => absurd h List.not_mem_nil)⟩)⟩)⟩)) : mG [(80, 960), (((400 * p1) + 1200), ((400 * p1) + 1600)), (21200, 53200)] μ2562 μ2598) (List.forall_mem_cons.mpr ⟨vc_X12_lookAll_u_14, (List.forall_mem_cons.mpr ⟨(vc_X12_rule_v_19 h1460.2.1 h1460.2.2.1 h1466 h1462 ht_f_dm h1467 h1465), (List.forall_mem_cons.mpr ⟨vc_X12_look_u_55, (fun _ h => absurd h List.not_mem_nil)⟩)⟩)⟩)), I2602, h2601.2.2.2.2.1, h2601.2.2.2.2.2.1, (Or.inr ⟨⟨(vc_X12_rule_v_21 h1460.2.1 h1460.2.2.1 h1466 h1462 ht_f_dm h1467 h1465), (vc_X12_rule_v_22 h1460.2.1 h1460.2.2.1 h1466 h1462 ht_f_dm h1467 h1465), (vc_X11_isRule_v_5 h1468 h1469), (R2353.mpr (rlK.zero (vc_X12_pick_u_50 h2356 h2357)))⟩, rfl⟩), trivial⟩
                    have h2603 : 0 ≤ z2560 ∧ z2560 ≤ 5 := (vc_X0_goBy_5 h2590 h2565)
                    refine sv_aload_n (pc := 124) dX12_rule_124 rfl rfl ?_
                    refine gf_X12_83 (pc := 125) dX12_rule_125 wF_X12_451 (A_106 hw) T2566 ?_
                    refine mr_bipush (pc := 128) (z := 6) dX12_rule_128 (by decide) ?_
                    refine mr_iload_n (pc := 130) (z := p1) dX12_rule_130 rfl rfl ?_
                    refine mr_imul (pc := 131) (x := 6) (y := p1) dX12_rule_131 ?_
                    refine mr_iload (pc := 132) (z := z2560) dX12_rule_132 rfl ?_
                    refine mr_iadd (pc := 134) (x := (6 * p1)) (y := z2560) dX12_rule_134 ?_
                    refine mr_iload (pc := 135) (z := z2561) dX12_rule_135 rfl ?_
                    refine mr_bipush (pc := 137) (z := 10) dX12_rule_137 (by decide) ?_
                    refine mr_irem (pc := 139) (x := z2561) (y := 10) dX12_rule_139 h2564 vc_X0_goBy_6 ?_
                    refine mr_gen (P := fun z => 0 ≤ z ∧ z ≤ 9) (rMod h2564 rfl) fun z2604 q2605 h2606 => ?_
                    refine ss_163 (pc := 140) dX12_rule_140 (A_163 hw) T2566 (rIx (n := 60) (rAdd (e := 0) (f := 59) (rMulL (n := 6) (e := 0) (f := 54) h1467 rfl) h2603 rfl) rfl) h2606 fun μ2607 u2608 T2609 => ?_
                    refine mr_iload (pc := 141) (z := z2561) dX12_rule_141 rfl ?_
                    refine mr_bipush (pc := 143) (z := 10) dX12_rule_143 (by decide) ?_
                    refine mr_idiv (pc := 145) (x := z2561) (y := 10) dX12_rule_145 h2564 vc_X0_goBy_6 ?_
                    refine mr_gen (P := fun z => 0 ≤ z ∧ z ≤ 214748364) (rDiv h2564 rfl) fun z2610 q2611 h2612 => ?_
                    refine mr_istore (pc := 146) (lv' := [(6, iv z2610), (0, .ref 106), (1, iv p1), (3, iv p3), (7, iv z2560)]) dX12_rule_146 (by decide) rfl ?_
                    refine mr_iinc (pc := 148) (lv' := [(7, iv (z2560 + (-1))), (6, iv z2610), (0, .ref 106), (1, iv p1), (3, iv p3)]) dX12_rule_148 rfl (by decide) rfl ?_
                    refine sv_goto (pc := 151) (tgt := 119) dX12_rule_151 (by decide) ?_
                    refine mr_lvS (lv' := [(0, .ref 106), (1, iv p1), (3, iv p3), (6, iv z2610), (7, iv (z2560 + (-1)))]) (List.forall_mem_cons.mpr ⟨rfl, List.forall_mem_cons.mpr ⟨rfl, List.forall_mem_cons.mpr ⟨rfl, List.forall_mem_cons.mpr ⟨rfl, List.forall_mem_cons.mpr ⟨rfl, fun _ h => absurd h List.not_mem_nil⟩⟩⟩⟩⟩) ?_
                    exact ih2578 z2610 (z2560 + (-1)) μ2607 T2609 (mF.up (mF.call mF.refl F2567 rfl) (A_163 hw) u2608 rfl) (rW (c := 0) (d := 2147483647) h2612 rfl) (rW (c := (-1)) (d := 5) (rAdd (e := (-1)) (f := 4) h2603 (rR (x := (-1))) rfl) rfl) (JC.keepJ I2569 hw ((mF.up mF.refl (A_163 hw) u2608 rfl) : mF [163999] w μ2562 μ2607) rfl) (RP.keep I2570 hw ((mF.up mF.refl (A_163 hw) u2608 rfl) : mF [163999] w μ2562 μ2607) rfl ((mG.upO mG.refl u2608 rfl) : mG [] μ2562 μ2607) (fun _ h => absurd h List.not_mem_nil)) (EP.keep I2571 hw ((mF.up mF.refl (A_163 hw) u2608 rfl) : mF [163999] w μ2562 μ2607) rfl) (HP.keep I2572 hw ((mF.up mF.refl (A_163 hw) u2608 rfl) : mF [163999] w μ2562 μ2607) rfl ((mG.upO mG.refl u2608 rfl) : mG [] μ2562 μ2607) (fun _ h => absurd h List.not_mem_nil)) (UPg.fr I2573 hw T2609 rfl ((mF.up mF.refl (A_163 hw) u2608 rfl) : mF [163999] w μ2562 μ2607) rfl rfl rfl ((mG.upO mG.refl u2608 rfl) : mG [] μ2562 μ2607) (fun _ h => absurd h List.not_mem_nil)) (G1.keep I2574 hw ((mF.up mF.refl (A_163 hw) u2608 rfl) : mF [163999] w μ2562 μ2607) rfl rfl ((mG.upO mG.refl u2608 rfl) : mG [] μ2562 μ2607) (fun _ h => absurd h List.not_mem_nil)) (EV.keep I2575 hw ((mF.up mF.refl (A_163 hw) u2608 rfl) : mF [163999] w μ2562 μ2607) rfl) (PK.keep I2576 hw ((mF.up mF.refl (A_163 hw) u2608 rfl) : mF [163999] w μ2562 μ2607) rfl) (vc_X0_goBy_7 (nS h2577) h2590 h2603)
                refine mr_lvS (lv' := [(0, .ref 106), (1, iv p1), (3, iv p3), (6, iv p2), (7, iv (z2343 - 1))]) (List.forall_mem_cons.mpr ⟨rfl, List.forall_mem_cons.mpr ⟨rfl, List.forall_mem_cons.mpr ⟨rfl, List.forall_mem_cons.mpr ⟨rfl, List.forall_mem_cons.mpr ⟨rfl, fun _ h => absurd h List.not_mem_nil⟩⟩⟩⟩⟩) ?_
                exact L2563 8 p2 (z2343 - 1) μ2489 T2492 mF.refl h1469 (rSub (e := (-1)) (f := 5) h2347 (rR (x := 1)) rfl) I2495 I2496 I2497 I2498 I2499 I2500 I2501 I2502 (vc_X12_rule_v_27 h2347)
              have h2613 : 0 ≤ z2488 ∧ z2488 ≤ 5 := (vc_X12_same_40 h2510 h2491)
              refine sv_aload_n (pc := 91) dX12_rule_91 rfl rfl ?_
              refine gf_X12_83 (pc := 92) dX12_rule_92 wF_X12_451 (A_106 hw) T2492 ?_
              refine mr_bipush (pc := 95) (z := 6) dX12_rule_95 (by decide) ?_
              refine mr_iload_n (pc := 97) (z := p1) dX12_rule_97 rfl rfl ?_
              refine mr_imul (pc := 98) (x := 6) (y := p1) dX12_rule_98 ?_
              refine mr_iload (pc := 99) (z := z2488) dX12_rule_99 rfl ?_
              refine mr_iadd (pc := 101) (x := (6 * p1)) (y := z2488) dX12_rule_101 ?_
              refine mr_iconst (pc := 102) (z := 0) dX12_rule_102 ?_
              refine ss_163 (pc := 103) dX12_rule_103 (A_163 hw) T2492 (rIx (n := 60) (rAdd (e := 0) (f := 59) (rMulL (n := 6) (e := 0) (f := 54) h1467 rfl) h2613 rfl) rfl) (rW (c := 0) (d := 9) (rR (x := 0)) rfl) fun μ2614 u2615 T2616 => ?_
              refine mr_iinc (pc := 104) (lv' := [(6, iv (z2488 + 1)), (0, .ref 106), (1, iv p1), (2, iv p2), (3, iv p3), (5, iv z2343)]) dX12_rule_104 rfl (by decide) rfl ?_
              refine sv_goto (pc := 107) (tgt := 84) dX12_rule_107 (by decide) ?_
              refine mr_lvS (lv' := [(0, .ref 106), (1, iv p1), (2, iv p2), (3, iv p3), (5, iv z2343), (6, iv (z2488 + 1))]) (List.forall_mem_cons.mpr ⟨rfl, List.forall_mem_cons.mpr ⟨rfl, List.forall_mem_cons.mpr ⟨rfl, List.forall_mem_cons.mpr ⟨rfl, List.forall_mem_cons.mpr ⟨rfl, List.forall_mem_cons.mpr ⟨rfl, fun _ h => absurd h List.not_mem_nil⟩⟩⟩⟩⟩⟩) ?_
              exact ih2504 (z2488 + 1) μ2614 T2616 (mF.up (mF.call mF.refl F2493 rfl) (A_163 hw) u2615 rfl) (rW (c := 0) (d := 6) (rAdd (e := 1) (f := 6) h2613 (rR (x := 1)) rfl) rfl) (JC.keepJ I2495 hw ((mF.up mF.refl (A_163 hw) u2615 rfl) : mF [163999] w μ2489 μ2614) rfl) (RP.keep I2496 hw ((mF.up mF.refl (A_163 hw) u2615 rfl) : mF [163999] w μ2489 μ2614) rfl ((mG.upO mG.refl u2615 rfl) : mG [] μ2489 μ2614) (fun _ h => absurd h List.not_mem_nil)) (EP.keep I2497 hw ((mF.up mF.refl (A_163 hw) u2615 rfl) : mF [163999] w μ2489 μ2614) rfl) (HP.keep I2498 hw ((mF.up mF.refl (A_163 hw) u2615 rfl) : mF [163999] w μ2489 μ2614) rfl ((mG.upO mG.refl u2615 rfl) : mG [] μ2489 μ2614) (fun _ h => absurd h List.not_mem_nil)) (UPg.fr I2499 hw T2616 rfl ((mF.up mF.refl (A_163 hw) u2615 rfl) : mF [163999] w μ2489 μ2614) rfl rfl rfl ((mG.upO mG.refl u2615 rfl) : mG [] μ2489 μ2614) (fun _ h => absurd h List.not_mem_nil)) (G1.keep I2500 hw ((mF.up mF.refl (A_163 hw) u2615 rfl) : mF [163999] w μ2489 μ2614) rfl rfl ((mG.upO mG.refl u2615 rfl) : mG [] μ2489 μ2614) (fun _ h => absurd h List.not_mem_nil)) (EV.keep I2501 hw ((mF.up mF.refl (A_163 hw) u2615 rfl) : mF [163999] w μ2489 μ2614) rfl) (PK.keep I2502 hw ((mF.up mF.refl (A_163 hw) u2615 rfl) : mF [163999] w μ2489 μ2614) rfl) (vc_X12_same_42 (nS h2503) h2510 h2613)
          refine mr_lvS (lv' := [(0, .ref 106), (1, iv p1), (2, iv p2), (3, iv p3), (5, iv z2343), (6, iv 0)]) (List.forall_mem_cons.mpr ⟨rfl, List.forall_mem_cons.mpr ⟨rfl, List.forall_mem_cons.mpr ⟨rfl, List.forall_mem_cons.mpr ⟨rfl, List.forall_mem_cons.mpr ⟨rfl, List.forall_mem_cons.mpr ⟨rfl, fun _ h => absurd h List.not_mem_nil⟩⟩⟩⟩⟩⟩) ?_
          exact L2490 8 0 μ hT mF.refl (rW (c := 0) (d := 6) (rR (x := 0)) rfl) hIJC hIRP hIEP hIHP hIUP hIG1 hIEV hIPK vc_X12_same_46
        have h2617 : 1 ≤ z2342 ∧ z2342 ≤ 2147483647 := (vc_X11_isRule_v_7 h2356 h2348)
        refine mr_iload (pc := 28) (z := z2342) dX12_rule_28 rfl ?_
        refine mr_bipush (pc := 30) (z := 10) dX12_rule_30 (by decide) ?_
        refine mr_irem (pc := 32) (x := z2342) (y := 10) dX12_rule_32 (rW (c := 0) (d := 2147483647) h2617 rfl) vc_X0_goBy_6 ?_
        refine mr_gen (P := fun z => 0 ≤ z ∧ z ≤ 9) (rMod h2617 rfl) fun z2618 q2619 h2620 => ?_
        refine mr_istore (pc := 33) (lv' := [(7, iv z2618), (0, .ref 106), (1, iv p1), (2, iv p2), (3, iv p3), (4, iv z2344), (5, iv z2343), (6, iv z2342)]) dX12_rule_33 (by decide) rfl ?_
        refine mr_iload (pc := 35) (z := z2618) dX12_rule_35 rfl ?_
        refine mr_iconst (pc := 37) (z := 1) dX12_rule_37 ?_
        refine mr_bipush (pc := 38) (z := 6) dX12_rule_38 (by decide) ?_
        refine mr_cSP (pc := 40) (c_X12_in hw hT (rW (c := (-2147483648)) (d := 2147483647) h2620 rfl) (rW (c := (-2147483648)) (d := 2147483647) (rR (x := 1)) rfl) (rW (c := (-2147483648)) (d := 2147483647) (rR (x := 6)) rfl)) (gOk _ _ _ _ _) dX12_rule_40 (tX12_in _ _ _ _ _) wS_X12_in wM_X12_18 ⟨le_t rfl, le_t rfl⟩ ⟨le_t rfl, le_t rfl⟩ rfl (le_t rfl) fun z2625 h2624 => ?_
        refine mr_if_eq (pc := 43) (tgt := 57) dX12_rule_43 (by decide) (r32 h2624.1 rfl) (fun h2626 => ?_) (fun h2626 => ?_)
        · have h2627 : 0 ≤ z2625 ∧ z2625 ≤ 0 := (vc_X12_rule_v_32 h2626 h2624.2.1 h2624.2.2.1 h2620 h2624.1)
          have h2628 : z2618 < (1 : Int) ∨ (6 : Int) < z2618 := (h2624.2.2.1 (vc_X12_rule_v_33 h2624.2.1 h2624.2.2.1 h2626 q2619 h2617 h2620 h2627))
          refine mr_iconst (pc := 57) (z := (-1)) dX12_rule_57 ?_
          exact mr_iret dX12_rule_58 rfl (le_t rfl) (le_t rfl) hT mF.refl ⟨(rW (c := (-2147483648)) (d := 2147483647) (rR (x := (-1))) rfl), hIJC, hIRP, hIEP, hIHP, hIUP, hIG1, hIEV, (Or.inl ⟨Or.inr (Or.inr fun h => (rlK.bad R2353 (vc_X12_rule_v_34 h2356 q2619 h2624.2.1 h2624.2.2.1 h2628 h2617 h2620 h2627) (vc_X12_rule_v_35 h2356 q2619 h2624.2.1 h2624.2.2.1 h2628 h2626 h2617 h2620 h2627) (vc_X12_rule_v_36 q2619 h2624.2.1 h2624.2.2.1 h2628 h2356 h2626 h2617 h2620 h2627)) h.2), rfl⟩), trivial⟩
        have h2629 : 1 ≤ z2625 ∧ z2625 ≤ 1 := (vc_X12_rule_v_37 h2626 h2624.2.1 h2624.2.2.1 h2620 h2624.1)
        have h2630 : (1 : Int) ≤ z2618 ∧ z2618 ≤ (6 : Int) := (h2624.2.1 (vc_X12_rule_v_38 h2624.2.1 h2624.2.2.1 h2626 q2619 h2617 h2620 h2629))
        have h2631 : 1 ≤ z2618 ∧ z2618 ≤ 6 := (vc_X12_rule_v_39 h2630 q2619 h2624.2.1 h2624.2.2.1 h2617 h2620 h2629)
        refine mr_iload (pc := 46) (z := z2344) dX12_rule_46 rfl ?_
        refine mr_iload (pc := 48) (z := z2618) dX12_rule_48 rfl ?_
        refine mr_ishr (pc := 50) (x := z2344) (y := z2618) dX12_rule_50 ?_
        refine mr_gen (P := fun z => (-2147483648) ≤ z ∧ z ≤ 2147483647) (r32i _) fun z2632 q2633 h2634 => ?_
        refine mr_iconst (pc := 51) (z := 1) dX12_rule_51 ?_
        refine mr_iand (pc := 52) (x := z2632) (y := 1) dX12_rule_52 ?_
        refine mr_gen (P := fun z => 0 ≤ z ∧ z ≤ 1) (rAndR (rR (x := 1)) rfl) fun z2635 q2636 h2637 => ?_
        refine mr_iconst (pc := 53) (z := 1) dX12_rule_53 ?_
        refine mr_icmp_ne (pc := 54) (tgt := 59) dX12_rule_54 (by decide) (r32 h2637 rfl) (r32 (rR (x := 1)) rfl) (fun h2638 => ?_) (fun h2638 => ?_)
        · have h2639 : 0 ≤ z2635 ∧ z2635 ≤ 0 := (vc_X1_goThrough_12_38 h2638 h2637)
          refine mr_iload (pc := 59) (z := z2344) dX12_rule_59 rfl ?_
          refine mr_iconst (pc := 61) (z := 1) dX12_rule_61 ?_
          refine mr_iload (pc := 62) (z := z2618) dX12_rule_62 rfl ?_
          refine mr_ishl (pc := 64) (x := 1) (y := z2618) dX12_rule_64 ?_
          refine mr_gen (P := fun z => (-2147483648) ≤ z ∧ z ≤ 2147483647) (r32i _) fun z2640 q2641 h2642 => ?_
          refine mr_ior (pc := 65) (x := z2344) (y := z2640) dX12_rule_65 ?_
          refine mr_gen (P := fun z => (-2147483648) ≤ z ∧ z ≤ 2147483647) (r32i _) fun z2643 q2644 h2645 => ?_
          have I2646 := (sOK.add R2352 (vc_X12_rule_v_42 q2619 h2624.2.1 h2624.2.2.1 h2630 h2356 h2626 h2617 h2631 h2629) q2633 q2636 (vc_X12_rule_v_41 h2638 h2639) q2641 q2644)
          have h2647 : 0 ≤ z2643 ∧ z2643 ≤ 126 := ⟨I2646.1, I2646.2.1⟩
          have h2648 : z2343 ≤ 5 := by have h := I2646.le; omega
          have h2649 : 0 ≤ z2343 ∧ z2343 ≤ 5 := (vc_X12_openLevel_1 h2648 h2347)
          refine mr_istore (pc := 66) (lv' := [(4, iv z2643), (7, iv z2618), (0, .ref 106), (1, iv p1), (2, iv p2), (3, iv p3), (5, iv z2343), (6, iv z2342)]) dX12_rule_66 (by decide) rfl ?_
          refine mr_iinc (pc := 68) (lv' := [(5, iv (z2343 + 1)), (4, iv z2643), (7, iv z2618), (0, .ref 106), (1, iv p1), (2, iv p2), (3, iv p3), (6, iv z2342)]) dX12_rule_68 rfl (by decide) rfl ?_
          refine mr_iload (pc := 71) (z := z2342) dX12_rule_71 rfl ?_
          refine mr_bipush (pc := 73) (z := 10) dX12_rule_73 (by decide) ?_
          refine mr_idiv (pc := 75) (x := z2342) (y := 10) dX12_rule_75 (rW (c := 0) (d := 2147483647) h2617 rfl) vc_X0_goBy_6 ?_
          refine mr_gen (P := fun z => 0 ≤ z ∧ z ≤ 214748364) (rDiv h2617 rfl) fun z2650 q2651 h2652 => ?_
          refine mr_istore (pc := 76) (lv' := [(6, iv z2650), (5, iv (z2343 + 1)), (4, iv z2643), (7, iv z2618), (0, .ref 106), (1, iv p1), (2, iv p2), (3, iv p3)]) dX12_rule_76 (by decide) rfl ?_
          refine sv_goto (pc := 78) (tgt := 23) dX12_rule_78 (by decide) ?_
          refine mr_lvS (lv' := [(0, .ref 106), (1, iv p1), (2, iv p2), (3, iv p3), (4, iv z2643), (5, iv (z2343 + 1)), (6, iv z2650)]) (List.forall_mem_cons.mpr ⟨rfl, List.forall_mem_cons.mpr ⟨rfl, List.forall_mem_cons.mpr ⟨rfl, List.forall_mem_cons.mpr ⟨rfl, List.forall_mem_cons.mpr ⟨rfl, List.forall_mem_cons.mpr ⟨rfl, List.forall_mem_cons.mpr ⟨rfl, fun _ h => absurd h List.not_mem_nil⟩⟩⟩⟩⟩⟩⟩) ?_
          exact ih2355 z2643 (z2343 + 1) z2650 trivial h2647 (rW (c := 0) (d := 6) (rAdd (e := 1) (f := 6) h2649 (rR (x := 1)) rfl) rfl) (rW (c := 0) (d := 2147483647) h2652 rfl) I2646 (rlK.step R2353 (vc_X12_rule_v_45 h2356 q2619 q2651 h2624.2.1 h2624.2.2.1 h2630 h2617 h2631 h2629 h2652) (vc_X12_rule_v_46 h2356 q2619 h2624.2.1 h2624.2.2.1 h2630 q2651 h2626 h2617 h2631 h2629 h2652) (vc_X12_rule_v_47 q2619 h2624.2.1 h2624.2.2.1 h2630 h2356 h2626 q2651 h2617 h2631 h2629 h2652) q2633 q2636 (vc_X12_rule_v_48 h2638 h2639) q2641 q2644 (vc_X12_rule_v_49 h2356 q2619 q2651 h2624.2.1 h2624.2.2.1 h2630 h2617 h2631 h2629 h2652)) (vc_X12_rule_v_44 (nS h2354) h2356 q2619 q2651 h2624.2.1 h2624.2.2.1 h2630 h2617 h2631 h2629 h2652)
        have h2653 : 1 ≤ z2635 ∧ z2635 ≤ 1 := (vc_X1_goThrough_12_37 h2638 h2637)
        refine mr_iconst (pc := 57) (z := (-1)) dX12_rule_57 ?_
        exact mr_iret dX12_rule_58 rfl (le_t rfl) (le_t rfl) hT mF.refl ⟨(rW (c := (-2147483648)) (d := 2147483647) (rR (x := (-1))) rfl), hIJC, hIRP, hIEP, hIHP, hIUP, hIG1, hIEV, (Or.inl ⟨Or.inr (Or.inr fun h => (rlK.bad2 R2353 (vc_X12_rule_v_51 h2356 q2619 h2624.2.1 h2624.2.2.1 h2630 h2617 h2631 h2629) (vc_X12_rule_v_52 h2356 q2619 h2624.2.1 h2624.2.2.1 h2630 h2626 h2617 h2631 h2629) q2633 q2636 (vc_X12_rule_v_53 h2638 h2653)) h.2), rfl⟩), trivial⟩
    refine mr_lvS (lv' := [(0, .ref 106), (1, iv p1), (2, iv p2), (3, iv p3), (4, iv 0), (5, iv 0), (6, iv p2)]) (List.forall_mem_cons.mpr ⟨rfl, List.forall_mem_cons.mpr ⟨rfl, List.forall_mem_cons.mpr ⟨rfl, List.forall_mem_cons.mpr ⟨rfl, List.forall_mem_cons.mpr ⟨rfl, List.forall_mem_cons.mpr ⟨rfl, List.forall_mem_cons.mpr ⟨rfl, fun _ h => absurd h List.not_mem_nil⟩⟩⟩⟩⟩⟩⟩) ?_
    exact L2345 2147483648 0 0 p2 trivial (rW (c := 0) (d := 126) (rR (x := 0)) rfl) (rW (c := 0) (d := 6) (rR (x := 0)) rfl) h1469 sOK.zero Iff.rfl (vc_X11_isRule_v_32 h1468 h1469)
  have h2654 : (-2147483648) ≤ p2 ∧ p2 ≤ (-1) := (vc_X12_cut_1 h1468 hp2)
  refine mr_iconst (pc := 12) (z := (-1)) dX12_rule_12 ?_
  exact mr_iret dX12_rule_13 rfl (le_t rfl) (le_t rfl) hT mF.refl ⟨(rW (c := (-2147483648)) (d := 2147483647) (rR (x := (-1))) rfl), hIJC, hIRP, hIEP, hIHP, hIUP, hIG1, hIEV, (Or.inl ⟨Or.inr (Or.inr fun h => absurd h.1 (vc_X11_isRule_v_35 h1468 h2654)), rfl⟩), trivial⟩
