section
theorem vc_X11_isRule_2 {z87 : Int} (h0 : z87 < ((0 : Nat) : Int)) (h1 : 0 ≤ z87 ∧ z87 ≤ 2147483647) : False := by omega
theorem vc_X11_isRule_3 {z87 : Int} (h0 : z87 ≤ 0) (h1 : 0 ≤ z87 ∧ z87 ≤ 2147483647) : 0 ≤ z87 ∧ z87 ≤ 0 := by omega
theorem vc_X11_isRule_4 {p1 : Int} (h0 : 0 ≤ p1) (h1 : 0 ≤ p1 ∧ p1 ≤ 2147483647) : (1 : Int) = 1 → 0 ≤ p1 := by omega
theorem vc_X11_isRule_5 {z87 : Int} (h0 : 0 < z87) (h1 : 0 ≤ z87 ∧ z87 ≤ 2147483647) : 1 ≤ z87 ∧ z87 ≤ 2147483647 := by omega
theorem vc_X11_isRule_6  : (0 : Int) < (10 : Int) ∧ (10 : Int) ≤ (2147483647 : Int) := by omega
theorem vc_X11_isRule_7 {z101 z87 : Int} (h0 : z101 < 1) (h1 : z87 % 10 = z101) (h2 : 0 ≤ z101 ∧ z101 ≤ 9) (h3 : 1 ≤ z87 ∧ z87 ≤ 2147483647) : 0 ≤ z101 ∧ z101 ≤ 0 := by omega
theorem vc_X11_isRule_8 {p1 : Int} (h0 : 0 ≤ p1) (h1 : 0 ≤ p1 ∧ p1 ≤ 2147483647) : (0 : Int) = 1 → 0 ≤ p1 := by omega
theorem vc_X11_isRule_9 {z101 z87 : Int} (h0 : 1 ≤ z101) (h1 : z87 % 10 = z101) (h2 : 0 ≤ z101 ∧ z101 ≤ 9) (h3 : 1 ≤ z87 ∧ z87 ≤ 2147483647) : 1 ≤ z101 ∧ z101 ≤ 9 := by omega
theorem vc_X11_isRule_10 {z101 z87 : Int} (h0 : 6 < z101) (h1 : z87 % 10 = z101) (h2 : 1 ≤ z101) (h3 : 1 ≤ z101 ∧ z101 ≤ 9) (h4 : 1 ≤ z87 ∧ z87 ≤ 2147483647) : 7 ≤ z101 ∧ z101 ≤ 9 := by omega
theorem vc_X11_isRule_11 {z101 z87 : Int} (h0 : z101 ≤ 6) (h1 : z87 % 10 = z101) (h2 : 1 ≤ z101) (h3 : 1 ≤ z101 ∧ z101 ≤ 9) (h4 : 1 ≤ z87 ∧ z87 ≤ 2147483647) : 1 ≤ z101 ∧ z101 ≤ 6 := by omega
theorem vc_X11_isRule_13 {z101 z87 : Int} (h0 : z87 % 10 = z101) (h1 : 1 ≤ z101) (h2 : z101 ≤ 6) (h3 : 0 < z87) (h4 : 1 ≤ z101 ∧ z101 ≤ 6) (h5 : 1 ≤ z87 ∧ z87 ≤ 2147483647) : 1 ≤ z101 ∧ z101 ≤ 6 := by omega
theorem vc_X11_isRule_14 {N z101 z124 z87 : Int} (h0 : z87 < N + 1) (h1 : 0 < z87) (h2 : z87 % 10 = z101) (h3 : z87 / 10 = z124) (h4 : 1 ≤ z101) (h5 : z101 ≤ 6) (h6 : 1 ≤ z101 ∧ z101 ≤ 6) (h7 : 0 ≤ z124 ∧ z124 ≤ 214748364) (h8 : 1 ≤ z87 ∧ z87 ≤ 2147483647) : z124 < N := by omega
theorem vc_X11_isRule_16 {p1 : Int} (h0 : 0 ≤ p1) (h1 : 0 ≤ p1 ∧ p1 ≤ 2147483647) : p1 < ((2147483648 : Nat) : Int) := by omega
theorem vc_X11_isRule_18 {p1 : Int} (h0 : p1 < 0) (h1 : (-2147483648) ≤ p1 ∧ p1 ≤ (-1)) : (0 : Int) = 1 → 0 ≤ p1 := by omega
set_option maxRecDepth 4000 in
set_option maxHeartbeats 4000000 in
theorem c_X11_isRule {l : Launch} {D : va_G} {c : Nat → ClassId} {H0 : Heap} {sa : Nat × Nat × (Nat → Int32)} {w : mW} {μ : mM} (hw : mWF w) (hT : mT w μ) {p1 : Int} (hp1 : (-2147483648) ≤ p1 ∧ p1 ≤ 2147483647) : sC (gG l D c H0 sa) mX11_isRule 1 0 0 [iv p1] (mk w μ) (qP w μ (fun z => (0 ≤ z ∧ z ≤ 1) ∧ (z = 1 → p1 ≤ 999999) ∧ (z = 1 → 0 ≤ p1) ∧ True)) := by
  refine sC.of rfl (by decide) (le_t rfl) ?_
  refine mr_lvE (lv' := [(0, iv p1)]) rfl ?_
  refine mr_iload_n (pc := 0) (z := p1) dX11_isRule_0 rfl rfl ?_
  refine mr_if_ge (pc := 1) (tgt := 6) dX11_isRule_1 (by decide) hp1 (fun h1 => ?_) (fun h1 => ?_)
  · have h2 : 0 ≤ p1 ∧ p1 ≤ 2147483647 := (vc_X12_ring_1 h1 hp1)
    refine mr_iconst (pc := 6) (z := 0) dX11_isRule_6 ?_
    refine mr_istore_n (pc := 7) (lv' := [(1, iv 0), (0, iv p1)]) dX11_isRule_7 rfl (by decide) rfl ?_
    refine mr_iload_n (pc := 8) (z := p1) dX11_isRule_8 rfl rfl ?_
    refine mr_istore_n (pc := 9) (lv' := [(2, iv p1), (1, iv 0), (0, iv p1)]) dX11_isRule_9 rfl (by decide) rfl ?_
    have L89 : ∀ (nL89 : Nat) (z88 z87 : Int), True → ((-2147483648) ≤ z88 ∧ z88 ≤ 2147483647) → (0 ≤ z87 ∧ z87 ≤ 2147483647) → rOK p1 z87 z88 → z87 < (nL89 : Int) → sV (gG l D c H0 sa) mX11_isRule (sRm 1 0 0) (sZ (gG l D c H0 sa) 0 0 (qP w μ (fun z => (0 ≤ z ∧ z ≤ 1) ∧ (z = 1 → p1 ≤ 999999) ∧ (z = 1 → 0 ≤ p1) ∧ True))) 10 [(1, iv z88), (2, iv z87)] [] (mk w μ) 0 0 := by
      intro nL89
      induction nL89 with
      | zero => intro z88 z87 _ h90 h91 R95 h96; exact ((vc_X11_isRule_2 h96 h91)).elim
      | succ nL89 ih97 =>
        intro z88 z87 _ h90 h91 R95 h96
        refine mr_iload_n (pc := 10) (z := z87) dX11_isRule_10 rfl rfl ?_
        refine mr_if_le (pc := 11) (tgt := 54) dX11_isRule_11 (by decide) (r32 h91 rfl) (fun h98 => ?_) (fun h98 => ?_)
        · have h99 : 0 ≤ z87 ∧ z87 ≤ 0 := (vc_X11_isRule_3 h98 h91)
          refine mr_iconst (pc := 54) (z := 1) dX11_isRule_54 ?_
          exact mr_zretP dX11_isRule_55 rfl (rW (c := 0) (d := 1) (rR (x := 1)) rfl) (le_t rfl) (le_t rfl) ⟨(rW (c := 0) (d := 1) (rR (x := 1)) rfl), (fun _ => rOK.done R95 h98), (vc_X11_isRule_4 h1 h2), trivial⟩
        have h100 : 1 ≤ z87 ∧ z87 ≤ 2147483647 := (vc_X11_isRule_5 h98 h91)
        refine mr_iload_n (pc := 14) (z := z87) dX11_isRule_14 rfl rfl ?_
        refine mr_bipush (pc := 15) (z := 10) dX11_isRule_15 (by decide) ?_
        refine mr_irem (pc := 17) (x := z87) (y := 10) dX11_isRule_17 (rW (c := 0) (d := 2147483647) h100 rfl) vc_X11_isRule_6 ?_
        refine mr_gen (P := fun z => 0 ≤ z ∧ z ≤ 9) (rMod h100 rfl) fun z101 q102 h103 => ?_
        refine mr_istore_n (pc := 18) (lv' := [(3, iv z101), (1, iv z88), (2, iv z87)]) dX11_isRule_18 rfl (by decide) rfl ?_
        refine mr_iload_n (pc := 19) (z := z101) dX11_isRule_19 rfl rfl ?_
        refine mr_iconst (pc := 20) (z := 1) dX11_isRule_20 ?_
        refine mr_icmp_lt (pc := 21) (tgt := 38) dX11_isRule_21 (by decide) (r32 h103 rfl) (r32 (rR (x := 1)) rfl) (fun h104 => ?_) (fun h104 => ?_)
        · have h105 : 0 ≤ z101 ∧ z101 ≤ 0 := (vc_X11_isRule_7 h104 q102 h103 h100)
          refine mr_iconst (pc := 38) (z := 0) dX11_isRule_38 ?_
          exact mr_zretP dX11_isRule_39 rfl (rW (c := 0) (d := 1) (rR (x := 0)) rfl) (le_t rfl) (le_t rfl) ⟨(rW (c := 0) (d := 1) (rR (x := 0)) rfl), (fun h => absurd h (by decide)), (vc_X11_isRule_8 h1 h2), trivial⟩
        have h106 : 1 ≤ z101 ∧ z101 ≤ 9 := (vc_X11_isRule_9 h104 q102 h103 h100)
        refine mr_iload_n (pc := 24) (z := z101) dX11_isRule_24 rfl rfl ?_
        refine mr_bipush (pc := 25) (z := 6) dX11_isRule_25 (by decide) ?_
        refine mr_icmp_gt (pc := 27) (tgt := 38) dX11_isRule_27 (by decide) (r32 h106 rfl) (r32 (rR (x := 6)) rfl) (fun h107 => ?_) (fun h107 => ?_)
        · have h108 : 7 ≤ z101 ∧ z101 ≤ 9 := (vc_X11_isRule_10 h107 q102 h104 h106 h100)
          refine mr_iconst (pc := 38) (z := 0) dX11_isRule_38 ?_
          exact mr_zretP dX11_isRule_39 rfl (rW (c := 0) (d := 1) (rR (x := 0)) rfl) (le_t rfl) (le_t rfl) ⟨(rW (c := 0) (d := 1) (rR (x := 0)) rfl), (fun h => absurd h (by decide)), (vc_X11_isRule_8 h1 h2), trivial⟩
        have h109 : 1 ≤ z101 ∧ z101 ≤ 6 := (vc_X11_isRule_11 h107 q102 h104 h106 h100)
        refine mr_iload_n (pc := 30) (z := z88) dX11_isRule_30 rfl rfl ?_
        refine mr_iload_n (pc := 31) (z := z101) dX11_isRule_31 rfl rfl ?_
        refine mr_ishr (pc := 32) (x := z88) (y := z101) dX11_isRule_32 ?_
        refine mr_gen (P := fun z => (-2147483648) ≤ z ∧ z ≤ 2147483647) (r32i _) fun z110 q111 h112 => ?_
        refine mr_iconst (pc := 33) (z := 1) dX11_isRule_33 ?_
        refine mr_iand (pc := 34) (x := z110) (y := 1) dX11_isRule_34 ?_
        refine mr_gen (P := fun z => 0 ≤ z ∧ z ≤ 1) (rAndR (rR (x := 1)) rfl) fun z113 q114 h115 => ?_
        refine mr_if_eq (pc := 35) (tgt := 40) dX11_isRule_35 (by decide) (r32 h115 rfl) (fun h116 => ?_) (fun h116 => ?_)
        · have h117 : 0 ≤ z113 ∧ z113 ≤ 0 := (vc_X12_ring_22 h116 h115)
          refine mr_iload_n (pc := 40) (z := z88) dX11_isRule_40 rfl rfl ?_
          refine mr_iconst (pc := 41) (z := 1) dX11_isRule_41 ?_
          refine mr_iload_n (pc := 42) (z := z101) dX11_isRule_42 rfl rfl ?_
          refine mr_ishl (pc := 43) (x := 1) (y := z101) dX11_isRule_43 ?_
          refine mr_gen (P := fun z => (-2147483648) ≤ z ∧ z ≤ 2147483647) (r32i _) fun z118 q119 h120 => ?_
          refine mr_ior (pc := 44) (x := z88) (y := z118) dX11_isRule_44 ?_
          refine mr_gen (P := fun z => (-2147483648) ≤ z ∧ z ≤ 2147483647) (r32i _) fun z121 q122 h123 => ?_
          refine mr_istore_n (pc := 45) (lv' := [(1, iv z121), (3, iv z101), (2, iv z87)]) dX11_isRule_45 rfl (by decide) rfl ?_
          refine mr_iload_n (pc := 46) (z := z87) dX11_isRule_46 rfl rfl ?_
          refine mr_bipush (pc := 47) (z := 10) dX11_isRule_47 (by decide) ?_
          refine mr_idiv (pc := 49) (x := z87) (y := 10) dX11_isRule_49 (rW (c := 0) (d := 2147483647) h100 rfl) vc_X11_isRule_6 ?_
          refine mr_gen (P := fun z => 0 ≤ z ∧ z ≤ 214748364) (rDiv h100 rfl) fun z124 q125 h126 => ?_
          refine mr_istore_n (pc := 50) (lv' := [(2, iv z124), (1, iv z121), (3, iv z101)]) dX11_isRule_50 rfl (by decide) rfl ?_
          refine sv_goto (pc := 51) (tgt := 10) dX11_isRule_51 (by decide) ?_
          refine mr_lvS (lv' := [(1, iv z121), (2, iv z124)]) (List.forall_mem_cons.mpr ⟨rfl, List.forall_mem_cons.mpr ⟨rfl, fun _ h => absurd h List.not_mem_nil⟩⟩) ?_
          exact ih97 z121 z124 trivial h123 (rW (c := 0) (d := 2147483647) h126 rfl) (rOK.step R95 (fun n h => sOK.add h (vc_X11_isRule_13 q102 h104 h107 h98 h109 h100) q111 q114 (bAnd1 q114 h116) q119 q122) q125) (vc_X11_isRule_14 (nS h96) h98 q102 q125 h104 h107 h109 h126 h100)
        have h127 : 1 ≤ z113 ∧ z113 ≤ 1 := (vc_X12_ring_24 h116 h115)
        refine mr_iconst (pc := 38) (z := 0) dX11_isRule_38 ?_
        exact mr_zretP dX11_isRule_39 rfl (rW (c := 0) (d := 1) (rR (x := 0)) rfl) (le_t rfl) (le_t rfl) ⟨(rW (c := 0) (d := 1) (rR (x := 0)) rfl), (fun h => absurd h (by decide)), (vc_X11_isRule_8 h1 h2), trivial⟩
    refine mr_lvS (lv' := [(1, iv 0), (2, iv p1)]) (List.forall_mem_cons.mpr ⟨rfl, List.forall_mem_cons.mpr ⟨rfl, fun _ h => absurd h List.not_mem_nil⟩⟩) ?_
    exact L89 2147483648 0 p1 trivial (rW (c := (-2147483648)) (d := 2147483647) (rR (x := 0)) rfl) h2 rOK.init (vc_X11_isRule_16 h1 h2)
  have h128 : (-2147483648) ≤ p1 ∧ p1 ≤ (-1) := (vc_X12_ring_60 h1 hp1)
  refine mr_iconst (pc := 4) (z := 0) dX11_isRule_4 ?_
  exact mr_zretP dX11_isRule_5 rfl (rW (c := 0) (d := 1) (rR (x := 0)) rfl) (le_t rfl) (le_t rfl) ⟨(rW (c := 0) (d := 1) (rR (x := 0)) rfl), (fun h => absurd h (by decide)), (vc_X11_isRule_18 h1 h128), trivial⟩
theorem vc_X0_goBy_1 {f_c z91 : Int} (h0 : z91 < ((0 : Nat) : Int)) (h1 : (f_c = 0 ∧ z91 ≤ 999999) ∨ (f_c = 1 ∧ z91 ≤ 99999) ∨ (f_c = 2 ∧ z91 ≤ 9999) ∨ (f_c = 3 ∧ z91 ≤ 999) ∨ (f_c = 4 ∧ z91 ≤ 99) ∨ (f_c = 5 ∧ z91 ≤ 9) ∨ (f_c = 6 ∧ z91 ≤ 0)) (h2 : 0 ≤ z91 ∧ z91 ≤ 999999) : False := by omega
theorem vc_X0_goBy_2 {f_c z91 : Int} (h0 : z91 ≤ 0) (h1 : (f_c = 0 ∧ z91 ≤ 999999) ∨ (f_c = 1 ∧ z91 ≤ 99999) ∨ (f_c = 2 ∧ z91 ≤ 9999) ∨ (f_c = 3 ∧ z91 ≤ 999) ∨ (f_c = 4 ∧ z91 ≤ 99) ∨ (f_c = 5 ∧ z91 ≤ 9) ∨ (f_c = 6 ∧ z91 ≤ 0)) (h2 : 0 ≤ f_c ∧ f_c ≤ 6) (h3 : 0 ≤ z91 ∧ z91 ≤ 999999) : 0 ≤ z91 ∧ z91 ≤ 0 := by omega
theorem vc_X0_goBy_3 {z143 : Int} (h0 : (z143 - (-2)) < ((0 : Nat) : Int)) (h1 : (-1) ≤ z143 ∧ z143 ≤ 5) : False := by omega
theorem vc_X0_goBy_4 {z143 : Int} (h0 : z143 < 0) (h1 : (-1) ≤ z143 ∧ z143 ≤ 5) : (-1) ≤ z143 ∧ z143 ≤ (-1) := by omega
theorem vc_X0_goBy_5 {z143 : Int} (h0 : 0 ≤ z143) (h1 : (-1) ≤ z143 ∧ z143 ≤ 5) : 0 ≤ z143 ∧ z143 ≤ 5 := by omega
theorem vc_X0_goBy_7 {N z143 : Int} (h0 : (z143 - (-2)) < N + 1) (h1 : 0 ≤ z143) (h2 : 0 ≤ z143 ∧ z143 ≤ 5) : ((z143 + (-1)) - (-2)) < N := by omega
theorem vc_X0_goBy_8 {f_c z91 : Int} (h0 : (f_c = 0 ∧ z91 ≤ 999999) ∨ (f_c = 1 ∧ z91 ≤ 99999) ∨ (f_c = 2 ∧ z91 ≤ 9999) ∨ (f_c = 3 ∧ z91 ≤ 999) ∨ (f_c = 4 ∧ z91 ≤ 99) ∨ (f_c = 5 ∧ z91 ≤ 9) ∨ (f_c = 6 ∧ z91 ≤ 0)) (h1 : z91 ≤ 0) (h2 : 0 ≤ f_c ∧ f_c ≤ 6) (h3 : 0 ≤ z91 ∧ z91 ≤ 0) : ((f_c - 1) - (-2)) < ((8 : Nat) : Int) := by omega
theorem vc_X0_goBy_9 {f_c z91 : Int} (h0 : 0 < z91) (h1 : (f_c = 0 ∧ z91 ≤ 999999) ∨ (f_c = 1 ∧ z91 ≤ 99999) ∨ (f_c = 2 ∧ z91 ≤ 9999) ∨ (f_c = 3 ∧ z91 ≤ 999) ∨ (f_c = 4 ∧ z91 ≤ 99) ∨ (f_c = 5 ∧ z91 ≤ 9) ∨ (f_c = 6 ∧ z91 ≤ 0)) (h2 : 0 ≤ f_c ∧ f_c ≤ 6) (h3 : 0 ≤ z91 ∧ z91 ≤ 999999) : 1 ≤ z91 ∧ z91 ≤ 999999 := by omega
theorem vc_X0_goBy_10 {f_c z91 : Int} (h0 : (f_c = 0 ∧ z91 ≤ 999999) ∨ (f_c = 1 ∧ z91 ≤ 99999) ∨ (f_c = 2 ∧ z91 ≤ 9999) ∨ (f_c = 3 ∧ z91 ≤ 999) ∨ (f_c = 4 ∧ z91 ≤ 99) ∨ (f_c = 5 ∧ z91 ≤ 9) ∨ (f_c = 6 ∧ z91 ≤ 0)) (h1 : 0 < z91) (h2 : 0 ≤ f_c ∧ f_c ≤ 6) (h3 : 1 ≤ z91 ∧ z91 ≤ 999999) : 0 ≤ (f_c + 1) ∧ (f_c + 1) ≤ 6 := by omega
theorem vc_X0_goBy_11 {f_c z183 z91 : Int} (h0 : (f_c = 0 ∧ z91 ≤ 999999) ∨ (f_c = 1 ∧ z91 ≤ 99999) ∨ (f_c = 2 ∧ z91 ≤ 9999) ∨ (f_c = 3 ∧ z91 ≤ 999) ∨ (f_c = 4 ∧ z91 ≤ 99) ∨ (f_c = 5 ∧ z91 ≤ 9) ∨ (f_c = 6 ∧ z91 ≤ 0)) (h1 : z91 / 10 = z183) (h2 : 0 < z91) (h3 : 0 ≤ f_c ∧ f_c ≤ 6) (h4 : 0 ≤ z183 ∧ z183 ≤ 99999) (h5 : 1 ≤ z91 ∧ z91 ≤ 999999) : ((f_c + 1) = 0 ∧ z183 ≤ 999999) ∨ ((f_c + 1) = 1 ∧ z183 ≤ 99999) ∨ ((f_c + 1) = 2 ∧ z183 ≤ 9999) ∨ ((f_c + 1) = 3 ∧ z183 ≤ 999) ∨ ((f_c + 1) = 4 ∧ z183 ≤ 99) ∨ ((f_c + 1) = 5 ∧ z183 ≤ 9) ∨ ((f_c + 1) = 6 ∧ z183 ≤ 0) := by omega
theorem vc_X0_goBy_12 {N f_c z183 z91 : Int} (h0 : z91 < N + 1) (h1 : (f_c = 0 ∧ z91 ≤ 999999) ∨ (f_c = 1 ∧ z91 ≤ 99999) ∨ (f_c = 2 ∧ z91 ≤ 9999) ∨ (f_c = 3 ∧ z91 ≤ 999) ∨ (f_c = 4 ∧ z91 ≤ 99) ∨ (f_c = 5 ∧ z91 ≤ 9) ∨ (f_c = 6 ∧ z91 ≤ 0)) (h2 : 0 < z91) (h3 : z91 / 10 = z183) (h4 : 0 ≤ f_c ∧ f_c ≤ 6) (h5 : 0 ≤ z183 ∧ z183 ≤ 99999) (h6 : 1 ≤ z91 ∧ z91 ≤ 999999) : z183 < N := by omega
theorem vc_X0_goBy_13 {p1 : Int} (h0 : 0 ≤ p1 ∧ p1 ≤ 999999) : ((0 : Int) = 0 ∧ p1 ≤ 999999) ∨ ((0 : Int) = 1 ∧ p1 ≤ 99999) ∨ ((0 : Int) = 2 ∧ p1 ≤ 9999) ∨ ((0 : Int) = 3 ∧ p1 ≤ 999) ∨ ((0 : Int) = 4 ∧ p1 ≤ 99) ∨ ((0 : Int) = 5 ∧ p1 ≤ 9) ∨ ((0 : Int) = 6 ∧ p1 ≤ 0) := by omega
theorem vc_X0_goBy_14 {p1 : Int} (h0 : 0 ≤ p1 ∧ p1 ≤ 999999) : p1 < ((1000000 : Nat) : Int) := by omega
set_option maxRecDepth 4000 in
set_option maxHeartbeats 4000000 in
theorem c_X0_goBy {l : Launch} {D : va_G} {c : Nat → ClassId} {H0 : Heap} {sa : Nat × Nat × (Nat → Int32)} {w : mW} {μ : mM} (hw : mWF w) (hT : mT w μ) {a0 : Nat} (hA0 : mAt w a0 210) {p1 : Int} (hp1 : 0 ≤ p1 ∧ p1 ≤ 999999) {p2 : Int} (hp2 : 0 ≤ p2 ∧ p2 ≤ 1) : sC (gG l D c H0 sa) mX0_goBy 1 0 0 [.ref a0, iv p1, iv p2] (mk w μ) (qV w [210004, 210005, 211999] μ (fun μ1 => True)) := by
  refine sC.of rfl (by decide) (le_t rfl) ?_
  refine mr_lvE (lv' := [(0, .ref a0), (1, iv p1), (2, iv p2)]) rfl ?_
  refine sv_aload_n (pc := 0) dX0_goBy_0 rfl rfl ?_
  refine mr_iload_n (pc := 1) (z := p2) dX0_goBy_1 rfl rfl ?_
  refine pf_X0_5 (pc := 2) dX0_goBy_2 wF_X0_33 hA0 hT hp2 fun μ1 u2 T3 => ?_
  refine sv_aload_n (pc := 5) dX0_goBy_5 rfl rfl ?_
  refine mr_iconst (pc := 6) (z := 0) dX0_goBy_6 ?_
  refine pf_X0_4 (pc := 7) dX0_goBy_7 wF_X0_37 hA0 T3 (rW (c := 0) (d := 6) (rR (x := 0)) rfl) fun μ4 u5 T6 => ?_
  refine mr_iload_n (pc := 10) (z := p1) dX0_goBy_10 rfl rfl ?_
  refine mr_istore_n (pc := 11) (lv' := [(3, iv p1), (0, .ref a0), (1, iv p1), (2, iv p2)]) dX0_goBy_11 rfl (by decide) rfl ?_
  have L93 : ∀ (nL93 : Nat) (z91 : Int) (μ92 : mM) (f_c : Int), mT w μ92 → mF [210004] w μ4 μ92 → μ92 a0 (4) = f_c → (0 ≤ z91 ∧ z91 ≤ 999999) → ((f_c = 0 ∧ z91 ≤ 999999) ∨ (f_c = 1 ∧ z91 ≤ 99999) ∨ (f_c = 2 ∧ z91 ≤ 9999) ∨ (f_c = 3 ∧ z91 ≤ 999) ∨ (f_c = 4 ∧ z91 ≤ 99) ∨ (f_c = 5 ∧ z91 ≤ 9) ∨ (f_c = 6 ∧ z91 ≤ 0)) → z91 < (nL93 : Int) → sV (gG l D c H0 sa) mX0_goBy (sRm 1 0 0) (sZ (gG l D c H0 sa) 0 0 (qV w [210004, 210005, 211999] μ (fun μ1 => True))) 12 [(0, .ref a0), (1, iv p1), (3, iv z91)] [] (mk w μ92) 0 0 := by
    intro nL93
    induction nL93 with
    | zero => intro z91 μ92 f_c T95 F96 q100 h94 h98 h99; exact ((vc_X0_goBy_1 h99 h98 h94)).elim
    | succ nL93 ih101 =>
      intro z91 μ92 f_c T95 F96 q100 h94 h98 h99
      have h102 : (0 ≤ f_c ∧ f_c ≤ 6) := by rw [← q100]; exact T95 a0 210 hA0 (4)
      refine mr_iload_n (pc := 12) (z := z91) dX0_goBy_12 rfl rfl ?_
      refine mr_if_le (pc := 13) (tgt := 34) dX0_goBy_13 (by decide) (r32 h94 rfl) (fun h111 => ?_) (fun h111 => ?_)
      · have h112 : 0 ≤ z91 ∧ z91 ≤ 0 := (vc_X0_goBy_2 h111 h98 h102 h94)
        refine mr_iload_n (pc := 34) (z := p1) dX0_goBy_34 rfl rfl ?_
        refine mr_istore_n (pc := 35) (lv' := [(3, iv p1), (0, .ref a0), (1, iv p1)]) dX0_goBy_35 rfl (by decide) rfl ?_
        refine sv_aload_n (pc := 36) dX0_goBy_36 rfl rfl ?_
        refine gk_X0_4 (pc := 37) dX0_goBy_37 wF_X0_37 hA0 q100 ?_
        refine mr_iconst (pc := 40) (z := 1) dX0_goBy_40 ?_
        refine mr_isub (pc := 41) (x := f_c) (y := 1) dX0_goBy_41 ?_
        refine mr_istore (pc := 42) (lv' := [(4, iv (f_c - 1)), (3, iv p1), (0, .ref a0), (1, iv p1)]) dX0_goBy_42 (by decide) rfl ?_
        have L146 : ∀ (nL146 : Nat) (z144 z143 : Int) (μ145 : mM), mT w μ145 → mF [211999] w μ92 μ145 → (0 ≤ z144 ∧ z144 ≤ 999999) → ((-1) ≤ z143 ∧ z143 ≤ 5) → (z143 - (-2)) < (nL146 : Int) → sV (gG l D c H0 sa) mX0_goBy (sRm 1 0 0) (sZ (gG l D c H0 sa) 0 0 (qV w [210004, 210005, 211999] μ (fun μ1 => True))) 44 [(0, .ref a0), (3, iv z144), (4, iv z143)] [] (mk w μ145) 0 0 := by
          intro nL146
          induction nL146 with
          | zero => intro z144 z143 μ145 T149 F150 h147 h148 h152; exact ((vc_X0_goBy_3 h152 h148)).elim
          | succ nL146 ih153 =>
            intro z144 z143 μ145 T149 F150 h147 h148 h152
            refine mr_iload (pc := 44) (z := z143) dX0_goBy_44 rfl ?_
            refine mr_if_lt (pc := 46) (tgt := 71) dX0_goBy_46 (by decide) (r32 h148 rfl) (fun h166 => ?_) (fun h166 => ?_)
            · have h167 : (-1) ≤ z143 ∧ z143 ≤ (-1) := (vc_X0_goBy_4 h166 h148)
              exact mr_vret dX0_goBy_71 rfl (le_t rfl) (le_t rfl) T149 (mF.call (mF.call (mF.up (mF.up mF.refl hA0 u2 rfl) hA0 u5 rfl) F96 rfl) F150 rfl) trivial
            have h168 : 0 ≤ z143 ∧ z143 ≤ 5 := (vc_X0_goBy_5 h166 h148)
            refine sv_aload_n (pc := 49) dX0_goBy_49 rfl rfl ?_
            refine gf_X0_0 (pc := 50) dX0_goBy_50 wF_X0_9 hA0 T149 fun A169 => ?_
            refine mr_iload (pc := 53) (z := z143) dX0_goBy_53 rfl ?_
            refine mr_iload_n (pc := 55) (z := z144) dX0_goBy_55 rfl rfl ?_
            refine mr_bipush (pc := 56) (z := 10) dX0_goBy_56 (by decide) ?_
            refine mr_irem (pc := 58) (x := z144) (y := 10) dX0_goBy_58 (rW (c := 0) (d := 2147483647) h147 rfl) vc_X11_isRule_6 ?_
            refine mr_gen (P := fun z => 0 ≤ z ∧ z ≤ 9) (rMod h147 rfl) fun z170 q171 h172 => ?_
            refine ss_211 (pc := 59) dX0_goBy_59 A169 T149 (rIx (n := 6) h168 rfl) h172 fun μ173 u174 T175 => ?_
            refine mr_iload_n (pc := 60) (z := z144) dX0_goBy_60 rfl rfl ?_
            refine mr_bipush (pc := 61) (z := 10) dX0_goBy_61 (by decide) ?_
            refine mr_idiv (pc := 63) (x := z144) (y := 10) dX0_goBy_63 (rW (c := 0) (d := 2147483647) h147 rfl) vc_X11_isRule_6 ?_
            refine mr_gen (P := fun z => 0 ≤ z ∧ z ≤ 99999) (rDiv h147 rfl) fun z176 q177 h178 => ?_
            refine mr_istore_n (pc := 64) (lv' := [(3, iv z176), (0, .ref a0), (4, iv z143)]) dX0_goBy_64 rfl (by decide) rfl ?_
            refine mr_iinc (pc := 65) (lv' := [(4, iv (z143 + (-1))), (3, iv z176), (0, .ref a0)]) dX0_goBy_65 rfl (by decide) rfl ?_
            refine sv_goto (pc := 68) (tgt := 44) dX0_goBy_68 (by decide) ?_
            refine mr_lvS (lv' := [(0, .ref a0), (3, iv z176), (4, iv (z143 + (-1)))]) (List.forall_mem_cons.mpr ⟨rfl, List.forall_mem_cons.mpr ⟨rfl, List.forall_mem_cons.mpr ⟨rfl, fun _ h => absurd h List.not_mem_nil⟩⟩⟩) ?_
            exact ih153 z176 (z143 + (-1)) μ173 T175 (mF.up (mF.call mF.refl F150 rfl) A169 u174 rfl) (rW (c := 0) (d := 999999) h178 rfl) (rW (c := (-1)) (d := 5) (rAdd (e := (-1)) (f := 4) h168 (rR (x := (-1))) rfl) rfl) (vc_X0_goBy_7 (nS h152) h166 h168)
        refine mr_lvS (lv' := [(0, .ref a0), (3, iv p1), (4, iv (f_c - 1))]) (List.forall_mem_cons.mpr ⟨rfl, List.forall_mem_cons.mpr ⟨rfl, List.forall_mem_cons.mpr ⟨rfl, fun _ h => absurd h List.not_mem_nil⟩⟩⟩) ?_
        exact L146 8 p1 (f_c - 1) μ92 T95 mF.refl hp1 (rSub (e := (-1)) (f := 5) h102 (rR (x := 1)) rfl) (vc_X0_goBy_8 h98 h111 h102 h112)
      have h179 : 1 ≤ z91 ∧ z91 ≤ 999999 := (vc_X0_goBy_9 h111 h98 h102 h94)
      refine sv_aload_n (pc := 16) dX0_goBy_16 rfl rfl ?_
      refine sv_dup (pc := 17) dX0_goBy_17 rfl ?_
      refine gk_X0_4 (pc := 18) dX0_goBy_18 wF_X0_37 hA0 q100 ?_
      refine mr_iconst (pc := 21) (z := 1) dX0_goBy_21 ?_
      refine mr_iadd (pc := 22) (x := f_c) (y := 1) dX0_goBy_22 ?_
      refine pf_X0_4 (pc := 23) dX0_goBy_23 wF_X0_37 hA0 T95 (vc_X0_goBy_10 h98 h111 h102 h179) fun μ180 u181 T182 => ?_
      refine mr_iload_n (pc := 26) (z := z91) dX0_goBy_26 rfl rfl ?_
      refine mr_bipush (pc := 27) (z := 10) dX0_goBy_27 (by decide) ?_
      refine mr_idiv (pc := 29) (x := z91) (y := 10) dX0_goBy_29 (rW (c := 0) (d := 2147483647) h179 rfl) vc_X11_isRule_6 ?_
      refine mr_gen (P := fun z => 0 ≤ z ∧ z ≤ 99999) (rDiv h179 rfl) fun z183 q184 h185 => ?_
      refine mr_istore_n (pc := 30) (lv' := [(3, iv z183), (0, .ref a0), (1, iv p1)]) dX0_goBy_30 rfl (by decide) rfl ?_
      refine sv_goto (pc := 31) (tgt := 12) dX0_goBy_31 (by decide) ?_
      refine mr_lvS (lv' := [(0, .ref a0), (1, iv p1), (3, iv z183)]) (List.forall_mem_cons.mpr ⟨rfl, List.forall_mem_cons.mpr ⟨rfl, List.forall_mem_cons.mpr ⟨rfl, fun _ h => absurd h List.not_mem_nil⟩⟩⟩) ?_
      exact ih101 z183 μ180 (f_c + 1) T182 (mF.up (mF.call mF.refl F96 rfl) hA0 u181 rfl) u181.1 (rW (c := 0) (d := 999999) h185 rfl) (vc_X0_goBy_11 h98 q184 h111 h102 h185 h179) (vc_X0_goBy_12 (nS h99) h98 h111 q184 h102 h185 h179)
  refine mr_lvS (lv' := [(0, .ref a0), (1, iv p1), (3, iv p1)]) (List.forall_mem_cons.mpr ⟨rfl, List.forall_mem_cons.mpr ⟨rfl, List.forall_mem_cons.mpr ⟨rfl, fun _ h => absurd h List.not_mem_nil⟩⟩⟩) ?_
  exact L93 1000000 p1 μ4 0 T6 mF.refl u5.1 hp1 (vc_X0_goBy_13 hp1) (vc_X0_goBy_14 hp1)
set_option maxRecDepth 4000 in
set_option maxHeartbeats 4000000 in
theorem c_X8_handOver {l : Launch} {D : va_G} {c : Nat → ClassId} {H0 : Heap} {sa : Nat × Nat × (Nat → Int32)} {w : mW} {μ : mM} (hw : mWF w) (hT : mT w μ) {a1 : Nat} (hA1 : mAt w a1 220) {p2 : Int} (hp2 : 0 ≤ p2 ∧ p2 ≤ 1) {p3 : Int} (hp3 : 0 ≤ p3 ∧ p3 ≤ 9) : sC (gG l D c H0 sa) mX8_handOver 4 0 0 [.ref 32, .ref a1, iv p2, iv p3] (mk w μ) (qV w [200002, 200003, 200004, 200005, 200006, 200007, 200008, 200009, 201999, 202999] μ (fun μ1 => True)) := by
  refine sC.of rfl (by decide) (le_t rfl) ?_
  refine mr_lvE (lv' := [(0, .ref 32), (1, .ref a1), (2, iv p2), (3, iv p3)]) rfl ?_
  refine sv_aload_n (pc := 0) dX8_handOver_0 rfl rfl ?_
  refine gf_X9_4 (pc := 1) dX8_handOver_1 wF_X8_96 hA1 hT fun A1 => ?_
  refine mr_iconst (pc := 4) (z := 1) dX8_handOver_4 ?_
  refine mr_iload_n (pc := 5) (z := p2) dX8_handOver_5 rfl rfl ?_
  refine mr_isub (pc := 6) (x := 1) (y := p2) dX8_handOver_6 ?_
  refine mr_iload_n (pc := 7) (z := p3) dX8_handOver_7 rfl rfl ?_
  refine mr_cSP (pc := 8) (c_X9_placeOf hw hT (rSub (e := 0) (f := 1) (rR (x := 1)) hp2 rfl) hp3) (gOk _ _ _ _ _) dX8_handOver_8 (tX9_placeOf _ _ _ _ _) wS_X9_placeOf wM_X8_99 ⟨le_t rfl, le_t rfl⟩ ⟨le_t rfl, le_t rfl⟩ rfl (le_t rfl) fun z6 h5 => ?_
  refine la_222 (pc := 11) dX8_handOver_11 A1 hT (rIx (n := 20) h5.1 rfl) fun b7 q8 A9 => ?_
  refine mr_astore (pc := 12) (lv' := [(4, .ref b7), (0, .ref 32), (1, .ref a1), (2, iv p2), (3, iv p3)]) dX8_handOver_12 (by decide) rfl ?_
  refine sv_aload (pc := 14) dX8_handOver_14 rfl ?_
  refine sv_aload_n (pc := 16) dX8_handOver_16 rfl rfl ?_
  refine gf_X9_5 (pc := 17) dX8_handOver_17 wF_X8_103 hA1 hT fun A10 => ?_
  refine mr_iload_n (pc := 20) (z := p2) dX8_handOver_20 rfl rfl ?_
  refine mr_iload_n (pc := 21) (z := p3) dX8_handOver_21 rfl rfl ?_
  refine mr_cSP (pc := 22) (c_X9_placeOf hw hT hp2 hp3) (gOk _ _ _ _ _) dX8_handOver_22 (tX9_placeOf _ _ _ _ _) wS_X9_placeOf wM_X8_99 ⟨le_t rfl, le_t rfl⟩ ⟨le_t rfl, le_t rfl⟩ rfl (le_t rfl) fun z15 h14 => ?_
  refine la_223 (pc := 25) dX8_handOver_25 A10 hT (rIx (n := 20) h14.1 rfl) fun b16 q17 A18 => ?_
  refine mr_cVV (pc := 26) (c_X7_become hw hT A9 A18) (gOk _ _ _ _ _) dX8_handOver_26 (tX7_become _ _ _ _ _) ⟨wV_X7_become, wL_X7_become⟩ wM_X8_106 (gCX7 _ _ _ _ _) rfl A9 rfl ⟨le_t rfl, le_t rfl⟩ ⟨le_t rfl, le_t rfl⟩ rfl (le_t rfl) fun μ19 T20 F21 h22 => ?_
  refine sv_aload (pc := 29) dX8_handOver_29 rfl ?_
  refine sv_aload_n (pc := 31) dX8_handOver_31 rfl rfl ?_
  refine gf_X8_11 (pc := 32) dX8_handOver_32 wF_X8_62 (A_32 hw) T20 fun z23 q24 h25 => ?_
  refine pf_X7_9 (pc := 35) dX8_handOver_35 wF_X8_110 A9 T20 h25 fun μ26 u27 T28 => ?_
  exact mr_vret dX8_handOver_38 rfl (le_t rfl) (le_t rfl) T28 (mF.up (mF.call mF.refl F21 rfl) A9 u27 rfl) trivial
theorem vc_X8_compose_3 {n1 p2 z21 : Int} (h0 : z21 = p2) (h1 : (0 ≤ z21 → z21 < n1)) (h2 : 0 ≤ p2 ∧ p2 ≤ 19) (h3 : (-99999999) ≤ z21 ∧ z21 ≤ 19) (h4 : z21 = -99999999 ∨ z21 = -4 ∨ (0 ≤ z21 ∧ z21 ≤ 19)) : 0 ≤ z21 ∧ z21 ≤ 19 := by omega
set_option maxRecDepth 4000 in
set_option maxHeartbeats 4000000 in
theorem c_X8_compose {l : Launch} {D : va_G} {c : Nat → ClassId} {H0 : Heap} {sa : Nat × Nat × (Nat → Int32)} {w : mW} {μ : mM} (hw : mWF w) (hT : mT w μ) {a1 : Nat} (hA1 : mAt w a1 220) {p2 : Int} (hp2 : 0 ≤ p2 ∧ p2 ≤ 19) {p3 : Int} (hp3 : 0 ≤ p3 ∧ p3 ≤ 1) {p4 : Int} (hp4 : 0 ≤ p4 ∧ p4 ≤ 9) : sC (gG l D c H0 sa) mX8_compose 4 0 0 [.ref 32, .ref a1, iv p2, iv p3, iv p4] (mk w μ) (qV w [200002, 200003, 200004, 200005, 200006, 200007, 200008, 201999, 202999] μ (fun μ1 => True)) := by
  refine sC.of rfl (by decide) (le_t rfl) ?_
  refine mr_lvE (lv' := [(0, .ref 32), (1, .ref a1), (2, iv p2), (3, iv p3), (4, iv p4)]) rfl ?_
  refine sv_aload_n (pc := 0) dX8_compose_0 rfl rfl ?_
  refine mr_iload_n (pc := 1) (z := p3) dX8_compose_1 rfl rfl ?_
  refine mr_cVP (pc := 2) (c_X9_end hw hT hA1 (rW (c := (-2147483648)) (d := 2147483647) hp3 rfl)) (gOk _ _ _ _ _) dX8_compose_2 (tX9_end _ _ _ _ _) ⟨wV_X9_end, wL_X9_end⟩ wM_X8_86 (gCX9 _ _ _ _ _) rfl hA1 rfl ⟨le_t rfl, le_t rfl⟩ ⟨le_t rfl, le_t rfl⟩ rfl (le_t rfl) fun z5 h4 => ?_
  refine mr_istore (pc := 5) (lv' := [(5, iv z5), (0, .ref 32), (1, .ref a1), (2, iv p2), (3, iv p3), (4, iv p4)]) dX8_compose_5 (by decide) rfl ?_
  refine sv_aload_n (pc := 7) dX8_compose_7 rfl rfl ?_
  refine gf_X8_0 (pc := 8) dX8_compose_8 wF_X8_9 (A_32 hw) hT ?_
  refine gf_X10_3 (pc := 11) dX8_compose_11 wF_X8_162 (A_6 hw) hT ?_
  refine mr_iload (pc := 14) (z := z5) dX8_compose_14 rfl ?_
  refine la_10 (pc := 16) dX8_compose_16 (A_10 hw) hT (rIx (n := 10) h4.1 rfl) (vc_X9_end_1 h4.2.1 h4.1) fun b6 q7 A8 => ?_
  refine mr_astore (pc := 17) (lv' := [(6, .ref b6), (5, iv z5), (0, .ref 32), (1, .ref a1), (2, iv p2), (3, iv p3), (4, iv p4)]) dX8_compose_17 (by decide) rfl ?_
  refine sv_aload_n (pc := 19) dX8_compose_19 rfl rfl ?_
  refine gf_X8_8 (pc := 20) dX8_compose_20 wF_X8_49 (A_32 hw) hT ?_
  refine sv_aload (pc := 23) dX8_compose_23 rfl ?_
  refine gf_X0_3 (pc := 25) dX8_compose_25 wF_X8_193 A8 hT fun A9 => ?_
  refine mr_iload (pc := 28) (z := p4) dX8_compose_28 rfl ?_
  refine la_214 (pc := 30) dX8_compose_30 A9 hT (rIx (n := 10) hp4 rfl) fun b10 q11 A12 => ?_
  refine mr_cVV (pc := 31) (c_X7_become hw hT (A_73 hw) A12) (gOk _ _ _ _ _) dX8_compose_31 (tX7_become _ _ _ _ _) ⟨wV_X7_become, wL_X7_become⟩ wM_X8_106 (gCX7 _ _ _ _ _) rfl (A_73 hw) rfl ⟨le_t rfl, le_t rfl⟩ ⟨le_t rfl, le_t rfl⟩ rfl (le_t rfl) fun μ13 T14 F15 h16 => ?_
  refine sv_aload_n (pc := 34) dX8_compose_34 rfl rfl ?_
  refine gf_X8_8 (pc := 35) dX8_compose_35 wF_X8_49 (A_32 hw) T14 ?_
  refine mr_bipush (pc := 38) (z := 100) dX8_compose_38 (by decide) ?_
  refine pf_X7_4 (pc := 40) dX8_compose_40 wF_X8_260 (A_73 hw) T14 (rW (c := (-2147483648)) (d := 2147483647) (rR (x := 100)) rfl) fun μ17 u18 T19 => ?_
  refine sv_aload (pc := 43) dX8_compose_43 rfl ?_
  refine gf_X0_2 (pc := 45) dX8_compose_45 wF_X8_190 A8 T19 fun A20 => ?_
  refine mr_iload (pc := 48) (z := p4) dX8_compose_48 rfl ?_
  refine la_213 (pc := 50) dX8_compose_50 A20 T19 (rIx (n := 10) hp4 rfl) fun z21 q22 h23 => ?_
  have h24 : (-99999999) ≤ z21 ∧ z21 ≤ 19 := (vc_X12_sends_3 h23.1)
  refine mr_iload_n (pc := 51) (z := p2) dX8_compose_51 rfl rfl ?_
  refine mr_icmp_eq (pc := 52) (tgt := 68) dX8_compose_52 (by decide) (r32 h24 rfl) (r32 hp2 rfl) (fun h39 => ?_) (fun h39 => ?_)
  · have h40 : 0 ≤ z21 ∧ z21 ≤ 19 := (vc_X8_compose_3 h39 h23.2 hp2 h24 h23.1)
    refine sv_aload_n (pc := 68) dX8_compose_68 rfl rfl ?_
    refine gf_X8_8 (pc := 69) dX8_compose_69 wF_X8_49 (A_32 hw) T19 ?_
    refine mr_iconst (pc := 72) (z := 0) dX8_compose_72 ?_
    refine pf_X7_2 (pc := 73) dX8_compose_73 wF_X8_203 (A_73 hw) T19 (rW (c := 0) (d := 1) (rR (x := 0)) rfl) fun μ41 u42 T43 => ?_
    exact mr_vret dX8_compose_76 rfl (le_t rfl) (le_t rfl) T43 (mF.up (mF.up (mF.call mF.refl F15 rfl) (A_73 hw) u18 rfl) (A_73 hw) u42 rfl) trivial
  refine sv_aload_n (pc := 55) dX8_compose_55 rfl rfl ?_
  refine gf_X8_8 (pc := 56) dX8_compose_56 wF_X8_49 (A_32 hw) T19 ?_
  refine mr_iload (pc := 59) (z := z5) dX8_compose_59 rfl ?_
  refine mr_iconst (pc := 61) (z := 1) dX8_compose_61 ?_
  refine mr_cVI (pc := 62) (c_X7_putInFront hw T19 (A_73 hw) (rW (c := (-2147483648)) (d := 2147483647) h4.1 rfl) (rW (c := (-2147483648)) (d := 1000000) (rR (x := 1)) rfl)) (gOk _ _ _ _ _) dX8_compose_62 (tX7_putInFront _ _ _ _ _) ⟨wV_X7_putInFront, wL_X7_putInFront⟩ wM_X8_272 (gCX7 _ _ _ _ _) rfl (A_73 hw) rfl ⟨le_t rfl, le_t rfl⟩ ⟨le_t rfl, le_t rfl⟩ rfl (le_t rfl) fun z48 μ44 T45 F46 h47 => ?_
  refine mr_if_ne (pc := 65) (tgt := 76) dX8_compose_65 (by decide) (r32 h47.1 rfl) (fun h54 => ?_) (fun h54 => ?_)
  · have h55 : 1 ≤ z48 ∧ z48 ≤ 1 := (vc_X12_ring_24 h54 h47.1)
    exact mr_vret dX8_compose_76 rfl (le_t rfl) (le_t rfl) T45 (mF.call (mF.up (mF.call mF.refl F15 rfl) (A_73 hw) u18 rfl) F46 rfl) trivial
  have h56 : 0 ≤ z48 ∧ z48 ≤ 0 := (vc_X12_ring_22 h54 h47.1)
  refine sv_aload_n (pc := 68) dX8_compose_68 rfl rfl ?_
  refine gf_X8_8 (pc := 69) dX8_compose_69 wF_X8_49 (A_32 hw) T45 ?_
  refine mr_iconst (pc := 72) (z := 0) dX8_compose_72 ?_
  refine pf_X7_2 (pc := 73) dX8_compose_73 wF_X8_203 (A_73 hw) T45 (rW (c := 0) (d := 1) (rR (x := 0)) rfl) fun μ57 u58 T59 => ?_
  exact mr_vret dX8_compose_76 rfl (le_t rfl) (le_t rfl) T59 (mF.up (mF.call (mF.up (mF.call mF.refl F15 rfl) (A_73 hw) u18 rfl) F46 rfl) (A_73 hw) u58 rfl) trivial
theorem vc_X8_say_1 {n1 p1 : Int} (h0 : p1 < n1) (h1 : 0 ≤ p1 ∧ p1 ≤ 19) : p1 < n1 := by omega
theorem vc_X8_say_4 {z58 : Int} (h0 : z58 = (-1)) (h1 : (-1) ≤ z58 ∧ z58 ≤ 2000000000) : (-1) ≤ z58 ∧ z58 ≤ (-1) := by omega
theorem vc_X8_say_5 {n1 p1 p2 p3 z77 : Int} (h0 : z77 = ((((40 * p1) + (20 * p2)) + (2 * p3)) + 0)) (h1 : p1 < n1) (h2 : 0 ≤ p1 ∧ p1 ≤ 19) (h3 : 0 ≤ p2 ∧ p2 ≤ 1) (h4 : 0 ≤ p3 ∧ p3 ≤ 9) (h5 : 0 ≤ z77 ∧ z77 ≤ 839) : 0 ≤ z77 ∧ z77 ≤ 798 := by omega
theorem vc_X8_say_6 {n1 p1 p2 p3 z77 : Int} (h0 : p1 < n1) (h1 : z77 = ((((40 * p1) + (20 * p2)) + (2 * p3)) + 0)) (h2 : 0 ≤ p1 ∧ p1 ≤ 19) (h3 : 0 ≤ p2 ∧ p2 ≤ 1) (h4 : 0 ≤ p3 ∧ p3 ≤ 9) (h5 : 0 ≤ z77 ∧ z77 ≤ 798) : z77 < 40 * n1 := by omega
theorem vc_X8_say_7 {z58 : Int} (h0 : ¬ z58 = (-1)) (h1 : (-1) ≤ z58 ∧ z58 ≤ 2000000000) : 0 ≤ z58 ∧ z58 ≤ 2000000000 := by omega
theorem vc_X8_say_8 {z58 z91 z94 : Int} (h0 : (z58 + z94) ≤ z91) (h1 : ¬ z58 = (-1)) (h2 : 0 ≤ z58 ∧ z58 ≤ 2000000000) (h3 : (-1) ≤ z91 ∧ z91 ≤ 2000000000) (h4 : 0 ≤ z94 ∧ z94 ≤ 1000) : 0 ≤ z91 ∧ z91 ≤ 2000000000 := by omega
theorem vc_X8_say_11 {n1 p1 p2 p3 z127 : Int} (h0 : z127 = ((((40 * p1) + (20 * p2)) + (2 * p3)) + 1)) (h1 : p1 < n1) (h2 : 0 ≤ p1 ∧ p1 ≤ 19) (h3 : 0 ≤ p2 ∧ p2 ≤ 1) (h4 : 0 ≤ p3 ∧ p3 ≤ 9) (h5 : 0 ≤ z127 ∧ z127 ≤ 839) : 1 ≤ z127 ∧ z127 ≤ 799 := by omega
theorem vc_X8_say_14 {n1 p1 p2 p3 z127 : Int} (h0 : p1 < n1) (h1 : z127 = ((((40 * p1) + (20 * p2)) + (2 * p3)) + 1)) (h2 : 0 ≤ p1 ∧ p1 ≤ 19) (h3 : 0 ≤ p2 ∧ p2 ≤ 1) (h4 : 0 ≤ p3 ∧ p3 ≤ 9) (h5 : 1 ≤ z127 ∧ z127 ≤ 799) : z127 < 40 * n1 := by omega
theorem vc_X8_say_18 {z150 : Int} (h0 : z150 = -99999999 ∨ (0 ≤ z150 ∧ z150 ≤ 11)) : -99999999 ≤ z150 ∧ z150 ≤ 11 := by omega
set_option maxRecDepth 4000 in
set_option maxHeartbeats 4000000 in
theorem c_X8_say {l : Launch} {D : va_G} {c : Nat → ClassId} {H0 : Heap} {sa : Nat × Nat × (Nat → Int32)} {w : mW} {μ : mM} (hw : mWF w) (hT : mT w μ) {p1 : Int} (hp1 : 0 ≤ p1 ∧ p1 ≤ 19) {p2 : Int} (hp2 : 0 ≤ p2 ∧ p2 ≤ 1) {p3 : Int} (hp3 : 0 ≤ p3 ∧ p3 ≤ 9) (hq0 : p1 < w.2.2.2 1) (hIPC : PC w μ) : sC (gG l D c H0 sa) mX8_say 41 0 0 [.ref 32, iv p1, iv p2, iv p3] (mk w μ) (qV w [21002, 21003, 21004, 21005, 21006, 21007, 32010, 33999, 34999, 200002, 200003, 200004, 200005, 200006, 200007, 200008, 200009, 201999, 202999] μ (fun μ1 => True)) := by
  refine sC.of rfl (by decide) (le_t rfl) ?_
  refine mr_lvE (lv' := [(0, .ref 32), (1, iv p1), (2, iv p2), (3, iv p3)]) rfl ?_
  refine sv_aload_n (pc := 0) dX8_say_0 rfl rfl ?_
  refine gf_X8_0 (pc := 1) dX8_say_1 wF_X8_9 (A_32 hw) hT ?_
  refine gf_X10_4 (pc := 4) dX8_say_4 wF_X8_76 (A_6 hw) hT ?_
  refine mr_iload_n (pc := 7) (z := p1) dX8_say_7 rfl rfl ?_
  refine la_11 (pc := 8) dX8_say_8 (A_11 hw) hT (rIx (n := 20) hp1 rfl) (vc_X8_say_1 hq0 hp1) fun b1 q2 A3 => ?_
  refine mr_astore (pc := 9) (lv' := [(4, .ref b1), (0, .ref 32), (1, iv p1), (2, iv p2), (3, iv p3)]) dX8_say_9 (by decide) rfl ?_
  refine sv_aload (pc := 11) dX8_say_11 rfl ?_
  refine gf_X9_6 (pc := 13) dX8_say_13 wF_X8_136 A3 hT fun z4 q5 h6 => ?_
  refine mr_if_ne (pc := 16) (tgt := 20) dX8_say_16 (by decide) (r32 h6 rfl) (fun h7 => ?_) (fun h7 => ?_)
  · have h8 : 1 ≤ z4 ∧ z4 ≤ 1 := (vc_X12_ring_24 h7 h6)
    refine sv_aload_n (pc := 20) dX8_say_20 rfl rfl ?_
    refine sv_aload (pc := 21) dX8_say_21 rfl ?_
    refine mr_iload_n (pc := 23) (z := p1) dX8_say_23 rfl rfl ?_
    refine mr_iload_n (pc := 24) (z := p2) dX8_say_24 rfl rfl ?_
    refine mr_iload_n (pc := 25) (z := p3) dX8_say_25 rfl rfl ?_
    refine mr_cVV (pc := 26) (c_X8_compose hw hT A3 hp1 hp2 hp3) (gOk _ _ _ _ _) dX8_say_26 (tX8_compose _ _ _ _ _) ⟨wV_X8_compose, wL_X8_compose⟩ wM_X8_256 (gCX8 _ _ _ _ _) rfl (A_32 hw) rfl ⟨le_t rfl, le_t rfl⟩ ⟨le_t rfl, le_t rfl⟩ rfl (le_t rfl) fun μ9 T10 F11 h12 => ?_
    refine sv_aload_n (pc := 29) dX8_say_29 rfl rfl ?_
    refine gf_X8_8 (pc := 30) dX8_say_30 wF_X8_49 (A_32 hw) T10 ?_
    refine gf_X7_2 (pc := 33) dX8_say_33 wF_X8_203 (A_73 hw) T10 fun z13 q14 h15 => ?_
    have J38 : ∀ (μ33 : mM), (mT w μ33) → (mF [21002, 21003, 21004, 21005, 21006, 21007, 200002, 200004, 200006, 200007, 200008, 201999, 202999] w μ9 μ33) → (PC w μ33) → sV (gG l D c H0 sa) mX8_say (sRm 41 0 0) (sZ (gG l D c H0 sa) 0 0 (qV w [21002, 21003, 21004, 21005, 21006, 21007, 32010, 33999, 34999, 200002, 200003, 200004, 200005, 200006, 200007, 200008, 200009, 201999, 202999] μ (fun μ1 => True))) 75 [(0, .ref 32), (1, iv p1), (2, iv p2), (3, iv p3), (4, .ref b1)] [] (mk w μ33) 0 0 := by
      intro μ33 T34 F35 I37
      refine sv_aload_n (pc := 75) dX8_say_75 rfl rfl ?_
      refine gf_X8_8 (pc := 76) dX8_say_76 wF_X8_49 (A_32 hw) T34 ?_
      refine mr_bipush (pc := 79) (z := 100) dX8_say_79 (by decide) ?_
      refine pf_X7_4 (pc := 81) dX8_say_81 wF_X8_260 (A_73 hw) T34 (rW (c := (-2147483648)) (d := 2147483647) (rR (x := 100)) rfl) fun μ39 u40 T41 => ?_
      refine sv_aload (pc := 84) dX8_say_84 rfl ?_
      refine gf_X9_5 (pc := 86) dX8_say_86 wF_X8_103 A3 T41 fun A42 => ?_
      refine mr_iload_n (pc := 89) (z := p2) dX8_say_89 rfl rfl ?_
      refine mr_iload_n (pc := 90) (z := p3) dX8_say_90 rfl rfl ?_
      refine mr_cSP (pc := 91) (c_X9_placeOf hw T41 hp2 hp3) (gOk _ _ _ _ _) dX8_say_91 (tX9_placeOf _ _ _ _ _) wS_X9_placeOf wM_X8_99 ⟨le_t rfl, le_t rfl⟩ ⟨le_t rfl, le_t rfl⟩ rfl (le_t rfl) fun z47 h46 => ?_
      refine la_223 (pc := 94) dX8_say_94 A42 T41 (rIx (n := 20) h46.1 rfl) fun b48 q49 A50 => ?_
      refine mr_astore (pc := 95) (lv' := [(5, .ref b48), (0, .ref 32), (1, iv p1), (2, iv p2), (3, iv p3), (4, .ref b1)]) dX8_say_95 (by decide) rfl ?_
      refine sv_aload_n (pc := 97) dX8_say_97 rfl rfl ?_
      refine gf_X8_8 (pc := 98) dX8_say_98 wF_X8_49 (A_32 hw) T41 ?_
      refine sv_aload (pc := 101) dX8_say_101 rfl ?_
      refine mr_cVP (pc := 103) (c_X7_isAlike hw T41 (A_73 hw) A50) (gOk _ _ _ _ _) dX8_say_103 (tX7_isAlike _ _ _ _ _) ⟨wV_X7_isAlike, wL_X7_isAlike⟩ wM_X8_196 (gCX7 _ _ _ _ _) rfl (A_73 hw) rfl ⟨le_t rfl, le_t rfl⟩ ⟨le_t rfl, le_t rfl⟩ rfl (le_t rfl) fun z55 h54 => ?_
      refine mr_if_eq (pc := 106) (tgt := 110) dX8_say_106 (by decide) (r32 h54.1 rfl) (fun h56 => ?_) (fun h56 => ?_)
      · have h57 : 0 ≤ z55 ∧ z55 ≤ 0 := (vc_X12_ring_22 h56 h54.1)
        refine sv_aload (pc := 110) dX8_say_110 rfl ?_
        refine gf_X7_9 (pc := 112) dX8_say_112 wF_X8_110 A50 T41 fun z58 q59 h60 => ?_
        refine mr_iconst (pc := 115) (z := (-1)) dX8_say_115 ?_
        refine mr_icmp_eq (pc := 116) (tgt := 175) dX8_say_116 (by decide) (r32 h60 rfl) (r32 (rR (x := (-1))) rfl) (fun h61 => ?_) (fun h61 => ?_)
        · have h62 : (-1) ≤ z58 ∧ z58 ≤ (-1) := (vc_X8_say_4 h61 h60)
          refine sv_aload (pc := 175) dX8_say_175 rfl ?_
          refine sv_aload_n (pc := 177) dX8_say_177 rfl rfl ?_
          refine gf_X8_8 (pc := 178) dX8_say_178 wF_X8_49 (A_32 hw) T41 ?_
          refine mr_cVV (pc := 181) (c_X7_become hw T41 A50 (A_73 hw)) (gOk _ _ _ _ _) dX8_say_181 (tX7_become _ _ _ _ _) ⟨wV_X7_become, wL_X7_become⟩ wM_X8_106 (gCX7 _ _ _ _ _) rfl A50 rfl ⟨le_t rfl, le_t rfl⟩ ⟨le_t rfl, le_t rfl⟩ rfl (le_t rfl) fun μ63 T64 F65 h66 => ?_
          refine sv_aload (pc := 184) dX8_say_184 rfl ?_
          refine sv_aload_n (pc := 186) dX8_say_186 rfl rfl ?_
          refine gf_X8_11 (pc := 187) dX8_say_187 wF_X8_62 (A_32 hw) T64 fun z67 q68 h69 => ?_
          refine pf_X7_9 (pc := 190) dX8_say_190 wF_X8_110 A50 T64 h69 fun μ70 u71 T72 => ?_
          refine mr_iload_n (pc := 193) (z := p1) dX8_say_193 rfl rfl ?_
          refine mr_iload_n (pc := 194) (z := p2) dX8_say_194 rfl rfl ?_
          refine mr_iload_n (pc := 195) (z := p3) dX8_say_195 rfl rfl ?_
          refine mr_iconst (pc := 196) (z := 0) dX8_say_196 ?_
          refine mr_cSP (pc := 197) (c_X8_slotOf hw T72 (rW (c := 0) (d := 20) hp1 rfl) hp2 hp3 (rW (c := 0) (d := 1) (rR (x := 0)) rfl)) (gOk _ _ _ _ _) dX8_say_197 (tX8_slotOf _ _ _ _ _) wS_X8_slotOf wM_X8_143 ⟨le_t rfl, le_t rfl⟩ ⟨le_t rfl, le_t rfl⟩ rfl (le_t rfl) fun z77 h76 => ?_
          have h78 : 0 ≤ z77 ∧ z77 ≤ 798 := (vc_X8_say_5 h76.2.1 hq0 hp1 hp2 hp3 h76.1)
          refine mr_istore (pc := 200) (lv' := [(6, iv z77), (5, .ref b48), (0, .ref 32), (1, iv p1), (2, iv p2), (3, iv p3), (4, .ref b1)]) dX8_say_200 (by decide) rfl ?_
          refine sv_aload_n (pc := 202) dX8_say_202 rfl rfl ?_
          refine mr_iload (pc := 203) (z := z77) dX8_say_203 rfl ?_
          refine mr_cVV (pc := 205) (c_X8_cancel hw T72 (rW (c := 0) (d := 799) h78 rfl)) (gOk _ _ _ _ _) dX8_say_205 (tX8_cancel _ _ _ _ _) ⟨wV_X8_cancel, wL_X8_cancel⟩ wM_X8_65 (gCX8 _ _ _ _ _) rfl (A_32 hw) rfl ⟨le_t rfl, le_t rfl⟩ ⟨le_t rfl, le_t rfl⟩ rfl (le_t rfl) fun μ79 T80 F81 h82 => ?_
          refine sv_aload_n (pc := 208) dX8_say_208 rfl rfl ?_
          refine mr_iload (pc := 209) (z := z77) dX8_say_209 rfl ?_
          refine sv_aload_n (pc := 211) dX8_say_211 rfl rfl ?_
          refine gk_X8_11 (pc := 212) dX8_say_212 wF_X8_62 (A_32 hw) (F81.f (A_32 hw) rfl (u71.f (Or.inl (mAt.ne A50 (A_32 hw) rfl)) q68)) ?_
          refine sv_aload (pc := 215) dX8_say_215 rfl ?_
          refine gf_X9_7 (pc := 217) dX8_say_217 wF_X8_269 A3 T80 fun z83 q84 h85 => ?_
          refine mr_iadd (pc := 220) (x := z67) (y := z83) dX8_say_220 ?_
          refine mr_cVV (pc := 221) (c_X8_schedule hw T80 (rW (c := 0) (d := 799) h78 rfl) (rAdd (e := (-1)) (f := 2000001000) h69 h85 rfl) (vc_X8_say_6 hq0 h76.2.1 hp1 hp2 hp3 h78)) (gOk _ _ _ _ _) dX8_say_221 (tX8_schedule _ _ _ _ _) ⟨wV_X8_schedule, wL_X8_schedule⟩ wM_X8_266 (gCX8 _ _ _ _ _) rfl (A_32 hw) rfl ⟨le_t rfl, le_t rfl⟩ ⟨le_t rfl, le_t rfl⟩ rfl (le_t rfl) fun μ86 T87 F88 h89 => ?_
          exact mr_vret dX8_say_224 rfl (le_t rfl) (le_t rfl) T87 (mF.call (mF.call (mF.up (mF.call (mF.up (mF.call (mF.call mF.refl F11 rfl) F35 rfl) (A_73 hw) u40 rfl) F65 rfl) A50 u71 rfl) F81 rfl) F88 rfl) trivial
        have h90 : 0 ≤ z58 ∧ z58 ≤ 2000000000 := (vc_X8_say_7 h61 h60)
        refine sv_aload_n (pc := 119) dX8_say_119 rfl rfl ?_
        refine gf_X8_11 (pc := 120) dX8_say_120 wF_X8_62 (A_32 hw) T41 fun z91 q92 h93 => ?_
        refine sv_aload (pc := 123) dX8_say_123 rfl ?_
        refine gk_X7_9 (pc := 125) dX8_say_125 wF_X8_110 A50 q59 ?_
        refine sv_aload (pc := 128) dX8_say_128 rfl ?_
        refine gf_X9_8 (pc := 130) dX8_say_130 wF_X8_263 A3 T41 fun z94 q95 h96 => ?_
        refine mr_iadd (pc := 133) (x := z58) (y := z94) dX8_say_133 ?_
        refine mr_icmp_ge (pc := 134) (tgt := 175) dX8_say_134 (by decide) (r32 h93 rfl) (r32 (rAdd (e := 0) (f := 2000001000) h90 h96 rfl) rfl) (fun h97 => ?_) (fun h97 => ?_)
        · have h98 : 0 ≤ z91 ∧ z91 ≤ 2000000000 := (vc_X8_say_8 h97 h61 h90 h93 h96)
          refine sv_aload (pc := 175) dX8_say_175 rfl ?_
          refine sv_aload_n (pc := 177) dX8_say_177 rfl rfl ?_
          refine gf_X8_8 (pc := 178) dX8_say_178 wF_X8_49 (A_32 hw) T41 ?_
          refine mr_cVV (pc := 181) (c_X7_become hw T41 A50 (A_73 hw)) (gOk _ _ _ _ _) dX8_say_181 (tX7_become _ _ _ _ _) ⟨wV_X7_become, wL_X7_become⟩ wM_X8_106 (gCX7 _ _ _ _ _) rfl A50 rfl ⟨le_t rfl, le_t rfl⟩ ⟨le_t rfl, le_t rfl⟩ rfl (le_t rfl) fun μ99 T100 F101 h102 => ?_
          refine sv_aload (pc := 184) dX8_say_184 rfl ?_
          refine sv_aload_n (pc := 186) dX8_say_186 rfl rfl ?_
          refine gk_X8_11 (pc := 187) dX8_say_187 wF_X8_62 (A_32 hw) (F101.f (A_32 hw) rfl q92) ?_
          refine pf_X7_9 (pc := 190) dX8_say_190 wF_X8_110 A50 T100 (rW (c := (-1)) (d := 2000000000) h98 rfl) fun μ103 u104 T105 => ?_
          refine mr_iload_n (pc := 193) (z := p1) dX8_say_193 rfl rfl ?_
          refine mr_iload_n (pc := 194) (z := p2) dX8_say_194 rfl rfl ?_
          refine mr_iload_n (pc := 195) (z := p3) dX8_say_195 rfl rfl ?_
          refine mr_iconst (pc := 196) (z := 0) dX8_say_196 ?_
          refine mr_cSP (pc := 197) (c_X8_slotOf hw T105 (rW (c := 0) (d := 20) hp1 rfl) hp2 hp3 (rW (c := 0) (d := 1) (rR (x := 0)) rfl)) (gOk _ _ _ _ _) dX8_say_197 (tX8_slotOf _ _ _ _ _) wS_X8_slotOf wM_X8_143 ⟨le_t rfl, le_t rfl⟩ ⟨le_t rfl, le_t rfl⟩ rfl (le_t rfl) fun z110 h109 => ?_
          have h111 : 0 ≤ z110 ∧ z110 ≤ 798 := (vc_X8_say_5 h109.2.1 hq0 hp1 hp2 hp3 h109.1)
          refine mr_istore (pc := 200) (lv' := [(6, iv z110), (5, .ref b48), (0, .ref 32), (1, iv p1), (2, iv p2), (3, iv p3), (4, .ref b1)]) dX8_say_200 (by decide) rfl ?_
          refine sv_aload_n (pc := 202) dX8_say_202 rfl rfl ?_
          refine mr_iload (pc := 203) (z := z110) dX8_say_203 rfl ?_
          refine mr_cVV (pc := 205) (c_X8_cancel hw T105 (rW (c := 0) (d := 799) h111 rfl)) (gOk _ _ _ _ _) dX8_say_205 (tX8_cancel _ _ _ _ _) ⟨wV_X8_cancel, wL_X8_cancel⟩ wM_X8_65 (gCX8 _ _ _ _ _) rfl (A_32 hw) rfl ⟨le_t rfl, le_t rfl⟩ ⟨le_t rfl, le_t rfl⟩ rfl (le_t rfl) fun μ112 T113 F114 h115 => ?_
          refine sv_aload_n (pc := 208) dX8_say_208 rfl rfl ?_
          refine mr_iload (pc := 209) (z := z110) dX8_say_209 rfl ?_
          refine sv_aload_n (pc := 211) dX8_say_211 rfl rfl ?_
          refine gk_X8_11 (pc := 212) dX8_say_212 wF_X8_62 (A_32 hw) (F114.f (A_32 hw) rfl (u104.f (Or.inl (mAt.ne A50 (A_32 hw) rfl)) (F101.f (A_32 hw) rfl q92))) ?_
          refine sv_aload (pc := 215) dX8_say_215 rfl ?_
          refine gf_X9_7 (pc := 217) dX8_say_217 wF_X8_269 A3 T113 fun z116 q117 h118 => ?_
          refine mr_iadd (pc := 220) (x := z91) (y := z116) dX8_say_220 ?_
          refine mr_cVV (pc := 221) (c_X8_schedule hw T113 (rW (c := 0) (d := 799) h111 rfl) (rW (c := (-1)) (d := 2000001000) (rAdd (e := 0) (f := 2000001000) h98 h118 rfl) rfl) (vc_X8_say_6 hq0 h109.2.1 hp1 hp2 hp3 h111)) (gOk _ _ _ _ _) dX8_say_221 (tX8_schedule _ _ _ _ _) ⟨wV_X8_schedule, wL_X8_schedule⟩ wM_X8_266 (gCX8 _ _ _ _ _) rfl (A_32 hw) rfl ⟨le_t rfl, le_t rfl⟩ ⟨le_t rfl, le_t rfl⟩ rfl (le_t rfl) fun μ119 T120 F121 h122 => ?_
          exact mr_vret dX8_say_224 rfl (le_t rfl) (le_t rfl) T120 (mF.call (mF.call (mF.up (mF.call (mF.up (mF.call (mF.call mF.refl F11 rfl) F35 rfl) (A_73 hw) u40 rfl) F101 rfl) A50 u104 rfl) F114 rfl) F121 rfl) trivial
        refine mr_iload_n (pc := 137) (z := p1) dX8_say_137 rfl rfl ?_
        refine mr_iload_n (pc := 138) (z := p2) dX8_say_138 rfl rfl ?_
        refine mr_iload_n (pc := 139) (z := p3) dX8_say_139 rfl rfl ?_
        refine mr_iconst (pc := 140) (z := 1) dX8_say_140 ?_
        refine mr_cSP (pc := 141) (c_X8_slotOf hw T41 (rW (c := 0) (d := 20) hp1 rfl) hp2 hp3 (rW (c := 0) (d := 1) (rR (x := 1)) rfl)) (gOk _ _ _ _ _) dX8_say_141 (tX8_slotOf _ _ _ _ _) wS_X8_slotOf wM_X8_143 ⟨le_t rfl, le_t rfl⟩ ⟨le_t rfl, le_t rfl⟩ rfl (le_t rfl) fun z127 h126 => ?_
        have h128 : 1 ≤ z127 ∧ z127 ≤ 799 := (vc_X8_say_11 h126.2.1 hq0 hp1 hp2 hp3 h126.1)
        refine mr_istore (pc := 144) (lv' := [(6, iv z127), (5, .ref b48), (0, .ref 32), (1, iv p1), (2, iv p2), (3, iv p3), (4, .ref b1)]) dX8_say_144 (by decide) rfl ?_
        refine sv_aload_n (pc := 146) dX8_say_146 rfl rfl ?_
        refine gf_X8_3 (pc := 147) dX8_say_147 wF_X8_23 (A_32 hw) T41 ?_
        refine mr_iload (pc := 150) (z := z127) dX8_say_150 rfl ?_
        refine la_34 (pc := 152) dX8_say_152 (A_34 hw) T41 (rIx (n := 800) h128 rfl) fun z129 q130 h131 => ?_
        refine mr_iconst (pc := 153) (z := (-1)) dX8_say_153 ?_
        refine mr_icmp_ne (pc := 154) (tgt := 174) dX8_say_154 (by decide) (r32 h131 rfl) (r32 (rR (x := (-1))) rfl) (fun h138 => ?_) (fun h138 => ?_)
        · have h139 : 0 ≤ z129 ∧ z129 ≤ 2000001000 := (vc_X8_cancel_1 h138 h131)
          exact mr_vret dX8_say_174 rfl (le_t rfl) (le_t rfl) T41 (mF.up (mF.call (mF.call mF.refl F11 rfl) F35 rfl) (A_73 hw) u40 rfl) trivial
        have h140 : (-1) ≤ z129 ∧ z129 ≤ (-1) := (vc_X8_cancel_13 h138 h131)
        refine sv_aload_n (pc := 157) dX8_say_157 rfl rfl ?_
        refine mr_iload (pc := 158) (z := z127) dX8_say_158 rfl ?_
        refine sv_aload (pc := 160) dX8_say_160 rfl ?_
        refine gk_X7_9 (pc := 162) dX8_say_162 wF_X8_110 A50 q59 ?_
        refine sv_aload (pc := 165) dX8_say_165 rfl ?_
        refine gk_X9_8 (pc := 167) dX8_say_167 wF_X8_263 A3 q95 ?_
        refine mr_iadd (pc := 170) (x := z58) (y := z94) dX8_say_170 ?_
        refine mr_cVV (pc := 171) (c_X8_schedule hw T41 (rW (c := 0) (d := 799) h128 rfl) (rW (c := (-1)) (d := 2000001000) (rAdd (e := 0) (f := 2000001000) h90 h96 rfl) rfl) (vc_X8_say_14 hq0 h126.2.1 hp1 hp2 hp3 h128)) (gOk _ _ _ _ _) dX8_say_171 (tX8_schedule _ _ _ _ _) ⟨wV_X8_schedule, wL_X8_schedule⟩ wM_X8_266 (gCX8 _ _ _ _ _) rfl (A_32 hw) rfl ⟨le_t rfl, le_t rfl⟩ ⟨le_t rfl, le_t rfl⟩ rfl (le_t rfl) fun μ141 T142 F143 h144 => ?_
        exact mr_vret dX8_say_174 rfl (le_t rfl) (le_t rfl) T142 (mF.call (mF.up (mF.call (mF.call mF.refl F11 rfl) F35 rfl) (A_73 hw) u40 rfl) F143 rfl) trivial
      have h145 : 1 ≤ z55 ∧ z55 ≤ 1 := (vc_X12_ring_24 h56 h54.1)
      exact mr_vret dX8_say_109 rfl (le_t rfl) (le_t rfl) T41 (mF.up (mF.call (mF.call mF.refl F11 rfl) F35 rfl) (A_73 hw) u40 rfl) trivial
    refine mr_if_eq (pc := 36) (tgt := 75) dX8_say_36 (by decide) (r32 h15 rfl) (fun h146 => ?_) (fun h146 => ?_)
    · have h147 : 0 ≤ z13 ∧ z13 ≤ 0 := (vc_X12_ring_22 h146 h15)
      refine mr_lvS (lv' := [(0, .ref 32), (1, iv p1), (2, iv p2), (3, iv p3), (4, .ref b1)]) (List.forall_mem_cons.mpr ⟨rfl, List.forall_mem_cons.mpr ⟨rfl, List.forall_mem_cons.mpr ⟨rfl, List.forall_mem_cons.mpr ⟨rfl, List.forall_mem_cons.mpr ⟨rfl, fun _ h => absurd h List.not_mem_nil⟩⟩⟩⟩⟩) ?_
      exact J38 μ9 T10 mF.refl (PC.keep hIPC hw ((mF.call mF.refl F11 rfl) : mF [200002, 200003, 200004, 200005, 200006, 200007, 200008, 201999, 202999] w μ μ9) rfl)
    have h148 : 1 ≤ z13 ∧ z13 ≤ 1 := (vc_X12_ring_24 h146 h15)
    refine sv_aload_n (pc := 39) dX8_say_39 rfl rfl ?_
    refine gf_X8_1 (pc := 40) dX8_say_40 wF_X8_15 (A_32 hw) T10 ?_
    refine sv_aload (pc := 43) dX8_say_43 rfl ?_
    refine gf_X9_3 (pc := 45) dX8_say_45 wF_X8_213 A3 T10 fun A149 => ?_
    refine mr_iload_n (pc := 48) (z := p2) dX8_say_48 rfl rfl ?_
    refine mr_iconst (pc := 49) (z := 2) dX8_say_49 ?_
    refine mr_imul (pc := 50) (x := p2) (y := 2) dX8_say_50 ?_
    refine mr_iconst (pc := 51) (z := 1) dX8_say_51 ?_
    refine mr_iadd (pc := 52) (x := (p2 * 2)) (y := 1) dX8_say_52 ?_
    refine la_221 (pc := 53) dX8_say_53 A149 T10 (rIx (n := 4) (rAdd (e := 1) (f := 3) (rMulR (n := 2) (e := 0) (f := 2) hp2 rfl) (rR (x := 1)) rfl) rfl) fun z150 q151 h152 => ?_
    have h153 : (-99999999) ≤ z150 ∧ z150 ≤ 11 := (vc_X8_say_18 h152)
    refine sv_aload_n (pc := 54) dX8_say_54 rfl rfl ?_
    refine gf_X8_8 (pc := 55) dX8_say_55 wF_X8_49 (A_32 hw) T10 ?_
    refine sv_aload (pc := 58) dX8_say_58 rfl ?_
    refine mr_iload_n (pc := 60) (z := p2) dX8_say_60 rfl rfl ?_
    refine mr_cVI (pc := 61) (c_X1_lets hw T10 (rW (c := (-2147483648)) (d := 2147483647) h153 rfl) (A_73 hw) A3 hp2 (PC.keep hIPC hw ((mF.call mF.refl F11 rfl) : mF [200002, 200003, 200004, 200005, 200006, 200007, 200008, 201999, 202999] w μ μ9) rfl)) (gOk _ _ _ _ _) dX8_say_61 (tX1_lets _ _ _ _ _) ⟨wV_X1_lets, wL_X1_lets⟩ wM_X8_216 (gCX1 _ _ _ _ _) rfl (A_21 hw) rfl ⟨le_t rfl, le_t rfl⟩ ⟨le_t rfl, le_t rfl⟩ rfl (le_t rfl) fun z158 μ154 T155 F156 h157 => ?_
    refine mr_if_ne (pc := 64) (tgt := 75) dX8_say_64 (by decide) (r32 h157.1 rfl) (fun h159 => ?_) (fun h159 => ?_)
    · have h160 : 1 ≤ z158 ∧ z158 ≤ 1 := (vc_X12_ring_24 h159 h157.1)
      refine mr_lvS (lv' := [(0, .ref 32), (1, iv p1), (2, iv p2), (3, iv p3), (4, .ref b1)]) (List.forall_mem_cons.mpr ⟨rfl, List.forall_mem_cons.mpr ⟨rfl, List.forall_mem_cons.mpr ⟨rfl, List.forall_mem_cons.mpr ⟨rfl, List.forall_mem_cons.mpr ⟨rfl, fun _ h => absurd h List.not_mem_nil⟩⟩⟩⟩⟩) ?_
      exact J38 μ154 T155 (mF.call mF.refl F156 rfl) (PC.keep hIPC hw ((mF.call (mF.call mF.refl F11 rfl) F156 rfl) : mF [21002, 21003, 21004, 21005, 21006, 21007, 200002, 200003, 200004, 200005, 200006, 200007, 200008, 201999, 202999] w μ μ154) rfl)
    have h161 : 0 ≤ z158 ∧ z158 ≤ 0 := (vc_X12_ring_22 h159 h157.1)
    refine sv_aload_n (pc := 67) dX8_say_67 rfl rfl ?_
    refine gf_X8_8 (pc := 68) dX8_say_68 wF_X8_49 (A_32 hw) T155 ?_
    refine mr_iconst (pc := 71) (z := 0) dX8_say_71 ?_
    refine pf_X7_2 (pc := 72) dX8_say_72 wF_X8_203 (A_73 hw) T155 (rW (c := 0) (d := 1) (rR (x := 0)) rfl) fun μ162 u163 T164 => ?_
    refine mr_lvS (lv' := [(0, .ref 32), (1, iv p1), (2, iv p2), (3, iv p3), (4, .ref b1)]) (List.forall_mem_cons.mpr ⟨rfl, List.forall_mem_cons.mpr ⟨rfl, List.forall_mem_cons.mpr ⟨rfl, List.forall_mem_cons.mpr ⟨rfl, List.forall_mem_cons.mpr ⟨rfl, fun _ h => absurd h List.not_mem_nil⟩⟩⟩⟩⟩) ?_
    exact J38 μ162 T164 (mF.up (mF.call mF.refl F156 rfl) (A_73 hw) u163 rfl) (PC.keep hIPC hw ((mF.up (mF.call (mF.call mF.refl F11 rfl) F156 rfl) (A_73 hw) u163 rfl) : mF [21002, 21003, 21004, 21005, 21006, 21007, 200002, 200003, 200004, 200005, 200006, 200007, 200008, 201999, 202999] w μ μ162) rfl)
  have h165 : 0 ≤ z4 ∧ z4 ≤ 0 := (vc_X12_ring_22 h7 h6)
  exact mr_vret dX8_say_19 rfl (le_t rfl) (le_t rfl) hT mF.refl trivial
set_option maxRecDepth 4000 in
set_option maxHeartbeats 4000000 in
theorem c_X8_sayAll {l : Launch} {D : va_G} {c : Nat → ClassId} {H0 : Heap} {sa : Nat × Nat × (Nat → Int32)} {w : mW} {μ : mM} (hw : mWF w) (hT : mT w μ) {p1 : Int} (hp1 : 0 ≤ p1 ∧ p1 ≤ 19) {p2 : Int} (hp2 : 0 ≤ p2 ∧ p2 ≤ 1) (hq0 : p1 < w.2.2.2 1) (hIPC : PC w μ) : sC (gG l D c H0 sa) mX8_sayAll 42 0 0 [.ref 32, iv p1, iv p2] (mk w μ) (qV w [21002, 21003, 21004, 21005, 21006, 21007, 32010, 33999, 34999, 200002, 200003, 200004, 200005, 200006, 200007, 200008, 200009, 201999, 202999] μ (fun μ1 => True)) := by
  refine sC.of rfl (by decide) (le_t rfl) ?_
  refine mr_lvE (lv' := [(0, .ref 32), (1, iv p1), (2, iv p2)]) rfl ?_
  refine mr_iconst (pc := 0) (z := 0) dX8_sayAll_0 ?_
  refine mr_istore_n (pc := 1) (lv' := [(3, iv 0), (0, .ref 32), (1, iv p1), (2, iv p2)]) dX8_sayAll_1 rfl (by decide) rfl ?_
  have L69 : ∀ (nL69 : Nat) (z67 : Int) (μ68 : mM), mT w μ68 → mF [21002, 21003, 21004, 21005, 21006, 21007, 32010, 33999, 34999, 200002, 200003, 200004, 200005, 200006, 200007, 200008, 200009, 201999, 202999] w μ μ68 → (0 ≤ z67 ∧ z67 ≤ 10) → PC w μ68 → (11 - z67) < (nL69 : Int) → sV (gG l D c H0 sa) mX8_sayAll (sRm 42 0 0) (sZ (gG l D c H0 sa) 0 0 (qV w [21002, 21003, 21004, 21005, 21006, 21007, 32010, 33999, 34999, 200002, 200003, 200004, 200005, 200006, 200007, 200008, 200009, 201999, 202999] μ (fun μ1 => True))) 2 [(0, .ref 32), (1, iv p1), (2, iv p2), (3, iv z67)] [] (mk w μ68) 0 0 := by
    intro nL69
    induction nL69 with
    | zero => intro z67 μ68 T71 F72 h70 I74 h75; exact ((vc_X12_ring_2 h75 h70)).elim
    | succ nL69 ih76 =>
      intro z67 μ68 T71 F72 h70 I74 h75
      refine mr_iload_n (pc := 2) (z := z67) dX8_sayAll_2 rfl rfl ?_
      refine sv_aload_n (pc := 3) dX8_sayAll_3 rfl rfl ?_
      refine gf_X8_0 (pc := 4) dX8_sayAll_4 wF_X8_9 (A_32 hw) T71 ?_
      refine gf_X10_14 (pc := 7) dX8_sayAll_7 wF_X8_150 (A_6 hw) T71 fun z77 q78 h79 => ?_
      refine mr_icmp_ge (pc := 10) (tgt := 26) dX8_sayAll_10 (by decide) (r32 h70 rfl) (r32 h79 rfl) (fun h86 => ?_) (fun h86 => ?_)
      · exact mr_vret dX8_sayAll_26 rfl (le_t rfl) (le_t rfl) T71 (mF.call mF.refl F72 rfl) trivial
      have h87 : 0 ≤ z67 ∧ z67 ≤ 9 := (vc_X12_ring_3 h86 h70 h79)
      have h88 : 1 ≤ z77 ∧ z77 ≤ 10 := (vc_X12_ring_4 h86 h87 h79)
      refine sv_aload_n (pc := 13) dX8_sayAll_13 rfl rfl ?_
      refine mr_iload_n (pc := 14) (z := p1) dX8_sayAll_14 rfl rfl ?_
      refine mr_iload_n (pc := 15) (z := p2) dX8_sayAll_15 rfl rfl ?_
      refine mr_iload_n (pc := 16) (z := z67) dX8_sayAll_16 rfl rfl ?_
      refine mr_cVV (pc := 17) (c_X8_say hw T71 hp1 hp2 h87 (vc_X8_say_1 hq0 hp1) I74) (gOk _ _ _ _ _) dX8_sayAll_17 (tX8_say _ _ _ _ _) ⟨wV_X8_say, wL_X8_say⟩ wM_X8_72 (gCX8 _ _ _ _ _) rfl (A_32 hw) rfl ⟨le_t rfl, le_t rfl⟩ ⟨le_t rfl, le_t rfl⟩ rfl (le_t rfl) fun μ89 T90 F91 h92 => ?_
      refine mr_iinc (pc := 20) (lv' := [(3, iv (z67 + 1)), (0, .ref 32), (1, iv p1), (2, iv p2)]) dX8_sayAll_20 rfl (by decide) rfl ?_
      refine sv_goto (pc := 23) (tgt := 2) dX8_sayAll_23 (by decide) ?_
      refine mr_lvS (lv' := [(0, .ref 32), (1, iv p1), (2, iv p2), (3, iv (z67 + 1))]) (List.forall_mem_cons.mpr ⟨rfl, List.forall_mem_cons.mpr ⟨rfl, List.forall_mem_cons.mpr ⟨rfl, List.forall_mem_cons.mpr ⟨rfl, fun _ h => absurd h List.not_mem_nil⟩⟩⟩⟩) ?_
      exact ih76 (z67 + 1) μ89 T90 (mF.call (mF.call mF.refl F72 rfl) F91 rfl) (rW (c := 0) (d := 10) (rAdd (e := 1) (f := 10) h87 (rR (x := 1)) rfl) rfl) (PC.keep I74 hw ((mF.call mF.refl F91 rfl) : mF [21002, 21003, 21004, 21005, 21006, 21007, 32010, 33999, 34999, 200002, 200003, 200004, 200005, 200006, 200007, 200008, 200009, 201999, 202999] w μ68 μ89) rfl) (vc_X12_sends_11 (nS h75) h86 h87 h88)
  refine mr_lvS (lv' := [(0, .ref 32), (1, iv p1), (2, iv p2), (3, iv 0)]) (List.forall_mem_cons.mpr ⟨rfl, List.forall_mem_cons.mpr ⟨rfl, List.forall_mem_cons.mpr ⟨rfl, List.forall_mem_cons.mpr ⟨rfl, fun _ h => absurd h List.not_mem_nil⟩⟩⟩⟩) ?_
  exact L69 12 0 μ hT mF.refl (rW (c := 0) (d := 10) (rR (x := 0)) rfl) hIPC vc_X12_ring_27
theorem vc_X8_gather_1 {n1 : Int}  : 0 ≤ (0 : Int) ∧ (0 : Int) ≤ 10 ∧ ((0 : Int) = 0 ∨ 0 < n1) := by omega
theorem vc_X8_gather_11 {n1 z1227 : Int} (h0 : z1227 < 10) (h1 : (z1227 = 0 ∨ 0 < n1)) (h2 : 0 ≤ z1227 ∧ z1227 ≤ 10) : 0 ≤ z1227 ∧ z1227 ≤ 9 := by omega
theorem vc_X8_gather_15 {n1 z1027 z1037 z1227 : Int} (h0 : z1037 = n1) (h1 : z1027 < z1037) (h2 : (z1227 = 0 ∨ 0 < n1)) (h3 : z1227 < 10) (h4 : 0 ≤ z1027 ∧ z1027 ≤ 19) (h5 : 1 ≤ z1037 ∧ z1037 ≤ 20) (h6 : 0 ≤ z1227 ∧ z1227 ≤ 9) : 0 ≤ z1027 ∧ z1027 ≤ 19 ∧ (z1027 = 0 ∨ z1027 < n1) := by omega
theorem vc_X8_gather_19 {n1 z1027 z1037 z1227 : Int} (h0 : z1037 = n1) (h1 : (z1227 = 0 ∨ 0 < n1)) (h2 : z1227 < 10) (h3 : z1027 < z1037) (h4 : 0 ≤ z1027 ∧ z1027 ≤ 19) (h5 : 1 ≤ z1037 ∧ z1037 ≤ 20) (h6 : 0 ≤ z1227 ∧ z1227 ≤ 9) : 0 ≤ (z1227 + 1) ∧ (z1227 + 1) ≤ 10 ∧ ((z1227 + 1) = 0 ∨ 0 < n1) := by omega
theorem vc_X8_gather_21 {n1 z1227 : Int} (h0 : 10 ≤ z1227) (h1 : (z1227 = 0 ∨ 0 < n1)) (h2 : 0 ≤ z1227 ∧ z1227 ≤ 10) : 10 ≤ z1227 ∧ z1227 ≤ 10 := by omega
set_option maxRecDepth 4000 in
set_option maxHeartbeats 4000000 in
theorem c_X8_gather {l : Launch} {D : va_G} {c : Nat → ClassId} {H0 : Heap} {sa : Nat × Nat × (Nat → Int32)} {w : mW} {μ : mM} (hw : mWF w) (hT : mT w μ) {p1 : Int} (hp1 : 0 ≤ p1 ∧ p1 ≤ 9) {p2 : Int} (hp2 : 0 ≤ p2 ∧ p2 ≤ 9) (hIPC : PC w μ) : sC (gG l D c H0 sa) mX8_gather 41 0 0 [.ref 32, iv p1, iv p2] (mk w μ) (qV w [21002, 21003, 21004, 21005, 21006, 21007, 32009, 200002, 200003, 200004, 200005, 200006, 200007, 200008, 200009, 200010, 200011, 201999, 202999] μ (fun μ1 => True)) := by
  refine sC.of rfl (by decide) (le_t rfl) ?_
  refine mr_lvE (lv' := [(0, .ref 32), (1, iv p1), (2, iv p2)]) rfl ?_
  refine sv_aload_n (pc := 0) dX8_gather_0 rfl rfl ?_
  refine mr_iconst (pc := 1) (z := 0) dX8_gather_1 ?_
  refine pf_X8_9 (pc := 2) dX8_gather_2 wF_X8_200 (A_32 hw) hT vc_X8_gather_1 fun μ1 u2 T3 => ?_
  refine mr_iconst (pc := 5) (z := 0) dX8_gather_5 ?_
  refine mr_istore_n (pc := 6) (lv' := [(3, iv 0), (0, .ref 32), (1, iv p1), (2, iv p2)]) dX8_gather_6 rfl (by decide) rfl ?_
  have L1029 : ∀ (nL1029 : Nat) (z1027 : Int) (μ1028 : mM), mT w μ1028 → mF [21002, 21003, 21004, 21005, 21006, 21007, 32009, 200002, 200003, 200004, 200005, 200006, 200007, 200008, 200009, 200010, 200011, 201999, 202999] w μ1 μ1028 → (0 ≤ z1027 ∧ z1027 ≤ 20) → PC w μ1028 → (21 - z1027) < (nL1029 : Int) → sV (gG l D c H0 sa) mX8_gather (sRm 41 0 0) (sZ (gG l D c H0 sa) 0 0 (qV w [21002, 21003, 21004, 21005, 21006, 21007, 32009, 200002, 200003, 200004, 200005, 200006, 200007, 200008, 200009, 200010, 200011, 201999, 202999] μ (fun μ1 => True))) 7 [(0, .ref 32), (1, iv p1), (2, iv p2), (3, iv z1027)] [] (mk w μ1028) 0 0 := by
    intro nL1029
    induction nL1029 with
    | zero => intro z1027 μ1028 T1031 F1032 h1030 I1034 h1035; exact ((vc_X12_tieOf_1 h1035 h1030)).elim
    | succ nL1029 ih1036 =>
      intro z1027 μ1028 T1031 F1032 h1030 I1034 h1035
      refine mr_iload_n (pc := 7) (z := z1027) dX8_gather_7 rfl rfl ?_
      refine sv_aload_n (pc := 8) dX8_gather_8 rfl rfl ?_
      refine gf_X8_0 (pc := 9) dX8_gather_9 wF_X8_9 (A_32 hw) T1031 ?_
      refine gf_X10_16 (pc := 12) dX8_gather_12 wF_X8_153 (A_6 hw) T1031 fun z1037 q1038 h1039 => ?_
      refine mr_icmp_ge (pc := 15) (tgt := 188) dX8_gather_15 (by decide) (r32 h1030 rfl) (r32 h1039.2 rfl) (fun h1128 => ?_) (fun h1128 => ?_)
      · exact mr_vret dX8_gather_188 rfl (le_t rfl) (le_t rfl) T1031 (mF.call (mF.up mF.refl (A_32 hw) u2 rfl) F1032 rfl) trivial
      have h1129 : 0 ≤ z1027 ∧ z1027 ≤ 19 := (vc_X10_tieBetween_3 h1128 h1039.1 h1030 h1039.2)
      have h1130 : 1 ≤ z1037 ∧ z1037 ≤ 20 := (vc_X10_tieBetween_4 h1128 h1039.1 h1129 h1039.2)
      refine sv_aload_n (pc := 18) dX8_gather_18 rfl rfl ?_
      refine gf_X8_0 (pc := 19) dX8_gather_19 wF_X8_9 (A_32 hw) T1031 ?_
      refine gf_X10_4 (pc := 22) dX8_gather_22 wF_X8_76 (A_6 hw) T1031 ?_
      refine mr_iload_n (pc := 25) (z := z1027) dX8_gather_25 rfl rfl ?_
      refine la_11 (pc := 26) dX8_gather_26 (A_11 hw) T1031 (rIx (n := 20) h1129 rfl) (vc_X10_tieBetween_5 h1039.1 h1128 h1129 h1130) fun b1131 q1132 A1133 => ?_
      refine mr_astore (pc := 27) (lv' := [(4, .ref b1131), (0, .ref 32), (1, iv p1), (2, iv p2), (3, iv z1027)]) dX8_gather_27 (by decide) rfl ?_
      refine sv_aload (pc := 29) dX8_gather_29 rfl ?_
      refine mr_iload_n (pc := 31) (z := p1) dX8_gather_31 rfl rfl ?_
      refine mr_cVP (pc := 32) (c_X9_sideOf hw T1031 A1133 (rW (c := (-2147483648)) (d := 2147483647) hp1 rfl)) (gOk _ _ _ _ _) dX8_gather_32 (tX9_sideOf _ _ _ _ _) ⟨wV_X9_sideOf, wL_X9_sideOf⟩ wM_X8_156 (gCX9 _ _ _ _ _) rfl A1133 rfl ⟨le_t rfl, le_t rfl⟩ ⟨le_t rfl, le_t rfl⟩ rfl (le_t rfl) fun z1138 h1137 => ?_
      refine mr_istore (pc := 35) (lv' := [(5, iv z1138), (4, .ref b1131), (0, .ref 32), (1, iv p1), (2, iv p2), (3, iv z1027)]) dX8_gather_35 (by decide) rfl ?_
      refine mr_iload (pc := 37) (z := z1138) dX8_gather_37 rfl ?_
      have J1217 : ∀ (μ1212 : mM), (mT w μ1212) → (mF [21002, 21003, 21004, 21005, 21006, 21007, 32009, 200002, 200003, 200004, 200005, 200006, 200007, 200008, 200009, 200010, 200011, 201999, 202999] w μ1028 μ1212) → (PC w μ1212) → sV (gG l D c H0 sa) mX8_gather (sRm 41 0 0) (sZ (gG l D c H0 sa) 0 0 (qV w [21002, 21003, 21004, 21005, 21006, 21007, 32009, 200002, 200003, 200004, 200005, 200006, 200007, 200008, 200009, 200010, 200011, 201999, 202999] μ (fun μ1 => True))) 182 [(0, .ref 32), (1, iv p1), (2, iv p2), (3, iv z1027)] [] (mk w μ1212) 0 0 := by
        intro μ1212 T1213 F1214 I1216
        refine mr_iinc (pc := 182) (lv' := [(3, iv (z1027 + 1)), (0, .ref 32), (1, iv p1), (2, iv p2)]) dX8_gather_182 rfl (by decide) rfl ?_
        refine sv_goto (pc := 185) (tgt := 7) dX8_gather_185 (by decide) ?_
        refine mr_lvS (lv' := [(0, .ref 32), (1, iv p1), (2, iv p2), (3, iv (z1027 + 1))]) (List.forall_mem_cons.mpr ⟨rfl, List.forall_mem_cons.mpr ⟨rfl, List.forall_mem_cons.mpr ⟨rfl, List.forall_mem_cons.mpr ⟨rfl, fun _ h => absurd h List.not_mem_nil⟩⟩⟩⟩) ?_
        exact ih1036 (z1027 + 1) μ1212 T1213 (mF.call (mF.call mF.refl F1032 rfl) F1214 rfl) (rW (c := 0) (d := 20) (rAdd (e := 1) (f := 20) h1129 (rR (x := 1)) rfl) rfl) I1216 (vc_X10_tieBetween_6 (nS h1035) h1128 h1039.1 h1129 h1130)
      refine mr_if_lt (pc := 39) (tgt := 182) dX8_gather_39 (by decide) (r32 h1137.1 rfl) (fun h1218 => ?_) (fun h1218 => ?_)
      · have h1219 : (-1) ≤ z1138 ∧ z1138 ≤ (-1) := (vc_X12_differ_33 h1218 h1137.1)
        refine mr_lvS (lv' := [(0, .ref 32), (1, iv p1), (2, iv p2), (3, iv z1027)]) (List.forall_mem_cons.mpr ⟨rfl, List.forall_mem_cons.mpr ⟨rfl, List.forall_mem_cons.mpr ⟨rfl, List.forall_mem_cons.mpr ⟨rfl, fun _ h => absurd h List.not_mem_nil⟩⟩⟩⟩) ?_
        exact J1217 μ1028 T1031 mF.refl I1034
      have h1220 : 0 ≤ z1138 ∧ z1138 ≤ 1 := (vc_X12_differ_32 h1218 h1137.1)
      refine sv_aload (pc := 42) dX8_gather_42 rfl ?_
      refine gf_X9_6 (pc := 44) dX8_gather_44 wF_X8_136 A1133 T1031 fun z1221 q1222 h1223 => ?_
      refine mr_if_eq (pc := 47) (tgt := 182) dX8_gather_47 (by decide) (r32 h1223 rfl) (fun h1224 => ?_) (fun h1224 => ?_)
      · have h1225 : 0 ≤ z1221 ∧ z1221 ≤ 0 := (vc_X12_ring_22 h1224 h1223)
        refine mr_lvS (lv' := [(0, .ref 32), (1, iv p1), (2, iv p2), (3, iv z1027)]) (List.forall_mem_cons.mpr ⟨rfl, List.forall_mem_cons.mpr ⟨rfl, List.forall_mem_cons.mpr ⟨rfl, List.forall_mem_cons.mpr ⟨rfl, fun _ h => absurd h List.not_mem_nil⟩⟩⟩⟩) ?_
        exact J1217 μ1028 T1031 mF.refl I1034
      have h1226 : 1 ≤ z1221 ∧ z1221 ≤ 1 := (vc_X12_ring_24 h1224 h1223)
      refine sv_aload_n (pc := 50) dX8_gather_50 rfl rfl ?_
      refine gf_X8_9 (pc := 51) dX8_gather_51 wF_X8_200 (A_32 hw) T1031 fun z1227 q1228 h1229 => ?_
      have h1230 : 0 ≤ z1227 ∧ z1227 ≤ 10 := ⟨h1229.1, h1229.2.1⟩
      refine mr_bipush (pc := 54) (z := 10) dX8_gather_54 (by decide) ?_
      refine mr_icmp_lt (pc := 56) (tgt := 62) dX8_gather_56 (by decide) (r32 h1230 rfl) (r32 (rR (x := 10)) rfl) (fun h1231 => ?_) (fun h1231 => ?_)
      · have h1232 : 0 ≤ z1227 ∧ z1227 ≤ 9 := (vc_X8_gather_11 h1231 h1229.2.2 h1230)
        refine sv_aload (pc := 62) dX8_gather_62 rfl ?_
        refine gf_X9_4 (pc := 64) dX8_gather_64 wF_X8_96 A1133 T1031 fun A1233 => ?_
        refine mr_iload (pc := 67) (z := z1138) dX8_gather_67 rfl ?_
        refine mr_iload_n (pc := 69) (z := p2) dX8_gather_69 rfl rfl ?_
        refine mr_cSP (pc := 70) (c_X9_placeOf hw T1031 h1220 hp2) (gOk _ _ _ _ _) dX8_gather_70 (tX9_placeOf _ _ _ _ _) wS_X9_placeOf wM_X8_99 ⟨le_t rfl, le_t rfl⟩ ⟨le_t rfl, le_t rfl⟩ rfl (le_t rfl) fun z1238 h1237 => ?_
        refine la_222 (pc := 73) dX8_gather_73 A1233 T1031 (rIx (n := 20) h1237.1 rfl) fun b1239 q1240 A1241 => ?_
        refine mr_astore (pc := 74) (lv' := [(6, .ref b1239), (5, iv z1138), (4, .ref b1131), (0, .ref 32), (1, iv p1), (2, iv p2), (3, iv z1027)]) dX8_gather_74 (by decide) rfl ?_
        refine sv_aload (pc := 76) dX8_gather_76 rfl ?_
        refine gf_X7_2 (pc := 78) dX8_gather_78 wF_X8_203 A1241 T1031 fun z1242 q1243 h1244 => ?_
        refine mr_if_eq (pc := 81) (tgt := 182) dX8_gather_81 (by decide) (r32 h1244 rfl) (fun h1245 => ?_) (fun h1245 => ?_)
        · have h1246 : 0 ≤ z1242 ∧ z1242 ≤ 0 := (vc_X12_ring_22 h1245 h1244)
          refine mr_lvS (lv' := [(0, .ref 32), (1, iv p1), (2, iv p2), (3, iv z1027)]) (List.forall_mem_cons.mpr ⟨rfl, List.forall_mem_cons.mpr ⟨rfl, List.forall_mem_cons.mpr ⟨rfl, List.forall_mem_cons.mpr ⟨rfl, fun _ h => absurd h List.not_mem_nil⟩⟩⟩⟩) ?_
          exact J1217 μ1028 T1031 mF.refl I1034
        have h1247 : 1 ≤ z1242 ∧ z1242 ≤ 1 := (vc_X12_ring_24 h1245 h1244)
        refine sv_aload (pc := 84) dX8_gather_84 rfl ?_
        refine mr_iload_n (pc := 86) (z := p1) dX8_gather_86 rfl rfl ?_
        refine mr_cVP (pc := 87) (c_X7_passes hw T1031 A1241 (rW (c := (-2147483648)) (d := 2147483647) hp1 rfl)) (gOk _ _ _ _ _) dX8_gather_87 (tX7_passes _ _ _ _ _) ⟨wV_X7_passes, wL_X7_passes⟩ wM_X8_206 (gCX7 _ _ _ _ _) rfl A1241 rfl ⟨le_t rfl, le_t rfl⟩ ⟨le_t rfl, le_t rfl⟩ rfl (le_t rfl) fun z1252 h1251 => ?_
        refine mr_if_eq (pc := 90) (tgt := 96) dX8_gather_90 (by decide) (r32 h1251.1 rfl) (fun h1253 => ?_) (fun h1253 => ?_)
        · have h1254 : 0 ≤ z1252 ∧ z1252 ≤ 0 := (vc_X12_ring_22 h1253 h1251.1)
          refine sv_aload_n (pc := 96) dX8_gather_96 rfl rfl ?_
          refine gf_X8_4 (pc := 97) dX8_gather_97 wF_X8_34 (A_32 hw) T1031 ?_
          refine sv_aload_n (pc := 100) dX8_gather_100 rfl rfl ?_
          refine gk_X8_9 (pc := 101) dX8_gather_101 wF_X8_200 (A_32 hw) q1228 ?_
          refine la_35 (pc := 104) dX8_gather_104 (A_35 hw) T1031 (rIx (n := 10) h1232 rfl) fun b1255 q1256 A1257 => ?_
          refine mr_astore (pc := 105) (lv' := [(7, .ref b1255), (6, .ref b1239), (5, iv z1138), (4, .ref b1131), (0, .ref 32), (1, iv p1), (2, iv p2), (3, iv z1027)]) dX8_gather_105 (by decide) rfl ?_
          refine sv_aload (pc := 107) dX8_gather_107 rfl ?_
          refine sv_aload (pc := 109) dX8_gather_109 rfl ?_
          refine mr_cVV (pc := 111) (c_X7_become hw T1031 A1257 A1241) (gOk _ _ _ _ _) dX8_gather_111 (tX7_become _ _ _ _ _) ⟨wV_X7_become, wL_X7_become⟩ wM_X8_106 (gCX7 _ _ _ _ _) rfl A1257 rfl ⟨le_t rfl, le_t rfl⟩ ⟨le_t rfl, le_t rfl⟩ rfl (le_t rfl) fun μ1258 T1259 F1260 h1261 => ?_
          refine sv_aload (pc := 114) dX8_gather_114 rfl ?_
          refine sv_aload (pc := 116) dX8_gather_116 rfl ?_
          refine gf_X7_9 (pc := 118) dX8_gather_118 wF_X8_110 A1241 T1259 fun z1262 q1263 h1264 => ?_
          refine pf_X7_9 (pc := 121) dX8_gather_121 wF_X8_110 A1257 T1259 h1264 fun μ1265 u1266 T1267 => ?_
          refine sv_aload (pc := 124) dX8_gather_124 rfl ?_
          refine mr_iload_n (pc := 126) (z := z1027) dX8_gather_126 rfl rfl ?_
          refine pf_X7_10 (pc := 127) dX8_gather_127 wF_X8_188 A1257 T1267 (vc_X8_gather_15 h1039.1 h1128 h1229.2.2 h1231 h1129 h1130 h1232) fun μ1268 u1269 T1270 => ?_
          refine sv_aload (pc := 130) dX8_gather_130 rfl ?_
          refine sv_aload (pc := 132) dX8_gather_132 rfl ?_
          refine mr_iconst (pc := 134) (z := 1) dX8_gather_134 ?_
          refine mr_iload (pc := 135) (z := z1138) dX8_gather_135 rfl ?_
          refine mr_isub (pc := 137) (x := 1) (y := z1138) dX8_gather_137 ?_
          refine mr_cVP (pc := 138) (c_X9_end hw T1270 A1133 (rW (c := (-2147483648)) (d := 2147483647) (rSub (e := 0) (f := 1) (rR (x := 1)) h1220 rfl) rfl)) (gOk _ _ _ _ _) dX8_gather_138 (tX9_end _ _ _ _ _) ⟨wV_X9_end, wL_X9_end⟩ wM_X8_86 (gCX9 _ _ _ _ _) rfl A1133 rfl ⟨le_t rfl, le_t rfl⟩ ⟨le_t rfl, le_t rfl⟩ rfl (le_t rfl) fun z1275 h1274 => ?_
          refine pf_X7_11 (pc := 141) dX8_gather_141 wF_X8_210 A1257 T1270 (rW (c := (-2147483648)) (d := 2147483647) h1274.1 rfl) fun μ1276 u1277 T1278 => ?_
          refine sv_aload_n (pc := 144) dX8_gather_144 rfl rfl ?_
          refine gf_X8_1 (pc := 145) dX8_gather_145 wF_X8_15 (A_32 hw) T1278 ?_
          refine sv_aload (pc := 148) dX8_gather_148 rfl ?_
          refine gf_X9_3 (pc := 150) dX8_gather_150 wF_X8_213 A1133 T1278 fun A1279 => ?_
          refine mr_iload (pc := 153) (z := z1138) dX8_gather_153 rfl ?_
          refine mr_iconst (pc := 155) (z := 2) dX8_gather_155 ?_
          refine mr_imul (pc := 156) (x := z1138) (y := 2) dX8_gather_156 ?_
          refine mr_iconst (pc := 157) (z := 0) dX8_gather_157 ?_
          refine mr_iadd (pc := 158) (x := (z1138 * 2)) (y := 0) dX8_gather_158 ?_
          refine la_221 (pc := 159) dX8_gather_159 A1279 T1278 (rIx (n := 4) (rAdd (e := 0) (f := 2) (rMulR (n := 2) (e := 0) (f := 2) h1220 rfl) (rR (x := 0)) rfl) rfl) fun z1280 q1281 h1282 => ?_
          have h1283 : (-99999999) ≤ z1280 ∧ z1280 ≤ 11 := (vc_X8_say_18 h1282)
          refine sv_aload (pc := 160) dX8_gather_160 rfl ?_
          refine sv_aload (pc := 162) dX8_gather_162 rfl ?_
          refine mr_iload (pc := 164) (z := z1138) dX8_gather_164 rfl ?_
          refine mr_cVI (pc := 166) (c_X1_lets hw T1278 (rW (c := (-2147483648)) (d := 2147483647) h1283 rfl) A1257 A1133 h1220 (PC.keep I1034 hw ((mF.up (mF.up (mF.up (mF.call mF.refl F1260 rfl) A1257 u1266 rfl) A1257 u1269 rfl) A1257 u1277 rfl) : mF [200002, 200003, 200004, 200005, 200006, 200007, 200008, 200009, 200010, 200011, 201999, 202999] w μ1028 μ1276) rfl)) (gOk _ _ _ _ _) dX8_gather_166 (tX1_lets _ _ _ _ _) ⟨wV_X1_lets, wL_X1_lets⟩ wM_X8_216 (gCX1 _ _ _ _ _) rfl (A_21 hw) rfl ⟨le_t rfl, le_t rfl⟩ ⟨le_t rfl, le_t rfl⟩ rfl (le_t rfl) fun z1288 μ1284 T1285 F1286 h1287 => ?_
          refine mr_if_eq (pc := 169) (tgt := 182) dX8_gather_169 (by decide) (r32 h1287.1 rfl) (fun h1289 => ?_) (fun h1289 => ?_)
          · have h1290 : 0 ≤ z1288 ∧ z1288 ≤ 0 := (vc_X12_ring_22 h1289 h1287.1)
            refine mr_lvS (lv' := [(0, .ref 32), (1, iv p1), (2, iv p2), (3, iv z1027)]) (List.forall_mem_cons.mpr ⟨rfl, List.forall_mem_cons.mpr ⟨rfl, List.forall_mem_cons.mpr ⟨rfl, List.forall_mem_cons.mpr ⟨rfl, fun _ h => absurd h List.not_mem_nil⟩⟩⟩⟩) ?_
            exact J1217 μ1284 T1285 (mF.call (mF.up (mF.up (mF.up (mF.call mF.refl F1260 rfl) A1257 u1266 rfl) A1257 u1269 rfl) A1257 u1277 rfl) F1286 rfl) (PC.keep I1034 hw ((mF.call (mF.up (mF.up (mF.up (mF.call mF.refl F1260 rfl) A1257 u1266 rfl) A1257 u1269 rfl) A1257 u1277 rfl) F1286 rfl) : mF [21002, 21003, 21004, 21005, 21006, 21007, 200002, 200003, 200004, 200005, 200006, 200007, 200008, 200009, 200010, 200011, 201999, 202999] w μ1028 μ1284) rfl)
          have h1291 : 1 ≤ z1288 ∧ z1288 ≤ 1 := (vc_X12_ring_24 h1289 h1287.1)
          refine sv_aload_n (pc := 172) dX8_gather_172 rfl rfl ?_
          refine sv_dup (pc := 173) dX8_gather_173 rfl ?_
          refine gk_X8_9 (pc := 174) dX8_gather_174 wF_X8_200 (A_32 hw) (F1286.f (A_32 hw) rfl (u1277.f (Or.inl (mAt.ne A1257 (A_32 hw) rfl)) (u1269.f (Or.inl (mAt.ne A1257 (A_32 hw) rfl)) (u1266.f (Or.inl (mAt.ne A1257 (A_32 hw) rfl)) (F1260.f (A_32 hw) rfl q1228))))) ?_
          refine mr_iconst (pc := 177) (z := 1) dX8_gather_177 ?_
          refine mr_iadd (pc := 178) (x := z1227) (y := 1) dX8_gather_178 ?_
          refine pf_X8_9 (pc := 179) dX8_gather_179 wF_X8_200 (A_32 hw) T1285 (vc_X8_gather_19 h1039.1 h1229.2.2 h1231 h1128 h1129 h1130 h1232) fun μ1292 u1293 T1294 => ?_
          refine mr_lvS (lv' := [(0, .ref 32), (1, iv p1), (2, iv p2), (3, iv z1027)]) (List.forall_mem_cons.mpr ⟨rfl, List.forall_mem_cons.mpr ⟨rfl, List.forall_mem_cons.mpr ⟨rfl, List.forall_mem_cons.mpr ⟨rfl, fun _ h => absurd h List.not_mem_nil⟩⟩⟩⟩) ?_
          exact J1217 μ1292 T1294 (mF.up (mF.call (mF.up (mF.up (mF.up (mF.call mF.refl F1260 rfl) A1257 u1266 rfl) A1257 u1269 rfl) A1257 u1277 rfl) F1286 rfl) (A_32 hw) u1293 rfl) (PC.keep I1034 hw ((mF.up (mF.call (mF.up (mF.up (mF.up (mF.call mF.refl F1260 rfl) A1257 u1266 rfl) A1257 u1269 rfl) A1257 u1277 rfl) F1286 rfl) (A_32 hw) u1293 rfl) : mF [21002, 21003, 21004, 21005, 21006, 21007, 32009, 200002, 200003, 200004, 200005, 200006, 200007, 200008, 200009, 200010, 200011, 201999, 202999] w μ1028 μ1292) rfl)
        have h1295 : 1 ≤ z1252 ∧ z1252 ≤ 1 := (vc_X12_ring_24 h1253 h1251.1)
        refine sv_goto (pc := 93) (tgt := 182) dX8_gather_93 (by decide) ?_
        refine mr_lvS (lv' := [(0, .ref 32), (1, iv p1), (2, iv p2), (3, iv z1027)]) (List.forall_mem_cons.mpr ⟨rfl, List.forall_mem_cons.mpr ⟨rfl, List.forall_mem_cons.mpr ⟨rfl, List.forall_mem_cons.mpr ⟨rfl, fun _ h => absurd h List.not_mem_nil⟩⟩⟩⟩) ?_
        exact J1217 μ1028 T1031 mF.refl I1034
      have h1296 : 10 ≤ z1227 ∧ z1227 ≤ 10 := (vc_X8_gather_21 h1231 h1229.2.2 h1230)
      refine sv_goto (pc := 59) (tgt := 182) dX8_gather_59 (by decide) ?_
      refine mr_lvS (lv' := [(0, .ref 32), (1, iv p1), (2, iv p2), (3, iv z1027)]) (List.forall_mem_cons.mpr ⟨rfl, List.forall_mem_cons.mpr ⟨rfl, List.forall_mem_cons.mpr ⟨rfl, List.forall_mem_cons.mpr ⟨rfl, fun _ h => absurd h List.not_mem_nil⟩⟩⟩⟩) ?_
      exact J1217 μ1028 T1031 mF.refl I1034
  refine mr_lvS (lv' := [(0, .ref 32), (1, iv p1), (2, iv p2), (3, iv 0)]) (List.forall_mem_cons.mpr ⟨rfl, List.forall_mem_cons.mpr ⟨rfl, List.forall_mem_cons.mpr ⟨rfl, List.forall_mem_cons.mpr ⟨rfl, fun _ h => absurd h List.not_mem_nil⟩⟩⟩⟩) ?_
  exact L1029 22 0 μ1 T3 mF.refl (rW (c := 0) (d := 20) (rR (x := 0)) rfl) (PC.keep hIPC hw ((mF.up mF.refl (A_32 hw) u2 rfl) : mF [32009] w μ μ1) rfl) vc_X12_tieOf_12
theorem vc_X8_look_3 {n1 z54 z65 : Int} (h0 : 0 ≤ z54 → z54 < n1) (h1 : (0 ≤ z65 → z65 < n1)) (h2 : ¬ z54 = z65) (h3 : (-99999999) ≤ z54 ∧ z54 ≤ 19) (h4 : z54 = (-99999999) ∨ z54 = (-4) ∨ (0 ≤ z54 ∧ z54 ≤ 19)) (h5 : (-99999999) ≤ z65 ∧ z65 ≤ 19) (h6 : z65 = -99999999 ∨ z65 = -4 ∨ (0 ≤ z65 ∧ z65 ≤ 19)) : (z54 = -99999999 ∨ z54 = -4 ∨ (0 ≤ z54 ∧ z54 ≤ 19)) ∧ (0 ≤ z54 → z54 < n1) := by omega
theorem vc_X8_look_7 {n1 z271 z281 z54 z65 : Int} (h0 : 0 ≤ z54 → z54 < n1) (h1 : (0 ≤ z65 → z65 < n1)) (h2 : z281 = n1) (h3 : z271 < z281) (h4 : ¬ z54 = z65) (h5 : 0 ≤ z271 ∧ z271 ≤ 19) (h6 : 1 ≤ z281 ∧ z281 ≤ 20) (h7 : (-99999999) ≤ z54 ∧ z54 ≤ 19) (h8 : z54 = (-99999999) ∨ z54 = (-4) ∨ (0 ≤ z54 ∧ z54 ≤ 19)) (h9 : (-99999999) ≤ z65 ∧ z65 ≤ 19) (h10 : z65 = -99999999 ∨ z65 = -4 ∨ (0 ≤ z65 ∧ z65 ≤ 19)) : z271 < n1 := by omega
theorem vc_X8_look_13 {n1 z54 z65 : Int} (h0 : 0 ≤ z54 → z54 < n1) (h1 : (0 ≤ z65 → z65 < n1)) (h2 : z54 = z65) (h3 : (-99999999) ≤ z54 ∧ z54 ≤ 19) (h4 : z54 = (-99999999) ∨ z54 = (-4) ∨ (0 ≤ z54 ∧ z54 ≤ 19)) (h5 : (-99999999) ≤ z65 ∧ z65 ≤ 19) (h6 : z65 = -99999999 ∨ z65 = -4 ∨ (0 ≤ z65 ∧ z65 ≤ 19)) : (z54 = -99999999 ∨ z54 = -4 ∨ (0 ≤ z54 ∧ z54 ≤ 19)) ∧ (0 ≤ z54 → z54 < n1) := by omega
theorem vc_X8_look_17 {n1 z533 z54 z543 z65 : Int} (h0 : 0 ≤ z54 → z54 < n1) (h1 : (0 ≤ z65 → z65 < n1)) (h2 : z543 = n1) (h3 : z533 < z543) (h4 : z54 = z65) (h5 : 0 ≤ z533 ∧ z533 ≤ 19) (h6 : (-99999999) ≤ z54 ∧ z54 ≤ 19) (h7 : z54 = (-99999999) ∨ z54 = (-4) ∨ (0 ≤ z54 ∧ z54 ≤ 19)) (h8 : 1 ≤ z543 ∧ z543 ≤ 20) (h9 : (-99999999) ≤ z65 ∧ z65 ≤ 19) (h10 : z65 = -99999999 ∨ z65 = -4 ∨ (0 ≤ z65 ∧ z65 ≤ 19)) : z533 < n1 := by omega
theorem vc_X8_look_22 {z5 : Int} (h0 : z5 = (-1)) (h1 : (-1) ≤ z5 ∧ z5 ≤ 2) : (-1) ≤ z5 ∧ z5 ≤ (-1) := by omega
theorem vc_X8_look_24 {n1 z602 : Int} (h0 : z602 < 0) (h1 : z602 < 0 ∨ 0 < n1) (h2 : (-1) ≤ z602 ∧ z602 ≤ 9) : (-1) ≤ z602 ∧ z602 ≤ (-1) := by omega
theorem vc_X8_look_25 {n1 z602 : Int} (h0 : z602 < 0 ∨ 0 < n1) (h1 : z602 < 0) (h2 : (-1) ≤ z602 ∧ z602 ≤ (-1)) : 0 ≤ ((-99999999) : Int) → ((-99999999) : Int) < n1 := by omega
theorem vc_X8_look_27 {n1 z602 : Int} (h0 : 0 ≤ z602) (h1 : z602 < 0 ∨ 0 < n1) (h2 : (-1) ≤ z602 ∧ z602 ≤ 9) : 0 ≤ z602 ∧ z602 ≤ 9 := by omega
theorem vc_X8_look_28 {n1 z602 z609 : Int} (h0 : z602 < 0 ∨ 0 < n1) (h1 : (z609 = 0 ∨ z609 < n1)) (h2 : 0 ≤ z602) (h3 : 0 ≤ z602 ∧ z602 ≤ 9) (h4 : 0 ≤ z609 ∧ z609 ≤ 19) : 0 ≤ z609 → z609 < n1 := by omega
theorem vc_X8_look_29 {n1 z602 z609 : Int} (h0 : (z609 = 0 ∨ z609 < n1)) (h1 : z602 < 0 ∨ 0 < n1) (h2 : 0 ≤ z602 ∧ z602 ≤ 9) (h3 : 0 ≤ z609 ∧ z609 ≤ 19) : z609 = (-99999999) ∨ z609 = (-4) ∨ (0 ≤ z609 ∧ z609 ≤ 19) := by omega
theorem vc_X8_look_36 {z5 : Int} (h0 : ¬ z5 = (-1)) (h1 : (-1) ≤ z5 ∧ z5 ≤ 2) : 0 ≤ z5 ∧ z5 ≤ 2 := by omega
theorem vc_X8_look_37 {n1 : Int}  : 0 ≤ ((-4) : Int) → ((-4) : Int) < n1 := by omega
theorem vc_X8_look_38  : (((-4) : Int) : Int) = ((-99999999) : Int) ∨ (((-4) : Int) : Int) = ((-4) : Int) ∨ ((0 : Int) ≤ (((-4) : Int) : Int) ∧ (((-4) : Int) : Int) ≤ (19 : Int)) := by omega
set_option maxRecDepth 4000 in
set_option maxHeartbeats 4000000 in
theorem c_X8_look {l : Launch} {D : va_G} {c : Nat → ClassId} {H0 : Heap} {sa : Nat × Nat × (Nat → Int32)} {w : mW} {μ : mM} (hw : mWF w) (hT : mT w μ) {p1 : Int} (hp1 : 0 ≤ p1 ∧ p1 ≤ 9) {p2 : Int} (hp2 : 0 ≤ p2 ∧ p2 ≤ 9) (hq0 : p1 < w.2.2.2 0) (hIPC : PC w μ) : sC (gG l D c H0 sa) mX8_look 42 0 0 [.ref 32, iv p1, iv p2] (mk w μ) (qV w [21002, 21003, 21004, 21005, 21006, 21007, 32009, 32010, 33999, 34999, 66999, 200002, 200003, 200004, 200005, 200006, 200007, 200008, 200009, 200010, 200011, 201999, 202999, 213999] μ (fun μ1 => True)) := by
  refine sC.of rfl (by decide) (le_t rfl) ?_
  refine mr_lvE (lv' := [(0, .ref 32), (1, iv p1), (2, iv p2)]) rfl ?_
  refine sv_aload_n (pc := 0) dX8_look_0 rfl rfl ?_
  refine gf_X8_0 (pc := 1) dX8_look_1 wF_X8_9 (A_32 hw) hT ?_
  refine gf_X10_3 (pc := 4) dX8_look_4 wF_X8_162 (A_6 hw) hT ?_
  refine mr_iload_n (pc := 7) (z := p1) dX8_look_7 rfl rfl ?_
  refine la_10 (pc := 8) dX8_look_8 (A_10 hw) hT (rIx (n := 10) hp1 rfl) (vc_X9_end_1 hq0 hp1) fun b1 q2 A3 => ?_
  refine mr_astore_n (pc := 9) (lv' := [(3, .ref b1), (0, .ref 32), (1, iv p1), (2, iv p2)]) dX8_look_9 rfl (by decide) rfl ?_
  refine sv_aload_n (pc := 10) dX8_look_10 rfl rfl ?_
  refine gf_X8_7 (pc := 11) dX8_look_11 wF_X8_46 (A_32 hw) hT ?_
  refine mr_astore (pc := 14) (lv' := [(4, .ref 70), (3, .ref b1), (0, .ref 32), (1, iv p1), (2, iv p2)]) dX8_look_14 (by decide) rfl ?_
  refine mr_ldc (pc := 16) (z := (-99999999)) dX8_look_16 wG_X8_166 (by decide) ?_
  refine mr_istore (pc := 18) (lv' := [(5, iv (-99999999)), (4, .ref 70), (3, .ref b1), (0, .ref 32), (1, iv p1), (2, iv p2)]) dX8_look_18 (by decide) rfl ?_
  refine sv_aload_n (pc := 20) dX8_look_20 rfl rfl ?_
  refine gf_X0_1 (pc := 21) dX8_look_21 wF_X8_167 A3 hT fun A4 => ?_
  refine mr_iload_n (pc := 24) (z := p2) dX8_look_24 rfl rfl ?_
  refine la_212 (pc := 25) dX8_look_25 A4 hT (rIx (n := 10) hp2 rfl) fun z5 q6 h7 => ?_
  refine mr_iconst (pc := 26) (z := (-1)) dX8_look_26 ?_
  have J63 : ∀ (z54 : Int) (b52 : Nat) (μ57 : mM), (mAt w b52 200) → (mT w μ57) → (mF [21002, 21003, 21004, 21005, 21006, 21007, 32009, 66999, 200002, 200003, 200004, 200005, 200006, 200007, 200008, 200009, 200010, 200011, 201999, 202999] w μ μ57) → (((-99999999) ≤ z54 ∧ z54 ≤ 19)) → (0 ≤ z54 → z54 < w.2.2.2 1) → ((z54 = (-99999999) ∨ z54 = (-4) ∨ (0 ≤ z54 ∧ z54 ≤ 19))) → (PC w μ57) → sV (gG l D c H0 sa) mX8_look (sRm 42 0 0) (sZ (gG l D c H0 sa) 0 0 (qV w [21002, 21003, 21004, 21005, 21006, 21007, 32009, 32010, 33999, 34999, 66999, 200002, 200003, 200004, 200005, 200006, 200007, 200008, 200009, 200010, 200011, 201999, 202999, 213999] μ (fun μ1 => True))) 106 [(0, .ref 32), (1, iv p1), (2, iv p2), (3, .ref b1), (4, .ref b52), (5, iv z54)] [] (mk w μ57) 0 0 := by
    intro z54 b52 μ57 A53 T58 F59 h55 h62 h56 I61
    refine mr_iload (pc := 106) (z := z54) dX8_look_106 rfl ?_
    refine sv_aload_n (pc := 108) dX8_look_108 rfl rfl ?_
    refine gf_X0_2 (pc := 109) dX8_look_109 wF_X8_190 A3 T58 fun A64 => ?_
    refine mr_iload_n (pc := 112) (z := p2) dX8_look_112 rfl rfl ?_
    refine la_213 (pc := 113) dX8_look_113 A64 T58 (rIx (n := 10) hp2 rfl) fun z65 q66 h67 => ?_
    have h68 : (-99999999) ≤ z65 ∧ z65 ≤ 19 := (vc_X12_sends_3 h67.1)
    refine mr_icmp_ne (pc := 114) (tgt := 132) dX8_look_114 (by decide) (r32 h55 rfl) (r32 h68 rfl) (fun h69 => ?_) (fun h69 => ?_)
    · refine sv_aload_n (pc := 132) dX8_look_132 rfl rfl ?_
      refine gf_X0_2 (pc := 133) dX8_look_133 wF_X8_190 A3 T58 fun A70 => ?_
      refine mr_iload_n (pc := 136) (z := p2) dX8_look_136 rfl rfl ?_
      refine mr_iload (pc := 137) (z := z54) dX8_look_137 rfl ?_
      refine ss_213 (pc := 139) dX8_look_139 A70 T58 (rIx (n := 10) hp2 rfl) (vc_X8_look_3 h62 h67.2 h69 h55 h56 h68 h67.1) fun μ71 u72 T73 => ?_
      refine sv_aload_n (pc := 140) dX8_look_140 rfl rfl ?_
      refine gf_X0_3 (pc := 141) dX8_look_141 wF_X8_193 A3 T73 fun A74 => ?_
      refine mr_iload_n (pc := 144) (z := p2) dX8_look_144 rfl rfl ?_
      refine la_214 (pc := 145) dX8_look_145 A74 T73 (rIx (n := 10) hp2 rfl) fun b75 q76 A77 => ?_
      refine sv_aload (pc := 146) dX8_look_146 rfl ?_
      refine mr_cVV (pc := 148) (c_X7_become hw T73 A77 A53) (gOk _ _ _ _ _) dX8_look_148 (tX7_become _ _ _ _ _) ⟨wV_X7_become, wL_X7_become⟩ wM_X8_106 (gCX7 _ _ _ _ _) rfl A77 rfl ⟨le_t rfl, le_t rfl⟩ ⟨le_t rfl, le_t rfl⟩ rfl (le_t rfl) fun μ78 T79 F80 h81 => ?_
      refine mr_iconst (pc := 151) (z := 0) dX8_look_151 ?_
      refine mr_istore (pc := 152) (lv' := [(6, iv 0), (0, .ref 32), (1, iv p1), (2, iv p2), (3, .ref b1), (4, .ref b52), (5, iv z54)]) dX8_look_152 (by decide) rfl ?_
      have L273 : ∀ (nL273 : Nat) (z271 : Int) (μ272 : mM), mT w μ272 → mF [21002, 21003, 21004, 21005, 21006, 21007, 32010, 33999, 34999, 200002, 200003, 200004, 200005, 200006, 200007, 200008, 200009, 201999, 202999] w μ78 μ272 → (0 ≤ z271 ∧ z271 ≤ 20) → PC w μ272 → (21 - z271) < (nL273 : Int) → sV (gG l D c H0 sa) mX8_look (sRm 42 0 0) (sZ (gG l D c H0 sa) 0 0 (qV w [21002, 21003, 21004, 21005, 21006, 21007, 32009, 32010, 33999, 34999, 66999, 200002, 200003, 200004, 200005, 200006, 200007, 200008, 200009, 200010, 200011, 201999, 202999, 213999] μ (fun μ1 => True))) 154 [(0, .ref 32), (1, iv p1), (2, iv p2), (6, iv z271)] [] (mk w μ272) 0 0 := by
        intro nL273
        induction nL273 with
        | zero => intro z271 μ272 T275 F276 h274 I278 h279; exact ((vc_X12_tieOf_1 h279 h274)).elim
        | succ nL273 ih280 =>
          intro z271 μ272 T275 F276 h274 I278 h279
          refine mr_iload (pc := 154) (z := z271) dX8_look_154 rfl ?_
          refine sv_aload_n (pc := 156) dX8_look_156 rfl rfl ?_
          refine gf_X8_0 (pc := 157) dX8_look_157 wF_X8_9 (A_32 hw) T275 ?_
          refine gf_X10_16 (pc := 160) dX8_look_160 wF_X8_153 (A_6 hw) T275 fun z281 q282 h283 => ?_
          refine mr_icmp_ge (pc := 163) (tgt := 202) dX8_look_163 (by decide) (r32 h274 rfl) (r32 h283.2 rfl) (fun h300 => ?_) (fun h300 => ?_)
          · exact mr_vret dX8_look_202 rfl (le_t rfl) (le_t rfl) T275 (mF.call (mF.call (mF.up (mF.call mF.refl F59 rfl) A70 u72 rfl) F80 rfl) F276 rfl) trivial
          have h301 : 0 ≤ z271 ∧ z271 ≤ 19 := (vc_X10_tieBetween_3 h300 h283.1 h274 h283.2)
          have h302 : 1 ≤ z281 ∧ z281 ≤ 20 := (vc_X10_tieBetween_4 h300 h283.1 h301 h283.2)
          refine sv_aload_n (pc := 166) dX8_look_166 rfl rfl ?_
          refine gf_X8_0 (pc := 167) dX8_look_167 wF_X8_9 (A_32 hw) T275 ?_
          refine gf_X10_4 (pc := 170) dX8_look_170 wF_X8_76 (A_6 hw) T275 ?_
          refine mr_iload (pc := 173) (z := z271) dX8_look_173 rfl ?_
          refine la_11 (pc := 175) dX8_look_175 (A_11 hw) T275 (rIx (n := 20) h301 rfl) (vc_X8_look_7 h62 h67.2 h283.1 h300 h69 h301 h302 h55 h56 h68 h67.1) fun b303 q304 A305 => ?_
          refine mr_iload_n (pc := 176) (z := p1) dX8_look_176 rfl rfl ?_
          refine mr_cVP (pc := 177) (c_X9_sideOf hw T275 A305 (rW (c := (-2147483648)) (d := 2147483647) hp1 rfl)) (gOk _ _ _ _ _) dX8_look_177 (tX9_sideOf _ _ _ _ _) ⟨wV_X9_sideOf, wL_X9_sideOf⟩ wM_X8_156 (gCX9 _ _ _ _ _) rfl A305 rfl ⟨le_t rfl, le_t rfl⟩ ⟨le_t rfl, le_t rfl⟩ rfl (le_t rfl) fun z310 h309 => ?_
          refine mr_istore (pc := 180) (lv' := [(7, iv z310), (0, .ref 32), (1, iv p1), (2, iv p2), (6, iv z271)]) dX8_look_180 (by decide) rfl ?_
          refine mr_iload (pc := 182) (z := z310) dX8_look_182 rfl ?_
          refine mr_if_lt (pc := 184) (tgt := 196) dX8_look_184 (by decide) (r32 h309.1 rfl) (fun h317 => ?_) (fun h317 => ?_)
          · have h318 : (-1) ≤ z310 ∧ z310 ≤ (-1) := (vc_X12_differ_33 h317 h309.1)
            refine mr_iinc (pc := 196) (lv' := [(6, iv (z271 + 1)), (7, iv z310), (0, .ref 32), (1, iv p1), (2, iv p2)]) dX8_look_196 rfl (by decide) rfl ?_
            refine sv_goto (pc := 199) (tgt := 154) dX8_look_199 (by decide) ?_
            refine mr_lvS (lv' := [(0, .ref 32), (1, iv p1), (2, iv p2), (6, iv (z271 + 1))]) (List.forall_mem_cons.mpr ⟨rfl, List.forall_mem_cons.mpr ⟨rfl, List.forall_mem_cons.mpr ⟨rfl, List.forall_mem_cons.mpr ⟨rfl, fun _ h => absurd h List.not_mem_nil⟩⟩⟩⟩) ?_
            exact ih280 (z271 + 1) μ272 T275 (mF.call mF.refl F276 rfl) (rW (c := 0) (d := 20) (rAdd (e := 1) (f := 20) h301 (rR (x := 1)) rfl) rfl) I278 (vc_X10_tieBetween_6 (nS h279) h300 h283.1 h301 h302)
          have h319 : 0 ≤ z310 ∧ z310 ≤ 1 := (vc_X12_differ_32 h317 h309.1)
          refine sv_aload_n (pc := 187) dX8_look_187 rfl rfl ?_
          refine mr_iload (pc := 188) (z := z271) dX8_look_188 rfl ?_
          refine mr_iload (pc := 190) (z := z310) dX8_look_190 rfl ?_
          refine mr_iload_n (pc := 192) (z := p2) dX8_look_192 rfl rfl ?_
          refine mr_cVV (pc := 193) (c_X8_say hw T275 h301 h319 hp2 (vc_X8_look_7 h62 h67.2 h283.1 h300 h69 h301 h302 h55 h56 h68 h67.1) I278) (gOk _ _ _ _ _) dX8_look_193 (tX8_say _ _ _ _ _) ⟨wV_X8_say, wL_X8_say⟩ wM_X8_72 (gCX8 _ _ _ _ _) rfl (A_32 hw) rfl ⟨le_t rfl, le_t rfl⟩ ⟨le_t rfl, le_t rfl⟩ rfl (le_t rfl) fun μ320 T321 F322 h323 => ?_
          refine mr_iinc (pc := 196) (lv' := [(6, iv (z271 + 1)), (7, iv z310), (0, .ref 32), (1, iv p1), (2, iv p2)]) dX8_look_196 rfl (by decide) rfl ?_
          refine sv_goto (pc := 199) (tgt := 154) dX8_look_199 (by decide) ?_
          refine mr_lvS (lv' := [(0, .ref 32), (1, iv p1), (2, iv p2), (6, iv (z271 + 1))]) (List.forall_mem_cons.mpr ⟨rfl, List.forall_mem_cons.mpr ⟨rfl, List.forall_mem_cons.mpr ⟨rfl, List.forall_mem_cons.mpr ⟨rfl, fun _ h => absurd h List.not_mem_nil⟩⟩⟩⟩) ?_
          exact ih280 (z271 + 1) μ320 T321 (mF.call (mF.call mF.refl F276 rfl) F322 rfl) (rW (c := 0) (d := 20) (rAdd (e := 1) (f := 20) h301 (rR (x := 1)) rfl) rfl) (PC.keep I278 hw ((mF.call mF.refl F322 rfl) : mF [21002, 21003, 21004, 21005, 21006, 21007, 32010, 33999, 34999, 200002, 200003, 200004, 200005, 200006, 200007, 200008, 200009, 201999, 202999] w μ272 μ320) rfl) (vc_X10_tieBetween_6 (nS h279) h300 h283.1 h301 h302)
      refine mr_lvS (lv' := [(0, .ref 32), (1, iv p1), (2, iv p2), (6, iv 0)]) (List.forall_mem_cons.mpr ⟨rfl, List.forall_mem_cons.mpr ⟨rfl, List.forall_mem_cons.mpr ⟨rfl, List.forall_mem_cons.mpr ⟨rfl, fun _ h => absurd h List.not_mem_nil⟩⟩⟩⟩) ?_
      exact L273 22 0 μ78 T79 mF.refl (rW (c := 0) (d := 20) (rR (x := 0)) rfl) (PC.keep I61 hw ((mF.call (mF.up mF.refl A70 u72 rfl) F80 rfl) : mF [200002, 200003, 200004, 200005, 200006, 200007, 200008, 201999, 202999, 213999] w μ57 μ78) rfl) vc_X12_tieOf_12
    refine sv_aload (pc := 117) dX8_look_117 rfl ?_
    refine sv_aload_n (pc := 119) dX8_look_119 rfl rfl ?_
    refine gf_X0_3 (pc := 120) dX8_look_120 wF_X8_193 A3 T58 fun A324 => ?_
    refine mr_iload_n (pc := 123) (z := p2) dX8_look_123 rfl rfl ?_
    refine la_214 (pc := 124) dX8_look_124 A324 T58 (rIx (n := 10) hp2 rfl) fun b325 q326 A327 => ?_
    refine mr_cVP (pc := 125) (c_X7_isAlike hw T58 A53 A327) (gOk _ _ _ _ _) dX8_look_125 (tX7_isAlike _ _ _ _ _) ⟨wV_X7_isAlike, wL_X7_isAlike⟩ wM_X8_196 (gCX7 _ _ _ _ _) rfl A53 rfl ⟨le_t rfl, le_t rfl⟩ ⟨le_t rfl, le_t rfl⟩ rfl (le_t rfl) fun z332 h331 => ?_
    refine mr_if_eq (pc := 128) (tgt := 132) dX8_look_128 (by decide) (r32 h331.1 rfl) (fun h333 => ?_) (fun h333 => ?_)
    · have h334 : 0 ≤ z332 ∧ z332 ≤ 0 := (vc_X12_ring_22 h333 h331.1)
      refine sv_aload_n (pc := 132) dX8_look_132 rfl rfl ?_
      refine gf_X0_2 (pc := 133) dX8_look_133 wF_X8_190 A3 T58 fun A335 => ?_
      refine mr_iload_n (pc := 136) (z := p2) dX8_look_136 rfl rfl ?_
      refine mr_iload (pc := 137) (z := z54) dX8_look_137 rfl ?_
      refine ss_213 (pc := 139) dX8_look_139 A335 T58 (rIx (n := 10) hp2 rfl) (vc_X8_look_13 h62 h67.2 h69 h55 h56 h68 h67.1) fun μ336 u337 T338 => ?_
      refine sv_aload_n (pc := 140) dX8_look_140 rfl rfl ?_
      refine gf_X0_3 (pc := 141) dX8_look_141 wF_X8_193 A3 T338 fun A339 => ?_
      refine mr_iload_n (pc := 144) (z := p2) dX8_look_144 rfl rfl ?_
      refine lk_214 (pc := 145) dX8_look_145 A339 (rIx (n := 10) hp2 rfl) (u337.f (Or.inl (mAt.ne A335 A339 rfl)) q326) ?_
      refine sv_aload (pc := 146) dX8_look_146 rfl ?_
      refine mr_cVV (pc := 148) (c_X7_become hw T338 A327 A53) (gOk _ _ _ _ _) dX8_look_148 (tX7_become _ _ _ _ _) ⟨wV_X7_become, wL_X7_become⟩ wM_X8_106 (gCX7 _ _ _ _ _) rfl A327 rfl ⟨le_t rfl, le_t rfl⟩ ⟨le_t rfl, le_t rfl⟩ rfl (le_t rfl) fun μ340 T341 F342 h343 => ?_
      refine mr_iconst (pc := 151) (z := 0) dX8_look_151 ?_
      refine mr_istore (pc := 152) (lv' := [(6, iv 0), (0, .ref 32), (1, iv p1), (2, iv p2), (3, .ref b1), (4, .ref b52), (5, iv z54)]) dX8_look_152 (by decide) rfl ?_
      have L535 : ∀ (nL535 : Nat) (z533 : Int) (μ534 : mM), mT w μ534 → mF [21002, 21003, 21004, 21005, 21006, 21007, 32010, 33999, 34999, 200002, 200003, 200004, 200005, 200006, 200007, 200008, 200009, 201999, 202999] w μ340 μ534 → (0 ≤ z533 ∧ z533 ≤ 20) → PC w μ534 → (21 - z533) < (nL535 : Int) → sV (gG l D c H0 sa) mX8_look (sRm 42 0 0) (sZ (gG l D c H0 sa) 0 0 (qV w [21002, 21003, 21004, 21005, 21006, 21007, 32009, 32010, 33999, 34999, 66999, 200002, 200003, 200004, 200005, 200006, 200007, 200008, 200009, 200010, 200011, 201999, 202999, 213999] μ (fun μ1 => True))) 154 [(0, .ref 32), (1, iv p1), (2, iv p2), (6, iv z533)] [] (mk w μ534) 0 0 := by
        intro nL535
        induction nL535 with
        | zero => intro z533 μ534 T537 F538 h536 I540 h541; exact ((vc_X12_tieOf_1 h541 h536)).elim
        | succ nL535 ih542 =>
          intro z533 μ534 T537 F538 h536 I540 h541
          refine mr_iload (pc := 154) (z := z533) dX8_look_154 rfl ?_
          refine sv_aload_n (pc := 156) dX8_look_156 rfl rfl ?_
          refine gf_X8_0 (pc := 157) dX8_look_157 wF_X8_9 (A_32 hw) T537 ?_
          refine gf_X10_16 (pc := 160) dX8_look_160 wF_X8_153 (A_6 hw) T537 fun z543 q544 h545 => ?_
          refine mr_icmp_ge (pc := 163) (tgt := 202) dX8_look_163 (by decide) (r32 h536 rfl) (r32 h545.2 rfl) (fun h562 => ?_) (fun h562 => ?_)
          · exact mr_vret dX8_look_202 rfl (le_t rfl) (le_t rfl) T537 (mF.call (mF.call (mF.up (mF.call mF.refl F59 rfl) A335 u337 rfl) F342 rfl) F538 rfl) trivial
          have h563 : 0 ≤ z533 ∧ z533 ≤ 19 := (vc_X10_tieBetween_3 h562 h545.1 h536 h545.2)
          have h564 : 1 ≤ z543 ∧ z543 ≤ 20 := (vc_X10_tieBetween_4 h562 h545.1 h563 h545.2)
          refine sv_aload_n (pc := 166) dX8_look_166 rfl rfl ?_
          refine gf_X8_0 (pc := 167) dX8_look_167 wF_X8_9 (A_32 hw) T537 ?_
          refine gf_X10_4 (pc := 170) dX8_look_170 wF_X8_76 (A_6 hw) T537 ?_
          refine mr_iload (pc := 173) (z := z533) dX8_look_173 rfl ?_
          refine la_11 (pc := 175) dX8_look_175 (A_11 hw) T537 (rIx (n := 20) h563 rfl) (vc_X8_look_17 h62 h67.2 h545.1 h562 h69 h563 h55 h56 h564 h68 h67.1) fun b565 q566 A567 => ?_
          refine mr_iload_n (pc := 176) (z := p1) dX8_look_176 rfl rfl ?_
          refine mr_cVP (pc := 177) (c_X9_sideOf hw T537 A567 (rW (c := (-2147483648)) (d := 2147483647) hp1 rfl)) (gOk _ _ _ _ _) dX8_look_177 (tX9_sideOf _ _ _ _ _) ⟨wV_X9_sideOf, wL_X9_sideOf⟩ wM_X8_156 (gCX9 _ _ _ _ _) rfl A567 rfl ⟨le_t rfl, le_t rfl⟩ ⟨le_t rfl, le_t rfl⟩ rfl (le_t rfl) fun z572 h571 => ?_
          refine mr_istore (pc := 180) (lv' := [(7, iv z572), (0, .ref 32), (1, iv p1), (2, iv p2), (6, iv z533)]) dX8_look_180 (by decide) rfl ?_
          refine mr_iload (pc := 182) (z := z572) dX8_look_182 rfl ?_
          refine mr_if_lt (pc := 184) (tgt := 196) dX8_look_184 (by decide) (r32 h571.1 rfl) (fun h579 => ?_) (fun h579 => ?_)
          · have h580 : (-1) ≤ z572 ∧ z572 ≤ (-1) := (vc_X12_differ_33 h579 h571.1)
            refine mr_iinc (pc := 196) (lv' := [(6, iv (z533 + 1)), (7, iv z572), (0, .ref 32), (1, iv p1), (2, iv p2)]) dX8_look_196 rfl (by decide) rfl ?_
            refine sv_goto (pc := 199) (tgt := 154) dX8_look_199 (by decide) ?_
            refine mr_lvS (lv' := [(0, .ref 32), (1, iv p1), (2, iv p2), (6, iv (z533 + 1))]) (List.forall_mem_cons.mpr ⟨rfl, List.forall_mem_cons.mpr ⟨rfl, List.forall_mem_cons.mpr ⟨rfl, List.forall_mem_cons.mpr ⟨rfl, fun _ h => absurd h List.not_mem_nil⟩⟩⟩⟩) ?_
            exact ih542 (z533 + 1) μ534 T537 (mF.call mF.refl F538 rfl) (rW (c := 0) (d := 20) (rAdd (e := 1) (f := 20) h563 (rR (x := 1)) rfl) rfl) I540 (vc_X10_tieBetween_6 (nS h541) h562 h545.1 h563 h564)
          have h581 : 0 ≤ z572 ∧ z572 ≤ 1 := (vc_X12_differ_32 h579 h571.1)
          refine sv_aload_n (pc := 187) dX8_look_187 rfl rfl ?_
          refine mr_iload (pc := 188) (z := z533) dX8_look_188 rfl ?_
          refine mr_iload (pc := 190) (z := z572) dX8_look_190 rfl ?_
          refine mr_iload_n (pc := 192) (z := p2) dX8_look_192 rfl rfl ?_
          refine mr_cVV (pc := 193) (c_X8_say hw T537 h563 h581 hp2 (vc_X8_look_17 h62 h67.2 h545.1 h562 h69 h563 h55 h56 h564 h68 h67.1) I540) (gOk _ _ _ _ _) dX8_look_193 (tX8_say _ _ _ _ _) ⟨wV_X8_say, wL_X8_say⟩ wM_X8_72 (gCX8 _ _ _ _ _) rfl (A_32 hw) rfl ⟨le_t rfl, le_t rfl⟩ ⟨le_t rfl, le_t rfl⟩ rfl (le_t rfl) fun μ582 T583 F584 h585 => ?_
          refine mr_iinc (pc := 196) (lv' := [(6, iv (z533 + 1)), (7, iv z572), (0, .ref 32), (1, iv p1), (2, iv p2)]) dX8_look_196 rfl (by decide) rfl ?_
          refine sv_goto (pc := 199) (tgt := 154) dX8_look_199 (by decide) ?_
          refine mr_lvS (lv' := [(0, .ref 32), (1, iv p1), (2, iv p2), (6, iv (z533 + 1))]) (List.forall_mem_cons.mpr ⟨rfl, List.forall_mem_cons.mpr ⟨rfl, List.forall_mem_cons.mpr ⟨rfl, List.forall_mem_cons.mpr ⟨rfl, fun _ h => absurd h List.not_mem_nil⟩⟩⟩⟩) ?_
          exact ih542 (z533 + 1) μ582 T583 (mF.call (mF.call mF.refl F538 rfl) F584 rfl) (rW (c := 0) (d := 20) (rAdd (e := 1) (f := 20) h563 (rR (x := 1)) rfl) rfl) (PC.keep I540 hw ((mF.call mF.refl F584 rfl) : mF [21002, 21003, 21004, 21005, 21006, 21007, 32010, 33999, 34999, 200002, 200003, 200004, 200005, 200006, 200007, 200008, 200009, 201999, 202999] w μ534 μ582) rfl) (vc_X10_tieBetween_6 (nS h541) h562 h545.1 h563 h564)
      refine mr_lvS (lv' := [(0, .ref 32), (1, iv p1), (2, iv p2), (6, iv 0)]) (List.forall_mem_cons.mpr ⟨rfl, List.forall_mem_cons.mpr ⟨rfl, List.forall_mem_cons.mpr ⟨rfl, List.forall_mem_cons.mpr ⟨rfl, fun _ h => absurd h List.not_mem_nil⟩⟩⟩⟩) ?_
      exact L535 22 0 μ340 T341 mF.refl (rW (c := 0) (d := 20) (rR (x := 0)) rfl) (PC.keep I61 hw ((mF.call (mF.up mF.refl A335 u337 rfl) F342 rfl) : mF [200002, 200003, 200004, 200005, 200006, 200007, 200008, 201999, 202999, 213999] w μ57 μ340) rfl) vc_X12_tieOf_12
    have h586 : 1 ≤ z332 ∧ z332 ≤ 1 := (vc_X12_ring_24 h333 h331.1)
    exact mr_vret dX8_look_131 rfl (le_t rfl) (le_t rfl) T58 (mF.call mF.refl F59 rfl) trivial
  refine mr_icmp_eq (pc := 27) (tgt := 57) dX8_look_27 (by decide) (r32 h7 rfl) (r32 (rR (x := (-1))) rfl) (fun h587 => ?_) (fun h587 => ?_)
  · have h588 : (-1) ≤ z5 ∧ z5 ≤ (-1) := (vc_X8_look_22 h587 h7)
    refine sv_aload_n (pc := 57) dX8_look_57 rfl rfl ?_
    refine mr_iload_n (pc := 58) (z := p1) dX8_look_58 rfl rfl ?_
    refine mr_iload_n (pc := 59) (z := p2) dX8_look_59 rfl rfl ?_
    refine mr_cVV (pc := 60) (c_X8_gather hw hT hp1 hp2 hIPC) (gOk _ _ _ _ _) dX8_look_60 (tX8_gather _ _ _ _ _) ⟨wV_X8_gather, wL_X8_gather⟩ wM_X8_175 (gCX8 _ _ _ _ _) rfl (A_32 hw) rfl ⟨le_t rfl, le_t rfl⟩ ⟨le_t rfl, le_t rfl⟩ rfl (le_t rfl) fun μ589 T590 F591 h592 => ?_
    refine sv_aload_n (pc := 63) dX8_look_63 rfl rfl ?_
    refine gf_X0_5 (pc := 64) dX8_look_64 wF_X8_178 A3 T590 fun z593 q594 h595 => ?_
    refine mr_if_eq (pc := 67) (tgt := 78) dX8_look_67 (by decide) (r32 h595 rfl) (fun h596 => ?_) (fun h596 => ?_)
    · have h597 : 0 ≤ z593 ∧ z593 ≤ 0 := (vc_X12_ring_22 h596 h595)
      refine sv_aload_n (pc := 78) dX8_look_78 rfl rfl ?_
      refine sv_aload_n (pc := 79) dX8_look_79 rfl rfl ?_
      refine mr_cVI (pc := 80) (c_X8_pickPlain hw T590 A3) (gOk _ _ _ _ _) dX8_look_80 (tX8_pickPlain _ _ _ _ _) ⟨wV_X8_pickPlain, wL_X8_pickPlain⟩ wM_X8_185 (gCX8 _ _ _ _ _) rfl (A_32 hw) rfl ⟨le_t rfl, le_t rfl⟩ ⟨le_t rfl, le_t rfl⟩ rfl (le_t rfl) fun z602 μ598 T599 F600 h601 => ?_
      refine mr_istore (pc := 83) (lv' := [(6, iv z602), (5, iv (-99999999)), (4, .ref 70), (3, .ref b1), (0, .ref 32), (1, iv p1), (2, iv p2)]) dX8_look_83 (by decide) rfl ?_
      refine mr_iload (pc := 85) (z := z602) dX8_look_85 rfl ?_
      refine mr_if_lt (pc := 87) (tgt := 106) dX8_look_87 (by decide) (r32 h601.1 rfl) (fun h603 => ?_) (fun h603 => ?_)
      · have h604 : (-1) ≤ z602 ∧ z602 ≤ (-1) := (vc_X8_look_24 h603 h601.2.1 h601.1)
        refine mr_lvS (lv' := [(0, .ref 32), (1, iv p1), (2, iv p2), (3, .ref b1), (4, .ref 70), (5, iv (-99999999))]) (List.forall_mem_cons.mpr ⟨rfl, List.forall_mem_cons.mpr ⟨rfl, List.forall_mem_cons.mpr ⟨rfl, List.forall_mem_cons.mpr ⟨rfl, List.forall_mem_cons.mpr ⟨rfl, List.forall_mem_cons.mpr ⟨rfl, fun _ h => absurd h List.not_mem_nil⟩⟩⟩⟩⟩⟩) ?_
        exact J63 (-99999999) 70 μ598 (A_70 hw) T599 (mF.call (mF.call mF.refl F591 rfl) F600 rfl) (rW (c := (-99999999)) (d := 19) (rR (x := (-99999999))) rfl) (vc_X8_look_25 h601.2.1 h603 h604) vc_X2_tieFor_24 (PC.keep hIPC hw ((mF.call (mF.call mF.refl F591 rfl) F600 rfl) : mF [21002, 21003, 21004, 21005, 21006, 21007, 32009, 66999, 200002, 200003, 200004, 200005, 200006, 200007, 200008, 200009, 200010, 200011, 201999, 202999] w μ μ598) rfl)
      have h605 : 0 ≤ z602 ∧ z602 ≤ 9 := (vc_X8_look_27 h603 h601.2.1 h601.1)
      refine sv_aload_n (pc := 90) dX8_look_90 rfl rfl ?_
      refine gf_X8_4 (pc := 91) dX8_look_91 wF_X8_34 (A_32 hw) T599 ?_
      refine mr_iload (pc := 94) (z := z602) dX8_look_94 rfl ?_
      refine la_35 (pc := 96) dX8_look_96 (A_35 hw) T599 (rIx (n := 10) h605 rfl) fun b606 q607 A608 => ?_
      refine mr_astore (pc := 97) (lv' := [(4, .ref b606), (6, iv z602), (5, iv (-99999999)), (3, .ref b1), (0, .ref 32), (1, iv p1), (2, iv p2)]) dX8_look_97 (by decide) rfl ?_
      refine sv_aload (pc := 99) dX8_look_99 rfl ?_
      refine gf_X7_10 (pc := 101) dX8_look_101 wF_X8_188 A608 T599 fun z609 q610 h611 => ?_
      have h612 : 0 ≤ z609 ∧ z609 ≤ 19 := ⟨h611.1, h611.2.1⟩
      refine mr_istore (pc := 104) (lv' := [(5, iv z609), (4, .ref b606), (6, iv z602), (3, .ref b1), (0, .ref 32), (1, iv p1), (2, iv p2)]) dX8_look_104 (by decide) rfl ?_
      refine mr_lvS (lv' := [(0, .ref 32), (1, iv p1), (2, iv p2), (3, .ref b1), (4, .ref b606), (5, iv z609)]) (List.forall_mem_cons.mpr ⟨rfl, List.forall_mem_cons.mpr ⟨rfl, List.forall_mem_cons.mpr ⟨rfl, List.forall_mem_cons.mpr ⟨rfl, List.forall_mem_cons.mpr ⟨rfl, List.forall_mem_cons.mpr ⟨rfl, fun _ h => absurd h List.not_mem_nil⟩⟩⟩⟩⟩⟩) ?_
      exact J63 z609 b606 μ598 A608 T599 (mF.call (mF.call mF.refl F591 rfl) F600 rfl) (rW (c := (-99999999)) (d := 19) h612 rfl) (vc_X8_look_28 h601.2.1 h611.2.2 h603 h605 h612) (vc_X8_look_29 h611.2.2 h601.2.1 h605 h612) (PC.keep hIPC hw ((mF.call (mF.call mF.refl F591 rfl) F600 rfl) : mF [21002, 21003, 21004, 21005, 21006, 21007, 32009, 66999, 200002, 200003, 200004, 200005, 200006, 200007, 200008, 200009, 200010, 200011, 201999, 202999] w μ μ598) rfl)
    have h613 : 1 ≤ z593 ∧ z593 ≤ 1 := (vc_X12_ring_24 h596 h595)
    refine sv_aload_n (pc := 70) dX8_look_70 rfl rfl ?_
    refine sv_aload_n (pc := 71) dX8_look_71 rfl rfl ?_
    refine mr_cVI (pc := 72) (c_X8_pickGrouped hw T590 A3) (gOk _ _ _ _ _) dX8_look_72 (tX8_pickGrouped _ _ _ _ _) ⟨wV_X8_pickGrouped, wL_X8_pickGrouped⟩ wM_X8_181 (gCX8 _ _ _ _ _) rfl (A_32 hw) rfl ⟨le_t rfl, le_t rfl⟩ ⟨le_t rfl, le_t rfl⟩ rfl (le_t rfl) fun z618 μ614 T615 F616 h617 => ?_
    refine sv_goto (pc := 75) (tgt := 83) dX8_look_75 (by decide) ?_
    refine mr_istore (pc := 83) (lv' := [(6, iv z618), (5, iv (-99999999)), (4, .ref 70), (3, .ref b1), (0, .ref 32), (1, iv p1), (2, iv p2)]) dX8_look_83 (by decide) rfl ?_
    refine mr_iload (pc := 85) (z := z618) dX8_look_85 rfl ?_
    refine mr_if_lt (pc := 87) (tgt := 106) dX8_look_87 (by decide) (r32 h617.1 rfl) (fun h619 => ?_) (fun h619 => ?_)
    · have h620 : (-1) ≤ z618 ∧ z618 ≤ (-1) := (vc_X8_look_24 h619 h617.2.1 h617.1)
      refine mr_lvS (lv' := [(0, .ref 32), (1, iv p1), (2, iv p2), (3, .ref b1), (4, .ref 70), (5, iv (-99999999))]) (List.forall_mem_cons.mpr ⟨rfl, List.forall_mem_cons.mpr ⟨rfl, List.forall_mem_cons.mpr ⟨rfl, List.forall_mem_cons.mpr ⟨rfl, List.forall_mem_cons.mpr ⟨rfl, List.forall_mem_cons.mpr ⟨rfl, fun _ h => absurd h List.not_mem_nil⟩⟩⟩⟩⟩⟩) ?_
      exact J63 (-99999999) 70 μ614 (A_70 hw) T615 (mF.call (mF.call mF.refl F591 rfl) F616 rfl) (rW (c := (-99999999)) (d := 19) (rR (x := (-99999999))) rfl) (vc_X8_look_25 h617.2.1 h619 h620) vc_X2_tieFor_24 (PC.keep hIPC hw ((mF.call (mF.call mF.refl F591 rfl) F616 rfl) : mF [21002, 21003, 21004, 21005, 21006, 21007, 32009, 66999, 200002, 200003, 200004, 200005, 200006, 200007, 200008, 200009, 200010, 200011, 201999, 202999] w μ μ614) rfl)
    have h621 : 0 ≤ z618 ∧ z618 ≤ 9 := (vc_X8_look_27 h619 h617.2.1 h617.1)
    refine sv_aload_n (pc := 90) dX8_look_90 rfl rfl ?_
    refine gf_X8_4 (pc := 91) dX8_look_91 wF_X8_34 (A_32 hw) T615 ?_
    refine mr_iload (pc := 94) (z := z618) dX8_look_94 rfl ?_
    refine la_35 (pc := 96) dX8_look_96 (A_35 hw) T615 (rIx (n := 10) h621 rfl) fun b622 q623 A624 => ?_
    refine mr_astore (pc := 97) (lv' := [(4, .ref b622), (6, iv z618), (5, iv (-99999999)), (3, .ref b1), (0, .ref 32), (1, iv p1), (2, iv p2)]) dX8_look_97 (by decide) rfl ?_
    refine sv_aload (pc := 99) dX8_look_99 rfl ?_
    refine gf_X7_10 (pc := 101) dX8_look_101 wF_X8_188 A624 T615 fun z625 q626 h627 => ?_
    have h628 : 0 ≤ z625 ∧ z625 ≤ 19 := ⟨h627.1, h627.2.1⟩
    refine mr_istore (pc := 104) (lv' := [(5, iv z625), (4, .ref b622), (6, iv z618), (3, .ref b1), (0, .ref 32), (1, iv p1), (2, iv p2)]) dX8_look_104 (by decide) rfl ?_
    refine mr_lvS (lv' := [(0, .ref 32), (1, iv p1), (2, iv p2), (3, .ref b1), (4, .ref b622), (5, iv z625)]) (List.forall_mem_cons.mpr ⟨rfl, List.forall_mem_cons.mpr ⟨rfl, List.forall_mem_cons.mpr ⟨rfl, List.forall_mem_cons.mpr ⟨rfl, List.forall_mem_cons.mpr ⟨rfl, List.forall_mem_cons.mpr ⟨rfl, fun _ h => absurd h List.not_mem_nil⟩⟩⟩⟩⟩⟩) ?_
    exact J63 z625 b622 μ614 A624 T615 (mF.call (mF.call mF.refl F591 rfl) F616 rfl) (rW (c := (-99999999)) (d := 19) h628 rfl) (vc_X8_look_28 h617.2.1 h627.2.2 h619 h621 h628) (vc_X8_look_29 h627.2.2 h617.2.1 h621 h628) (PC.keep hIPC hw ((mF.call (mF.call mF.refl F591 rfl) F616 rfl) : mF [21002, 21003, 21004, 21005, 21006, 21007, 32009, 66999, 200002, 200003, 200004, 200005, 200006, 200007, 200008, 200009, 200010, 200011, 201999, 202999] w μ μ614) rfl)
  have h629 : 0 ≤ z5 ∧ z5 ≤ 2 := (vc_X8_look_36 h587 h7)
  refine sv_aload_n (pc := 30) dX8_look_30 rfl rfl ?_
  refine gf_X8_6 (pc := 31) dX8_look_31 wF_X8_42 (A_32 hw) hT ?_
  refine mr_iload_n (pc := 34) (z := p2) dX8_look_34 rfl rfl ?_
  refine sv_aload_n (pc := 35) dX8_look_35 rfl rfl ?_
  refine gf_X0_1 (pc := 36) dX8_look_36 wF_X8_167 A3 hT fun A630 => ?_
  refine mr_iload_n (pc := 39) (z := p2) dX8_look_39 rfl rfl ?_
  refine lk_212 (pc := 40) dX8_look_40 A630 (rIx (n := 10) hp2 rfl) q6 ?_
  refine mr_cVV (pc := 41) (c_X7_begin hw hT (A_67 hw) hp2 (rW (c := (-2147483648)) (d := 2147483647) h629 rfl)) (gOk _ _ _ _ _) dX8_look_41 (tX7_begin _ _ _ _ _) ⟨wV_X7_begin, wL_X7_begin⟩ wM_X8_172 (gCX7 _ _ _ _ _) rfl (A_67 hw) rfl ⟨le_t rfl, le_t rfl⟩ ⟨le_t rfl, le_t rfl⟩ rfl (le_t rfl) fun μ631 T632 F633 h634 => ?_
  refine sv_aload_n (pc := 44) dX8_look_44 rfl rfl ?_
  refine gf_X8_6 (pc := 45) dX8_look_45 wF_X8_42 (A_32 hw) T632 ?_
  refine mr_astore (pc := 48) (lv' := [(4, .ref 67), (5, iv (-99999999)), (3, .ref b1), (0, .ref 32), (1, iv p1), (2, iv p2)]) dX8_look_48 (by decide) rfl ?_
  refine mr_bipush (pc := 50) (z := (-4)) dX8_look_50 (by decide) ?_
  refine mr_istore (pc := 52) (lv' := [(5, iv (-4)), (4, .ref 67), (3, .ref b1), (0, .ref 32), (1, iv p1), (2, iv p2)]) dX8_look_52 (by decide) rfl ?_
  refine sv_goto (pc := 54) (tgt := 106) dX8_look_54 (by decide) ?_
  refine mr_lvS (lv' := [(0, .ref 32), (1, iv p1), (2, iv p2), (3, .ref b1), (4, .ref 67), (5, iv (-4))]) (List.forall_mem_cons.mpr ⟨rfl, List.forall_mem_cons.mpr ⟨rfl, List.forall_mem_cons.mpr ⟨rfl, List.forall_mem_cons.mpr ⟨rfl, List.forall_mem_cons.mpr ⟨rfl, List.forall_mem_cons.mpr ⟨rfl, fun _ h => absurd h List.not_mem_nil⟩⟩⟩⟩⟩⟩) ?_
  exact J63 (-4) 67 μ631 (A_67 hw) T632 (mF.call mF.refl F633 rfl) (rW (c := (-99999999)) (d := 19) (rR (x := (-4))) rfl) vc_X8_look_37 vc_X8_look_38 (PC.keep hIPC hw ((mF.call mF.refl F633 rfl) : mF [200002, 200003, 200004, 200005, 200006, 200007, 200008] w μ μ631) rfl)
set_option maxRecDepth 4000 in
set_option maxHeartbeats 4000000 in
theorem c_X8_lookAtAll {l : Launch} {D : va_G} {c : Nat → ClassId} {H0 : Heap} {sa : Nat × Nat × (Nat → Int32)} {w : mW} {μ : mM} (hw : mWF w) (hT : mT w μ) {p1 : Int} (hp1 : 0 ≤ p1 ∧ p1 ≤ 9) (hq0 : p1 < w.2.2.2 0) (hIPC : PC w μ) : sC (gG l D c H0 sa) mX8_lookAtAll 43 0 0 [.ref 32, iv p1] (mk w μ) (qV w [21002, 21003, 21004, 21005, 21006, 21007, 32009, 32010, 33999, 34999, 66999, 200002, 200003, 200004, 200005, 200006, 200007, 200008, 200009, 200010, 200011, 201999, 202999, 213999] μ (fun μ1 => True)) := by
  refine sC.of rfl (by decide) (le_t rfl) ?_
  refine mr_lvE (lv' := [(0, .ref 32), (1, iv p1)]) rfl ?_
  refine mr_iconst (pc := 0) (z := 0) dX8_lookAtAll_0 ?_
  refine mr_istore_n (pc := 1) (lv' := [(2, iv 0), (0, .ref 32), (1, iv p1)]) dX8_lookAtAll_1 rfl (by decide) rfl ?_
  have L69 : ∀ (nL69 : Nat) (z67 : Int) (μ68 : mM), mT w μ68 → mF [21002, 21003, 21004, 21005, 21006, 21007, 32009, 32010, 33999, 34999, 66999, 200002, 200003, 200004, 200005, 200006, 200007, 200008, 200009, 200010, 200011, 201999, 202999, 213999] w μ μ68 → (0 ≤ z67 ∧ z67 ≤ 10) → PC w μ68 → (11 - z67) < (nL69 : Int) → sV (gG l D c H0 sa) mX8_lookAtAll (sRm 43 0 0) (sZ (gG l D c H0 sa) 0 0 (qV w [21002, 21003, 21004, 21005, 21006, 21007, 32009, 32010, 33999, 34999, 66999, 200002, 200003, 200004, 200005, 200006, 200007, 200008, 200009, 200010, 200011, 201999, 202999, 213999] μ (fun μ1 => True))) 2 [(0, .ref 32), (1, iv p1), (2, iv z67)] [] (mk w μ68) 0 0 := by
    intro nL69
    induction nL69 with
    | zero => intro z67 μ68 T71 F72 h70 I74 h75; exact ((vc_X12_ring_2 h75 h70)).elim
    | succ nL69 ih76 =>
      intro z67 μ68 T71 F72 h70 I74 h75
      refine mr_iload_n (pc := 2) (z := z67) dX8_lookAtAll_2 rfl rfl ?_
      refine sv_aload_n (pc := 3) dX8_lookAtAll_3 rfl rfl ?_
      refine gf_X8_0 (pc := 4) dX8_lookAtAll_4 wF_X8_9 (A_32 hw) T71 ?_
      refine gf_X10_14 (pc := 7) dX8_lookAtAll_7 wF_X8_150 (A_6 hw) T71 fun z77 q78 h79 => ?_
      refine mr_icmp_ge (pc := 10) (tgt := 25) dX8_lookAtAll_10 (by decide) (r32 h70 rfl) (r32 h79 rfl) (fun h86 => ?_) (fun h86 => ?_)
      · exact mr_vret dX8_lookAtAll_25 rfl (le_t rfl) (le_t rfl) T71 (mF.call mF.refl F72 rfl) trivial
      have h87 : 0 ≤ z67 ∧ z67 ≤ 9 := (vc_X12_ring_3 h86 h70 h79)
      have h88 : 1 ≤ z77 ∧ z77 ≤ 10 := (vc_X12_ring_4 h86 h87 h79)
      refine sv_aload_n (pc := 13) dX8_lookAtAll_13 rfl rfl ?_
      refine mr_iload_n (pc := 14) (z := p1) dX8_lookAtAll_14 rfl rfl ?_
      refine mr_iload_n (pc := 15) (z := z67) dX8_lookAtAll_15 rfl rfl ?_
      refine mr_cVV (pc := 16) (c_X8_look hw T71 hp1 h87 (vc_X9_end_1 hq0 hp1) I74) (gOk _ _ _ _ _) dX8_lookAtAll_16 (tX8_look _ _ _ _ _) ⟨wV_X8_look, wL_X8_look⟩ wM_X8_92 (gCX8 _ _ _ _ _) rfl (A_32 hw) rfl ⟨le_t rfl, le_t rfl⟩ ⟨le_t rfl, le_t rfl⟩ rfl (le_t rfl) fun μ89 T90 F91 h92 => ?_
      refine mr_iinc (pc := 19) (lv' := [(2, iv (z67 + 1)), (0, .ref 32), (1, iv p1)]) dX8_lookAtAll_19 rfl (by decide) rfl ?_
      refine sv_goto (pc := 22) (tgt := 2) dX8_lookAtAll_22 (by decide) ?_
      refine mr_lvS (lv' := [(0, .ref 32), (1, iv p1), (2, iv (z67 + 1))]) (List.forall_mem_cons.mpr ⟨rfl, List.forall_mem_cons.mpr ⟨rfl, List.forall_mem_cons.mpr ⟨rfl, fun _ h => absurd h List.not_mem_nil⟩⟩⟩) ?_
      exact ih76 (z67 + 1) μ89 T90 (mF.call (mF.call mF.refl F72 rfl) F91 rfl) (rW (c := 0) (d := 10) (rAdd (e := 1) (f := 10) h87 (rR (x := 1)) rfl) rfl) (PC.keep I74 hw ((mF.call mF.refl F91 rfl) : mF [21002, 21003, 21004, 21005, 21006, 21007, 32009, 32010, 33999, 34999, 66999, 200002, 200003, 200004, 200005, 200006, 200007, 200008, 200009, 200010, 200011, 201999, 202999, 213999] w μ68 μ89) rfl) (vc_X12_sends_11 (nS h75) h86 h87 h88)
  refine mr_lvS (lv' := [(0, .ref 32), (1, iv p1), (2, iv 0)]) (List.forall_mem_cons.mpr ⟨rfl, List.forall_mem_cons.mpr ⟨rfl, List.forall_mem_cons.mpr ⟨rfl, fun _ h => absurd h List.not_mem_nil⟩⟩⟩) ?_
  exact L69 12 0 μ hT mF.refl (rW (c := 0) (d := 10) (rR (x := 0)) rfl) hIPC vc_X12_ring_27
theorem vc_X8_tellAllAnew_3 {n0 z1183 z869 z879 : Int} (h0 : z1183 < z879) (h1 : z879 = n0) (h2 : z879 ≤ z869) (h3 : 0 ≤ z1183 ∧ z1183 ≤ 10) (h4 : 0 ≤ z869 ∧ z869 ≤ 10) (h5 : 0 ≤ z879 ∧ z879 ≤ 10) : 0 ≤ z1183 ∧ z1183 ≤ 9 := by omega
theorem vc_X8_tellAllAnew_4 {n0 z1183 z869 z879 : Int} (h0 : z1183 < z879) (h1 : z879 = n0) (h2 : z879 ≤ z869) (h3 : 0 ≤ z1183 ∧ z1183 ≤ 9) (h4 : 0 ≤ z869 ∧ z869 ≤ 10) (h5 : 0 ≤ z879 ∧ z879 ≤ 10) : 1 ≤ z879 ∧ z879 ≤ 10 := by omega
theorem vc_X8_tellAllAnew_6 {N n0 z1183 z869 z879 : Int} (h0 : (11 - z1183) < N + 1) (h1 : z1183 < z879) (h2 : z879 = n0) (h3 : z879 ≤ z869) (h4 : 0 ≤ z1183 ∧ z1183 ≤ 9) (h5 : 0 ≤ z869 ∧ z869 ≤ 10) (h6 : 1 ≤ z879 ∧ z879 ≤ 10) : (11 - (z1183 + 1)) < N := by omega
theorem vc_X8_tellAllAnew_21 {n0 z869 z879 : Int} (h0 : z879 = n0) (h1 : z869 < z879) (h2 : 0 ≤ z869 ∧ z869 ≤ 9) (h3 : 1 ≤ z879 ∧ z879 ≤ 10) : z869 < n0 := by omega
set_option maxRecDepth 4000 in
set_option maxHeartbeats 4000000 in
theorem c_X8_tellAllAnew {l : Launch} {D : va_G} {c : Nat → ClassId} {H0 : Heap} {sa : Nat × Nat × (Nat → Int32)} {w : mW} {μ : mM} (hw : mWF w) (hT : mT w μ) (hIPC : PC w μ) : sC (gG l D c H0 sa) mX8_tellAllAnew 43 0 0 [.ref 32] (mk w μ) (qV w [21002, 21003, 21004, 21005, 21006, 21007, 32009, 32010, 33999, 34999, 66999, 200002, 200003, 200004, 200005, 200006, 200007, 200008, 200009, 200010, 200011, 201999, 202999, 213999] μ (fun μ1 => True)) := by
  refine sC.of rfl (by decide) (le_t rfl) ?_
  refine mr_lvE (lv' := [(0, .ref 32)]) rfl ?_
  refine mr_iconst (pc := 0) (z := 0) dX8_tellAllAnew_0 ?_
  refine mr_istore_n (pc := 1) (lv' := [(1, iv 0), (0, .ref 32)]) dX8_tellAllAnew_1 rfl (by decide) rfl ?_
  have L871 : ∀ (nL871 : Nat) (z869 : Int) (μ870 : mM), mT w μ870 → mF [21002, 21003, 21004, 21005, 21006, 21007, 32009, 32010, 33999, 34999, 66999, 200002, 200003, 200004, 200005, 200006, 200007, 200008, 200009, 200010, 200011, 201999, 202999, 213999] w μ μ870 → (0 ≤ z869 ∧ z869 ≤ 10) → PC w μ870 → (11 - z869) < (nL871 : Int) → sV (gG l D c H0 sa) mX8_tellAllAnew (sRm 43 0 0) (sZ (gG l D c H0 sa) 0 0 (qV w [21002, 21003, 21004, 21005, 21006, 21007, 32009, 32010, 33999, 34999, 66999, 200002, 200003, 200004, 200005, 200006, 200007, 200008, 200009, 200010, 200011, 201999, 202999, 213999] μ (fun μ1 => True))) 2 [(0, .ref 32), (1, iv z869)] [] (mk w μ870) 0 0 := by
    intro nL871
    induction nL871 with
    | zero => intro z869 μ870 T873 F874 h872 I876 h877; exact ((vc_X12_ring_2 h877 h872)).elim
    | succ nL871 ih878 =>
      intro z869 μ870 T873 F874 h872 I876 h877
      refine mr_iload_n (pc := 2) (z := z869) dX8_tellAllAnew_2 rfl rfl ?_
      refine sv_aload_n (pc := 3) dX8_tellAllAnew_3 rfl rfl ?_
      refine gf_X8_0 (pc := 4) dX8_tellAllAnew_4 wF_X8_9 (A_32 hw) T873 ?_
      refine gf_X10_15 (pc := 7) dX8_tellAllAnew_7 wF_X8_147 (A_6 hw) T873 fun z879 q880 h881 => ?_
      refine mr_icmp_ge (pc := 10) (tgt := 44) dX8_tellAllAnew_10 (by decide) (r32 h872 rfl) (r32 h881.2 rfl) (fun h906 => ?_) (fun h906 => ?_)
      · refine mr_iconst (pc := 44) (z := 0) dX8_tellAllAnew_44 ?_
        refine mr_istore_n (pc := 45) (lv' := [(1, iv 0), (0, .ref 32)]) dX8_tellAllAnew_45 rfl (by decide) rfl ?_
        have L1185 : ∀ (nL1185 : Nat) (z1183 : Int) (μ1184 : mM), mT w μ1184 → mF [21002, 21003, 21004, 21005, 21006, 21007, 32010, 33999, 34999, 200002, 200003, 200004, 200005, 200006, 200007, 200008, 200009, 201999, 202999] w μ870 μ1184 → (0 ≤ z1183 ∧ z1183 ≤ 10) → PC w μ1184 → (11 - z1183) < (nL1185 : Int) → sV (gG l D c H0 sa) mX8_tellAllAnew (sRm 43 0 0) (sZ (gG l D c H0 sa) 0 0 (qV w [21002, 21003, 21004, 21005, 21006, 21007, 32009, 32010, 33999, 34999, 66999, 200002, 200003, 200004, 200005, 200006, 200007, 200008, 200009, 200010, 200011, 201999, 202999, 213999] μ (fun μ1 => True))) 46 [(0, .ref 32), (1, iv z1183)] [] (mk w μ1184) 0 0 := by
          intro nL1185
          induction nL1185 with
          | zero => intro z1183 μ1184 T1187 F1188 h1186 I1190 h1191; exact ((vc_X12_ring_2 h1191 h1186)).elim
          | succ nL1185 ih1192 =>
            intro z1183 μ1184 T1187 F1188 h1186 I1190 h1191
            refine mr_iload_n (pc := 46) (z := z1183) dX8_tellAllAnew_46 rfl rfl ?_
            refine sv_aload_n (pc := 47) dX8_tellAllAnew_47 rfl rfl ?_
            refine gf_X8_0 (pc := 48) dX8_tellAllAnew_48 wF_X8_9 (A_32 hw) T1187 ?_
            refine gk_X10_15 (pc := 51) dX8_tellAllAnew_51 wF_X8_147 (A_6 hw) (F1188.f (A_6 hw) rfl q880) ?_
            refine mr_icmp_ge (pc := 54) (tgt := 106) dX8_tellAllAnew_54 (by decide) (r32 h1186 rfl) (r32 h881.2 rfl) (fun h1237 => ?_) (fun h1237 => ?_)
            · exact mr_vret dX8_tellAllAnew_106 rfl (le_t rfl) (le_t rfl) T1187 (mF.call (mF.call mF.refl F874 rfl) F1188 rfl) trivial
            have h1238 : 0 ≤ z1183 ∧ z1183 ≤ 9 := (vc_X8_tellAllAnew_3 h1237 h881.1 h906 h1186 h872 h881.2)
            have h1239 : 1 ≤ z879 ∧ z879 ≤ 10 := (vc_X8_tellAllAnew_4 h1237 h881.1 h906 h1238 h872 h881.2)
            refine mr_iconst (pc := 57) (z := 0) dX8_tellAllAnew_57 ?_
            refine mr_istore_n (pc := 58) (lv' := [(2, iv 0), (0, .ref 32), (1, iv z1183)]) dX8_tellAllAnew_58 rfl (by decide) rfl ?_
            have L1410 : ∀ (nL1410 : Nat) (z1408 : Int) (μ1409 : mM), mT w μ1409 → mF [21002, 21003, 21004, 21005, 21006, 21007, 32010, 33999, 34999, 200002, 200003, 200004, 200005, 200006, 200007, 200008, 200009, 201999, 202999] w μ1184 μ1409 → (0 ≤ z1408 ∧ z1408 ≤ 20) → PC w μ1409 → (21 - z1408) < (nL1410 : Int) → sV (gG l D c H0 sa) mX8_tellAllAnew (sRm 43 0 0) (sZ (gG l D c H0 sa) 0 0 (qV w [21002, 21003, 21004, 21005, 21006, 21007, 32009, 32010, 33999, 34999, 66999, 200002, 200003, 200004, 200005, 200006, 200007, 200008, 200009, 200010, 200011, 201999, 202999, 213999] μ (fun μ1 => True))) 59 [(0, .ref 32), (1, iv z1183), (2, iv z1408)] [] (mk w μ1409) 0 0 := by
              intro nL1410
              induction nL1410 with
              | zero => intro z1408 μ1409 T1412 F1413 h1411 I1415 h1416; exact ((vc_X12_tieOf_1 h1416 h1411)).elim
              | succ nL1410 ih1417 =>
                intro z1408 μ1409 T1412 F1413 h1411 I1415 h1416
                refine mr_iload_n (pc := 59) (z := z1408) dX8_tellAllAnew_59 rfl rfl ?_
                refine sv_aload_n (pc := 60) dX8_tellAllAnew_60 rfl rfl ?_
                refine gf_X8_0 (pc := 61) dX8_tellAllAnew_61 wF_X8_9 (A_32 hw) T1412 ?_
                refine gf_X10_16 (pc := 64) dX8_tellAllAnew_64 wF_X8_153 (A_6 hw) T1412 fun z1418 q1419 h1420 => ?_
                refine mr_icmp_ge (pc := 67) (tgt := 100) dX8_tellAllAnew_67 (by decide) (r32 h1411 rfl) (r32 h1420.2 rfl) (fun h1437 => ?_) (fun h1437 => ?_)
                · refine mr_iinc (pc := 100) (lv' := [(1, iv (z1183 + 1)), (0, .ref 32), (2, iv z1408)]) dX8_tellAllAnew_100 rfl (by decide) rfl ?_
                  refine sv_goto (pc := 103) (tgt := 46) dX8_tellAllAnew_103 (by decide) ?_
                  refine mr_lvS (lv' := [(0, .ref 32), (1, iv (z1183 + 1))]) (List.forall_mem_cons.mpr ⟨rfl, List.forall_mem_cons.mpr ⟨rfl, fun _ h => absurd h List.not_mem_nil⟩⟩) ?_
                  exact ih1192 (z1183 + 1) μ1409 T1412 (mF.call (mF.call mF.refl F1188 rfl) F1413 rfl) (rW (c := 0) (d := 10) (rAdd (e := 1) (f := 10) h1238 (rR (x := 1)) rfl) rfl) I1415 (vc_X8_tellAllAnew_6 (nS h1191) h1237 h881.1 h906 h1238 h872 h1239)
                have h1438 : 0 ≤ z1408 ∧ z1408 ≤ 19 := (vc_X10_tieBetween_3 h1437 h1420.1 h1411 h1420.2)
                have h1439 : 1 ≤ z1418 ∧ z1418 ≤ 20 := (vc_X10_tieBetween_4 h1437 h1420.1 h1438 h1420.2)
                refine sv_aload_n (pc := 70) dX8_tellAllAnew_70 rfl rfl ?_
                refine gf_X8_0 (pc := 71) dX8_tellAllAnew_71 wF_X8_9 (A_32 hw) T1412 ?_
                refine gf_X10_4 (pc := 74) dX8_tellAllAnew_74 wF_X8_76 (A_6 hw) T1412 ?_
                refine mr_iload_n (pc := 77) (z := z1408) dX8_tellAllAnew_77 rfl rfl ?_
                refine la_11 (pc := 78) dX8_tellAllAnew_78 (A_11 hw) T1412 (rIx (n := 20) h1438 rfl) (vc_X10_tieBetween_5 h1420.1 h1437 h1438 h1439) fun b1440 q1441 A1442 => ?_
                refine mr_iload_n (pc := 79) (z := z1183) dX8_tellAllAnew_79 rfl rfl ?_
                refine mr_cVP (pc := 80) (c_X9_sideOf hw T1412 A1442 (rW (c := (-2147483648)) (d := 2147483647) h1238 rfl)) (gOk _ _ _ _ _) dX8_tellAllAnew_80 (tX9_sideOf _ _ _ _ _) ⟨wV_X9_sideOf, wL_X9_sideOf⟩ wM_X8_156 (gCX9 _ _ _ _ _) rfl A1442 rfl ⟨le_t rfl, le_t rfl⟩ ⟨le_t rfl, le_t rfl⟩ rfl (le_t rfl) fun z1447 h1446 => ?_
                refine mr_istore_n (pc := 83) (lv' := [(3, iv z1447), (0, .ref 32), (1, iv z1183), (2, iv z1408)]) dX8_tellAllAnew_83 rfl (by decide) rfl ?_
                refine mr_iload_n (pc := 84) (z := z1447) dX8_tellAllAnew_84 rfl rfl ?_
                refine mr_if_lt (pc := 85) (tgt := 94) dX8_tellAllAnew_85 (by decide) (r32 h1446.1 rfl) (fun h1454 => ?_) (fun h1454 => ?_)
                · have h1455 : (-1) ≤ z1447 ∧ z1447 ≤ (-1) := (vc_X12_differ_33 h1454 h1446.1)
                  refine mr_iinc (pc := 94) (lv' := [(2, iv (z1408 + 1)), (3, iv z1447), (0, .ref 32), (1, iv z1183)]) dX8_tellAllAnew_94 rfl (by decide) rfl ?_
                  refine sv_goto (pc := 97) (tgt := 59) dX8_tellAllAnew_97 (by decide) ?_
                  refine mr_lvS (lv' := [(0, .ref 32), (1, iv z1183), (2, iv (z1408 + 1))]) (List.forall_mem_cons.mpr ⟨rfl, List.forall_mem_cons.mpr ⟨rfl, List.forall_mem_cons.mpr ⟨rfl, fun _ h => absurd h List.not_mem_nil⟩⟩⟩) ?_
                  exact ih1417 (z1408 + 1) μ1409 T1412 (mF.call mF.refl F1413 rfl) (rW (c := 0) (d := 20) (rAdd (e := 1) (f := 20) h1438 (rR (x := 1)) rfl) rfl) I1415 (vc_X10_tieBetween_6 (nS h1416) h1437 h1420.1 h1438 h1439)
                have h1456 : 0 ≤ z1447 ∧ z1447 ≤ 1 := (vc_X12_differ_32 h1454 h1446.1)
                refine sv_aload_n (pc := 88) dX8_tellAllAnew_88 rfl rfl ?_
                refine mr_iload_n (pc := 89) (z := z1408) dX8_tellAllAnew_89 rfl rfl ?_
                refine mr_iload_n (pc := 90) (z := z1447) dX8_tellAllAnew_90 rfl rfl ?_
                refine mr_cVV (pc := 91) (c_X8_sayAll hw T1412 h1438 h1456 (vc_X10_tieBetween_5 h1420.1 h1437 h1438 h1439) I1415) (gOk _ _ _ _ _) dX8_tellAllAnew_91 (tX8_sayAll _ _ _ _ _) ⟨wV_X8_sayAll, wL_X8_sayAll⟩ wM_X8_159 (gCX8 _ _ _ _ _) rfl (A_32 hw) rfl ⟨le_t rfl, le_t rfl⟩ ⟨le_t rfl, le_t rfl⟩ rfl (le_t rfl) fun μ1457 T1458 F1459 h1460 => ?_
                refine mr_iinc (pc := 94) (lv' := [(2, iv (z1408 + 1)), (3, iv z1447), (0, .ref 32), (1, iv z1183)]) dX8_tellAllAnew_94 rfl (by decide) rfl ?_
                refine sv_goto (pc := 97) (tgt := 59) dX8_tellAllAnew_97 (by decide) ?_
                refine mr_lvS (lv' := [(0, .ref 32), (1, iv z1183), (2, iv (z1408 + 1))]) (List.forall_mem_cons.mpr ⟨rfl, List.forall_mem_cons.mpr ⟨rfl, List.forall_mem_cons.mpr ⟨rfl, fun _ h => absurd h List.not_mem_nil⟩⟩⟩) ?_
                exact ih1417 (z1408 + 1) μ1457 T1458 (mF.call (mF.call mF.refl F1413 rfl) F1459 rfl) (rW (c := 0) (d := 20) (rAdd (e := 1) (f := 20) h1438 (rR (x := 1)) rfl) rfl) (PC.keep I1415 hw ((mF.call mF.refl F1459 rfl) : mF [21002, 21003, 21004, 21005, 21006, 21007, 32010, 33999, 34999, 200002, 200003, 200004, 200005, 200006, 200007, 200008, 200009, 201999, 202999] w μ1409 μ1457) rfl) (vc_X10_tieBetween_6 (nS h1416) h1437 h1420.1 h1438 h1439)
            refine mr_lvS (lv' := [(0, .ref 32), (1, iv z1183), (2, iv 0)]) (List.forall_mem_cons.mpr ⟨rfl, List.forall_mem_cons.mpr ⟨rfl, List.forall_mem_cons.mpr ⟨rfl, fun _ h => absurd h List.not_mem_nil⟩⟩⟩) ?_
            exact L1410 22 0 μ1184 T1187 mF.refl (rW (c := 0) (d := 20) (rR (x := 0)) rfl) I1190 vc_X12_tieOf_12
        refine mr_lvS (lv' := [(0, .ref 32), (1, iv 0)]) (List.forall_mem_cons.mpr ⟨rfl, List.forall_mem_cons.mpr ⟨rfl, fun _ h => absurd h List.not_mem_nil⟩⟩) ?_
        exact L1185 12 0 μ870 T873 mF.refl (rW (c := 0) (d := 10) (rR (x := 0)) rfl) I876 vc_X12_ring_27
      have h1461 : 0 ≤ z869 ∧ z869 ≤ 9 := (vc_X10_coneOf_2 h906 h881.1 h872 h881.2)
      have h1462 : 1 ≤ z879 ∧ z879 ≤ 10 := (vc_X10_coneOf_3 h906 h881.1 h1461 h881.2)
      refine mr_iconst (pc := 13) (z := 0) dX8_tellAllAnew_13 ?_
      refine mr_istore_n (pc := 14) (lv' := [(2, iv 0), (0, .ref 32), (1, iv z869)]) dX8_tellAllAnew_14 rfl (by decide) rfl ?_
      have L1531 : ∀ (nL1531 : Nat) (z1529 : Int) (μ1530 : mM), mT w μ1530 → mF [21002, 21003, 21004, 21005, 21006, 21007, 32009, 32010, 33999, 34999, 66999, 200002, 200003, 200004, 200005, 200006, 200007, 200008, 200009, 200010, 200011, 201999, 202999, 213999] w μ870 μ1530 → (0 ≤ z1529 ∧ z1529 ≤ 10) → PC w μ1530 → (11 - z1529) < (nL1531 : Int) → sV (gG l D c H0 sa) mX8_tellAllAnew (sRm 43 0 0) (sZ (gG l D c H0 sa) 0 0 (qV w [21002, 21003, 21004, 21005, 21006, 21007, 32009, 32010, 33999, 34999, 66999, 200002, 200003, 200004, 200005, 200006, 200007, 200008, 200009, 200010, 200011, 201999, 202999, 213999] μ (fun μ1 => True))) 15 [(0, .ref 32), (1, iv z869), (2, iv z1529)] [] (mk w μ1530) 0 0 := by
        intro nL1531
        induction nL1531 with
        | zero => intro z1529 μ1530 T1533 F1534 h1532 I1536 h1537; exact ((vc_X12_ring_2 h1537 h1532)).elim
        | succ nL1531 ih1538 =>
          intro z1529 μ1530 T1533 F1534 h1532 I1536 h1537
          refine mr_iload_n (pc := 15) (z := z1529) dX8_tellAllAnew_15 rfl rfl ?_
          refine sv_aload_n (pc := 16) dX8_tellAllAnew_16 rfl rfl ?_
          refine gf_X8_0 (pc := 17) dX8_tellAllAnew_17 wF_X8_9 (A_32 hw) T1533 ?_
          refine gf_X10_14 (pc := 20) dX8_tellAllAnew_20 wF_X8_150 (A_6 hw) T1533 fun z1539 q1540 h1541 => ?_
          refine mr_icmp_ge (pc := 23) (tgt := 38) dX8_tellAllAnew_23 (by decide) (r32 h1532 rfl) (r32 h1541 rfl) (fun h1548 => ?_) (fun h1548 => ?_)
          · refine mr_iinc (pc := 38) (lv' := [(1, iv (z869 + 1)), (0, .ref 32), (2, iv z1529)]) dX8_tellAllAnew_38 rfl (by decide) rfl ?_
            refine sv_goto (pc := 41) (tgt := 2) dX8_tellAllAnew_41 (by decide) ?_
            refine mr_lvS (lv' := [(0, .ref 32), (1, iv (z869 + 1))]) (List.forall_mem_cons.mpr ⟨rfl, List.forall_mem_cons.mpr ⟨rfl, fun _ h => absurd h List.not_mem_nil⟩⟩) ?_
            exact ih878 (z869 + 1) μ1530 T1533 (mF.call (mF.call mF.refl F874 rfl) F1534 rfl) (rW (c := 0) (d := 10) (rAdd (e := 1) (f := 10) h1461 (rR (x := 1)) rfl) rfl) I1536 (vc_X10_coneOf_5 (nS h877) h906 h881.1 h1461 h1462)
          have h1549 : 0 ≤ z1529 ∧ z1529 ≤ 9 := (vc_X12_ring_3 h1548 h1532 h1541)
          have h1550 : 1 ≤ z1539 ∧ z1539 ≤ 10 := (vc_X12_ring_4 h1548 h1549 h1541)
          refine sv_aload_n (pc := 26) dX8_tellAllAnew_26 rfl rfl ?_
          refine mr_iload_n (pc := 27) (z := z869) dX8_tellAllAnew_27 rfl rfl ?_
          refine mr_iload_n (pc := 28) (z := z1529) dX8_tellAllAnew_28 rfl rfl ?_
          refine mr_cVV (pc := 29) (c_X8_look hw T1533 h1461 h1549 (vc_X8_tellAllAnew_21 h881.1 h906 h1461 h1462) I1536) (gOk _ _ _ _ _) dX8_tellAllAnew_29 (tX8_look _ _ _ _ _) ⟨wV_X8_look, wL_X8_look⟩ wM_X8_92 (gCX8 _ _ _ _ _) rfl (A_32 hw) rfl ⟨le_t rfl, le_t rfl⟩ ⟨le_t rfl, le_t rfl⟩ rfl (le_t rfl) fun μ1551 T1552 F1553 h1554 => ?_
          refine mr_iinc (pc := 32) (lv' := [(2, iv (z1529 + 1)), (0, .ref 32), (1, iv z869)]) dX8_tellAllAnew_32 rfl (by decide) rfl ?_
          refine sv_goto (pc := 35) (tgt := 15) dX8_tellAllAnew_35 (by decide) ?_
          refine mr_lvS (lv' := [(0, .ref 32), (1, iv z869), (2, iv (z1529 + 1))]) (List.forall_mem_cons.mpr ⟨rfl, List.forall_mem_cons.mpr ⟨rfl, List.forall_mem_cons.mpr ⟨rfl, fun _ h => absurd h List.not_mem_nil⟩⟩⟩) ?_
          exact ih1538 (z1529 + 1) μ1551 T1552 (mF.call (mF.call mF.refl F1534 rfl) F1553 rfl) (rW (c := 0) (d := 10) (rAdd (e := 1) (f := 10) h1549 (rR (x := 1)) rfl) rfl) (PC.keep I1536 hw ((mF.call mF.refl F1553 rfl) : mF [21002, 21003, 21004, 21005, 21006, 21007, 32009, 32010, 33999, 34999, 66999, 200002, 200003, 200004, 200005, 200006, 200007, 200008, 200009, 200010, 200011, 201999, 202999, 213999] w μ1530 μ1551) rfl) (vc_X12_sends_11 (nS h1537) h1548 h1549 h1550)
      refine mr_lvS (lv' := [(0, .ref 32), (1, iv z869), (2, iv 0)]) (List.forall_mem_cons.mpr ⟨rfl, List.forall_mem_cons.mpr ⟨rfl, List.forall_mem_cons.mpr ⟨rfl, fun _ h => absurd h List.not_mem_nil⟩⟩⟩) ?_
      exact L1531 12 0 μ870 T873 mF.refl (rW (c := 0) (d := 10) (rR (x := 0)) rfl) I876 vc_X12_ring_27
  refine mr_lvS (lv' := [(0, .ref 32), (1, iv 0)]) (List.forall_mem_cons.mpr ⟨rfl, List.forall_mem_cons.mpr ⟨rfl, fun _ h => absurd h List.not_mem_nil⟩⟩) ?_
  exact L871 12 0 μ hT mF.refl (rW (c := 0) (d := 10) (rR (x := 0)) rfl) hIPC vc_X12_ring_27
theorem vc_X8_silence_4 {n1 p1 z262 : Int} (h0 : z262 = ((((40 * p1) + (20 * 0)) + (2 * 0)) + 0)) (h1 : p1 < n1) (h2 : 0 ≤ p1 ∧ p1 ≤ 19) (h3 : 0 ≤ z262 ∧ z262 ≤ 839) : 0 ≤ z262 ∧ z262 ≤ 760 := by omega
theorem vc_X8_silence_5 {n1 p1 z262 z268 : Int} (h0 : z268 = ((((40 * (p1 + 1)) + (20 * 0)) + (2 * 0)) + 0)) (h1 : p1 < n1) (h2 : z262 = ((((40 * p1) + (20 * 0)) + (2 * 0)) + 0)) (h3 : 0 ≤ p1 ∧ p1 ≤ 19) (h4 : 0 ≤ z262 ∧ z262 ≤ 760) (h5 : 0 ≤ z268 ∧ z268 ≤ 839) : 40 ≤ z268 ∧ z268 ≤ 800 := by omega
theorem vc_X8_silence_7 {p1 z268 z310 : Int} (h0 : z268 ≤ z310) (h1 : z268 = ((((40 * (p1 + 1)) + (20 * 0)) + (2 * 0)) + 0)) (h2 : 0 ≤ p1 ∧ p1 ≤ 19) (h3 : 40 ≤ z268 ∧ z268 ≤ 800) (h4 : 0 ≤ z310 ∧ z310 ≤ 800) : 40 ≤ z310 ∧ z310 ≤ 800 := by omega
theorem vc_X8_silence_8 {p1 z268 z310 : Int} (h0 : z310 < z268) (h1 : z268 = ((((40 * (p1 + 1)) + (20 * 0)) + (2 * 0)) + 0)) (h2 : 0 ≤ p1 ∧ p1 ≤ 19) (h3 : 40 ≤ z268 ∧ z268 ≤ 800) (h4 : 0 ≤ z310 ∧ z310 ≤ 800) : 0 ≤ z310 ∧ z310 ≤ 799 := by omega
theorem vc_X8_silence_9 {N p1 z268 z310 : Int} (h0 : (801 - z310) < N + 1) (h1 : z310 < z268) (h2 : z268 = ((((40 * (p1 + 1)) + (20 * 0)) + (2 * 0)) + 0)) (h3 : 0 ≤ p1 ∧ p1 ≤ 19) (h4 : 40 ≤ z268 ∧ z268 ≤ 800) (h5 : 0 ≤ z310 ∧ z310 ≤ 799) : (801 - (z310 + 1)) < N := by omega
theorem vc_X8_silence_10 {n1 p1 z262 z268 : Int} (h0 : z262 = ((((40 * p1) + (20 * 0)) + (2 * 0)) + 0)) (h1 : p1 < n1) (h2 : z268 = ((((40 * (p1 + 1)) + (20 * 0)) + (2 * 0)) + 0)) (h3 : 0 ≤ p1 ∧ p1 ≤ 19) (h4 : 0 ≤ z262 ∧ z262 ≤ 760) (h5 : 40 ≤ z268 ∧ z268 ≤ 800) : (801 - z262) < ((802 : Nat) : Int) := by omega
theorem vc_X8_silence_12 {N z229 : Int} (h0 : (21 - z229) < N + 1) (h1 : z229 < 20) (h2 : 0 ≤ z229 ∧ z229 ≤ 19) : (21 - (z229 + 1)) < N := by omega
set_option maxRecDepth 4000 in
set_option maxHeartbeats 4000000 in
theorem c_X8_silence {l : Launch} {D : va_G} {c : Nat → ClassId} {H0 : Heap} {sa : Nat × Nat × (Nat → Int32)} {w : mW} {μ : mM} (hw : mWF w) (hT : mT w μ) {p1 : Int} (hp1 : 0 ≤ p1 ∧ p1 ≤ 19) (hq0 : p1 < w.2.2.2 1) : sC (gG l D c H0 sa) mX8_silence 4 0 0 [.ref 32, iv p1] (mk w μ) (qV w [32010, 33999, 34999, 200002, 200009, 220006] μ (fun μ1 => True)) := by
  refine sC.of rfl (by decide) (le_t rfl) ?_
  refine mr_lvE (lv' := [(0, .ref 32), (1, iv p1)]) rfl ?_
  refine sv_aload_n (pc := 0) dX8_silence_0 rfl rfl ?_
  refine gf_X8_0 (pc := 1) dX8_silence_1 wF_X8_9 (A_32 hw) hT ?_
  refine gf_X10_4 (pc := 4) dX8_silence_4 wF_X8_76 (A_6 hw) hT ?_
  refine mr_iload_n (pc := 7) (z := p1) dX8_silence_7 rfl rfl ?_
  refine la_11 (pc := 8) dX8_silence_8 (A_11 hw) hT (rIx (n := 20) hp1 rfl) (vc_X8_say_1 hq0 hp1) fun b1 q2 A3 => ?_
  refine mr_astore_n (pc := 9) (lv' := [(2, .ref b1), (0, .ref 32), (1, iv p1)]) dX8_silence_9 rfl (by decide) rfl ?_
  refine sv_aload_n (pc := 10) dX8_silence_10 rfl rfl ?_
  refine mr_iconst (pc := 11) (z := 0) dX8_silence_11 ?_
  refine pf_X9_6 (pc := 12) dX8_silence_12 wF_X8_136 A3 hT (rW (c := 0) (d := 1) (rR (x := 0)) rfl) fun μ4 u5 T6 => ?_
  refine mr_iconst (pc := 15) (z := 0) dX8_silence_15 ?_
  refine mr_istore_n (pc := 16) (lv' := [(3, iv 0), (2, .ref b1), (0, .ref 32), (1, iv p1)]) dX8_silence_16 rfl (by decide) rfl ?_
  have L231 : ∀ (nL231 : Nat) (z229 : Int) (μ230 : mM), mT w μ230 → mF [200002, 200009] w μ4 μ230 → (0 ≤ z229 ∧ z229 ≤ 20) → (21 - z229) < (nL231 : Int) → sV (gG l D c H0 sa) mX8_silence (sRm 4 0 0) (sZ (gG l D c H0 sa) 0 0 (qV w [32010, 33999, 34999, 200002, 200009, 220006] μ (fun μ1 => True))) 17 [(0, .ref 32), (1, iv p1), (2, .ref b1), (3, iv z229)] [] (mk w μ230) 0 0 := by
    intro nL231
    induction nL231 with
    | zero => intro z229 μ230 T233 F234 h232 h236; exact ((vc_X12_tieOf_1 h236 h232)).elim
    | succ nL231 ih237 =>
      intro z229 μ230 T233 F234 h232 h236
      refine mr_iload_n (pc := 17) (z := z229) dX8_silence_17 rfl rfl ?_
      refine mr_bipush (pc := 18) (z := 20) dX8_silence_18 (by decide) ?_
      refine mr_icmp_ge (pc := 20) (tgt := 47) dX8_silence_20 (by decide) (r32 h232 rfl) (r32 (rR (x := 20)) rfl) (fun h256 => ?_) (fun h256 => ?_)
      · have h257 : 20 ≤ z229 ∧ z229 ≤ 20 := (vc_X12_same_29 h256 h232)
        refine mr_iload_n (pc := 47) (z := p1) dX8_silence_47 rfl rfl ?_
        refine mr_iconst (pc := 48) (z := 0) dX8_silence_48 ?_
        refine mr_iconst (pc := 49) (z := 0) dX8_silence_49 ?_
        refine mr_iconst (pc := 50) (z := 0) dX8_silence_50 ?_
        refine mr_cSP (pc := 51) (c_X8_slotOf hw T233 (rW (c := 0) (d := 20) hp1 rfl) (rW (c := 0) (d := 1) (rR (x := 0)) rfl) (rW (c := 0) (d := 9) (rR (x := 0)) rfl) (rW (c := 0) (d := 1) (rR (x := 0)) rfl)) (gOk _ _ _ _ _) dX8_silence_51 (tX8_slotOf _ _ _ _ _) wS_X8_slotOf wM_X8_143 ⟨le_t rfl, le_t rfl⟩ ⟨le_t rfl, le_t rfl⟩ rfl (le_t rfl) fun z262 h261 => ?_
        have h263 : 0 ≤ z262 ∧ z262 ≤ 760 := (vc_X8_silence_4 h261.2.1 hq0 hp1 h261.1)
        refine mr_istore_n (pc := 54) (lv' := [(3, iv z262), (0, .ref 32), (1, iv p1), (2, .ref b1)]) dX8_silence_54 rfl (by decide) rfl ?_
        refine mr_iload_n (pc := 55) (z := p1) dX8_silence_55 rfl rfl ?_
        refine mr_iconst (pc := 56) (z := 1) dX8_silence_56 ?_
        refine mr_iadd (pc := 57) (x := p1) (y := 1) dX8_silence_57 ?_
        refine mr_iconst (pc := 58) (z := 0) dX8_silence_58 ?_
        refine mr_iconst (pc := 59) (z := 0) dX8_silence_59 ?_
        refine mr_iconst (pc := 60) (z := 0) dX8_silence_60 ?_
        refine mr_cSP (pc := 61) (c_X8_slotOf hw T233 (rW (c := 0) (d := 20) (rAdd (e := 1) (f := 20) hp1 (rR (x := 1)) rfl) rfl) (rW (c := 0) (d := 1) (rR (x := 0)) rfl) (rW (c := 0) (d := 9) (rR (x := 0)) rfl) (rW (c := 0) (d := 1) (rR (x := 0)) rfl)) (gOk _ _ _ _ _) dX8_silence_61 (tX8_slotOf _ _ _ _ _) wS_X8_slotOf wM_X8_143 ⟨le_t rfl, le_t rfl⟩ ⟨le_t rfl, le_t rfl⟩ rfl (le_t rfl) fun z268 h267 => ?_
        have h269 : 40 ≤ z268 ∧ z268 ≤ 800 := (vc_X8_silence_5 h267.2.1 hq0 h261.2.1 hp1 h263 h267.1)
        refine mr_istore (pc := 64) (lv' := [(4, iv z268), (3, iv z262), (0, .ref 32), (1, iv p1), (2, .ref b1)]) dX8_silence_64 (by decide) rfl ?_
        refine mr_iload_n (pc := 66) (z := z262) dX8_silence_66 rfl rfl ?_
        refine mr_istore (pc := 67) (lv' := [(5, iv z262), (4, iv z268), (3, iv z262), (0, .ref 32), (1, iv p1), (2, .ref b1)]) dX8_silence_67 (by decide) rfl ?_
        have L312 : ∀ (nL312 : Nat) (z310 : Int) (μ311 : mM), mT w μ311 → mF [32010, 33999, 34999] w μ230 μ311 → (0 ≤ z310 ∧ z310 ≤ 800) → (801 - z310) < (nL312 : Int) → sV (gG l D c H0 sa) mX8_silence (sRm 4 0 0) (sZ (gG l D c H0 sa) 0 0 (qV w [32010, 33999, 34999, 200002, 200009, 220006] μ (fun μ1 => True))) 69 [(0, .ref 32), (4, iv z268), (5, iv z310)] [] (mk w μ311) 0 0 := by
          intro nL312
          induction nL312 with
          | zero => intro z310 μ311 T314 F315 h313 h317; exact ((vc_X8_cancel_2 h317 h313)).elim
          | succ nL312 ih318 =>
            intro z310 μ311 T314 F315 h313 h317
            refine mr_iload (pc := 69) (z := z310) dX8_silence_69 rfl ?_
            refine mr_iload (pc := 71) (z := z268) dX8_silence_71 rfl ?_
            refine mr_icmp_ge (pc := 73) (tgt := 88) dX8_silence_73 (by decide) (r32 h313 rfl) (r32 h269 rfl) (fun h325 => ?_) (fun h325 => ?_)
            · have h326 : 40 ≤ z310 ∧ z310 ≤ 800 := (vc_X8_silence_7 h325 h267.2.1 hp1 h269 h313)
              exact mr_vret dX8_silence_88 rfl (le_t rfl) (le_t rfl) T314 (mF.call (mF.call (mF.up mF.refl A3 u5 rfl) F234 rfl) F315 rfl) trivial
            have h327 : 0 ≤ z310 ∧ z310 ≤ 799 := (vc_X8_silence_8 h325 h267.2.1 hp1 h269 h313)
            refine sv_aload_n (pc := 76) dX8_silence_76 rfl rfl ?_
            refine mr_iload (pc := 77) (z := z310) dX8_silence_77 rfl ?_
            refine mr_cVV (pc := 79) (c_X8_cancel hw T314 h327) (gOk _ _ _ _ _) dX8_silence_79 (tX8_cancel _ _ _ _ _) ⟨wV_X8_cancel, wL_X8_cancel⟩ wM_X8_65 (gCX8 _ _ _ _ _) rfl (A_32 hw) rfl ⟨le_t rfl, le_t rfl⟩ ⟨le_t rfl, le_t rfl⟩ rfl (le_t rfl) fun μ328 T329 F330 h331 => ?_
            refine mr_iinc (pc := 82) (lv' := [(5, iv (z310 + 1)), (0, .ref 32), (4, iv z268)]) dX8_silence_82 rfl (by decide) rfl ?_
            refine sv_goto (pc := 85) (tgt := 69) dX8_silence_85 (by decide) ?_
            refine mr_lvS (lv' := [(0, .ref 32), (4, iv z268), (5, iv (z310 + 1))]) (List.forall_mem_cons.mpr ⟨rfl, List.forall_mem_cons.mpr ⟨rfl, List.forall_mem_cons.mpr ⟨rfl, fun _ h => absurd h List.not_mem_nil⟩⟩⟩) ?_
            exact ih318 (z310 + 1) μ328 T329 (mF.call (mF.call mF.refl F315 rfl) F330 rfl) (rW (c := 0) (d := 800) (rAdd (e := 1) (f := 800) h327 (rR (x := 1)) rfl) rfl) (vc_X8_silence_9 (nS h317) h325 h267.2.1 hp1 h269 h327)
        refine mr_lvS (lv' := [(0, .ref 32), (4, iv z268), (5, iv z262)]) (List.forall_mem_cons.mpr ⟨rfl, List.forall_mem_cons.mpr ⟨rfl, List.forall_mem_cons.mpr ⟨rfl, fun _ h => absurd h List.not_mem_nil⟩⟩⟩) ?_
        exact L312 802 z262 μ230 T233 mF.refl (rW (c := 0) (d := 800) h263 rfl) (vc_X8_silence_10 h261.2.1 hq0 h267.2.1 hp1 h263 h269)
      have h332 : 0 ≤ z229 ∧ z229 ≤ 19 := (vc_X12_same_30 h256 h232)
      refine sv_aload_n (pc := 23) dX8_silence_23 rfl rfl ?_
      refine gf_X9_4 (pc := 24) dX8_silence_24 wF_X8_96 A3 T233 fun A333 => ?_
      refine mr_iload_n (pc := 27) (z := z229) dX8_silence_27 rfl rfl ?_
      refine la_222 (pc := 28) dX8_silence_28 A333 T233 (rIx (n := 20) h332 rfl) fun b334 q335 A336 => ?_
      refine mr_cVV (pc := 29) (c_X7_vanish hw T233 A336) (gOk _ _ _ _ _) dX8_silence_29 (tX7_vanish _ _ _ _ _) ⟨wV_X7_vanish, wL_X7_vanish⟩ wM_X8_140 (gCX7 _ _ _ _ _) rfl A336 rfl ⟨le_t rfl, le_t rfl⟩ ⟨le_t rfl, le_t rfl⟩ rfl (le_t rfl) fun μ337 T338 F339 h340 => ?_
      refine sv_aload_n (pc := 32) dX8_silence_32 rfl rfl ?_
      refine gf_X9_5 (pc := 33) dX8_silence_33 wF_X8_103 A3 T338 fun A341 => ?_
      refine mr_iload_n (pc := 36) (z := z229) dX8_silence_36 rfl rfl ?_
      refine la_223 (pc := 37) dX8_silence_37 A341 T338 (rIx (n := 20) h332 rfl) fun b342 q343 A344 => ?_
      refine mr_cVV (pc := 38) (c_X7_vanish hw T338 A344) (gOk _ _ _ _ _) dX8_silence_38 (tX7_vanish _ _ _ _ _) ⟨wV_X7_vanish, wL_X7_vanish⟩ wM_X8_140 (gCX7 _ _ _ _ _) rfl A344 rfl ⟨le_t rfl, le_t rfl⟩ ⟨le_t rfl, le_t rfl⟩ rfl (le_t rfl) fun μ345 T346 F347 h348 => ?_
      refine mr_iinc (pc := 41) (lv' := [(3, iv (z229 + 1)), (0, .ref 32), (1, iv p1), (2, .ref b1)]) dX8_silence_41 rfl (by decide) rfl ?_
      refine sv_goto (pc := 44) (tgt := 17) dX8_silence_44 (by decide) ?_
      refine mr_lvS (lv' := [(0, .ref 32), (1, iv p1), (2, .ref b1), (3, iv (z229 + 1))]) (List.forall_mem_cons.mpr ⟨rfl, List.forall_mem_cons.mpr ⟨rfl, List.forall_mem_cons.mpr ⟨rfl, List.forall_mem_cons.mpr ⟨rfl, fun _ h => absurd h List.not_mem_nil⟩⟩⟩⟩) ?_
      exact ih237 (z229 + 1) μ345 T346 (mF.call (mF.call (mF.call mF.refl F234 rfl) F339 rfl) F347 rfl) (rW (c := 0) (d := 20) (rAdd (e := 1) (f := 20) h332 (rR (x := 1)) rfl) rfl) (vc_X8_silence_12 (nS h236) h256 h332)
  refine mr_lvS (lv' := [(0, .ref 32), (1, iv p1), (2, .ref b1), (3, iv 0)]) (List.forall_mem_cons.mpr ⟨rfl, List.forall_mem_cons.mpr ⟨rfl, List.forall_mem_cons.mpr ⟨rfl, List.forall_mem_cons.mpr ⟨rfl, fun _ h => absurd h List.not_mem_nil⟩⟩⟩⟩) ?_
  exact L231 22 0 μ4 T6 mF.refl (rW (c := 0) (d := 20) (rR (x := 0)) rfl) vc_X12_tieOf_12
theorem vc_X8_doNext_4  : (0 : Int) < (2 : Int) ∧ (2 : Int) ≤ (2147483647 : Int) := by omega
theorem vc_X8_doNext_6 {z56 z8 : Int} (h0 : ¬ z56 = 1) (h1 : z8 % 2 = z56) (h2 : 0 ≤ z56 ∧ z56 ≤ 1) (h3 : 0 ≤ z8 ∧ z8 ≤ 799) : 0 ≤ z56 ∧ z56 ≤ 0 := by omega
theorem vc_X8_doNext_7 {n1 z1 z32 z38 z47 z50 z53 z56 z8 : Int} (h0 : (z1 = 0 ∨ 0 < n1)) (h1 : (z8 = 0 ∨ z8 < 40 * n1)) (h2 : z50 / 2 = z53) (h3 : ¬ z1 = 0) (h4 : z8 / 2 = z32) (h5 : z8 / 2 = z38) (h6 : z8 / 2 = z47) (h7 : z47 / 10 = z50) (h8 : z8 % 2 = z56) (h9 : 1 ≤ z1 ∧ z1 ≤ 800) (h10 : 0 ≤ z32 ∧ z32 ≤ 399) (h11 : 0 ≤ z38 ∧ z38 ≤ 399) (h12 : 0 ≤ z47 ∧ z47 ≤ 399) (h13 : 0 ≤ z50 ∧ z50 ≤ 39) (h14 : 0 ≤ z53 ∧ z53 ≤ 19) (h15 : 0 ≤ z56 ∧ z56 ≤ 0) (h16 : 0 ≤ z8 ∧ z8 ≤ 799) : z53 < n1 := by omega
theorem vc_X8_doNext_9 {z56 z8 : Int} (h0 : z56 = 1) (h1 : z8 % 2 = z56) (h2 : 0 ≤ z56 ∧ z56 ≤ 1) (h3 : 0 ≤ z8 ∧ z8 ≤ 799) : 1 ≤ z56 ∧ z56 ≤ 1 := by omega
theorem vc_X8_doNext_10 {n1 z1 z32 z38 z47 z50 z53 z56 z8 : Int} (h0 : (z1 = 0 ∨ 0 < n1)) (h1 : (z8 = 0 ∨ z8 < 40 * n1)) (h2 : z50 / 2 = z53) (h3 : ¬ z1 = 0) (h4 : z8 / 2 = z32) (h5 : z8 / 2 = z38) (h6 : z8 / 2 = z47) (h7 : z47 / 10 = z50) (h8 : z8 % 2 = z56) (h9 : 1 ≤ z1 ∧ z1 ≤ 800) (h10 : 0 ≤ z32 ∧ z32 ≤ 399) (h11 : 0 ≤ z38 ∧ z38 ≤ 399) (h12 : 0 ≤ z47 ∧ z47 ≤ 399) (h13 : 0 ≤ z50 ∧ z50 ≤ 39) (h14 : 0 ≤ z53 ∧ z53 ≤ 19) (h15 : 1 ≤ z56 ∧ z56 ≤ 1) (h16 : 0 ≤ z8 ∧ z8 ≤ 799) : z53 < n1 := by omega
set_option maxRecDepth 4000 in
set_option maxHeartbeats 4000000 in
theorem c_X8_doNext {l : Launch} {D : va_G} {c : Nat → ClassId} {H0 : Heap} {sa : Nat × Nat × (Nat → Int32)} {w : mW} {μ : mM} (hw : mWF w) (hT : mT w μ) {p1 : Int} (hp1 : (-1) ≤ p1 ∧ p1 ≤ 2000000000) (hIPC : PC w μ) : sC (gG l D c H0 sa) mX8_doNext 43 0 0 [.ref 32, iv p1] (mk w μ) (qI w [21002, 21003, 21004, 21005, 21006, 21007, 32009, 32010, 32011, 32012, 33999, 34999, 66999, 200002, 200003, 200004, 200005, 200006, 200007, 200008, 200009, 200010, 200011, 201999, 202999, 213999] μ (fun z μ1 => (0 ≤ z ∧ z ≤ 1) ∧ True)) := by
  refine sC.of rfl (by decide) (le_t rfl) ?_
  refine mr_lvE (lv' := [(0, .ref 32), (1, iv p1)]) rfl ?_
  refine sv_aload_n (pc := 0) dX8_doNext_0 rfl rfl ?_
  refine gf_X8_10 (pc := 1) dX8_doNext_1 wF_X8_52 (A_32 hw) hT fun z1 q2 h3 => ?_
  have h4 : 0 ≤ z1 ∧ z1 ≤ 800 := ⟨h3.1, h3.2.1⟩
  refine mr_if_eq (pc := 4) (tgt := 22) dX8_doNext_4 (by decide) (r32 h4 rfl) (fun h5 => ?_) (fun h5 => ?_)
  · have h6 : 0 ≤ z1 ∧ z1 ≤ 0 := (vc_X8_passTo_1 h5 h3.2.2 h4)
    refine mr_iconst (pc := 22) (z := 0) dX8_doNext_22 ?_
    exact mr_zret dX8_doNext_23 rfl (rW (c := 0) (d := 1) (rR (x := 0)) rfl) (le_t rfl) (le_t rfl) hT mF.refl ⟨(rW (c := 0) (d := 1) (rR (x := 0)) rfl), trivial⟩
  have h7 : 1 ≤ z1 ∧ z1 ≤ 800 := (vc_X8_passTo_2 h5 h3.2.2 h4)
  refine sv_aload_n (pc := 7) dX8_doNext_7 rfl rfl ?_
  refine gf_X8_3 (pc := 8) dX8_doNext_8 wF_X8_23 (A_32 hw) hT ?_
  refine sv_aload_n (pc := 11) dX8_doNext_11 rfl rfl ?_
  refine gf_X8_2 (pc := 12) dX8_doNext_12 wF_X8_19 (A_32 hw) hT ?_
  refine mr_iconst (pc := 15) (z := 0) dX8_doNext_15 ?_
  refine la_33 (pc := 16) dX8_doNext_16 (A_33 hw) hT (rIx (n := 800) (rR (x := 0)) rfl) fun z8 q9 h10 => ?_
  have h11 : 0 ≤ z8 ∧ z8 ≤ 799 := ⟨h10.1, h10.2.1⟩
  refine la_34 (pc := 17) dX8_doNext_17 (A_34 hw) hT (rIx (n := 800) h11 rfl) fun z12 q13 h14 => ?_
  refine mr_iload_n (pc := 18) (z := p1) dX8_doNext_18 rfl rfl ?_
  refine mr_icmp_le (pc := 19) (tgt := 24) dX8_doNext_19 (by decide) (r32 h14 rfl) (r32 hp1 rfl) (fun h15 => ?_) (fun h15 => ?_)
  · have h16 : (-1) ≤ z12 ∧ z12 ≤ 2000000000 := (vc_X8_passTo_3 h15 hp1 h14)
    refine sv_aload_n (pc := 24) dX8_doNext_24 rfl rfl ?_
    refine gf_X8_2 (pc := 25) dX8_doNext_25 wF_X8_19 (A_32 hw) hT ?_
    refine mr_iconst (pc := 28) (z := 0) dX8_doNext_28 ?_
    refine lk_33 (pc := 29) dX8_doNext_29 (A_33 hw) (rIx (n := 800) (rR (x := 0)) rfl) q9 ?_
    refine mr_istore_n (pc := 30) (lv' := [(2, iv z8), (0, .ref 32), (1, iv p1)]) dX8_doNext_30 rfl (by decide) rfl ?_
    refine sv_aload_n (pc := 31) dX8_doNext_31 rfl rfl ?_
    refine sv_aload_n (pc := 32) dX8_doNext_32 rfl rfl ?_
    refine gf_X8_3 (pc := 33) dX8_doNext_33 wF_X8_23 (A_32 hw) hT ?_
    refine mr_iload_n (pc := 36) (z := z8) dX8_doNext_36 rfl rfl ?_
    refine lk_34 (pc := 37) dX8_doNext_37 (A_34 hw) (rIx (n := 800) h11 rfl) q13 ?_
    refine pf_X8_11 (pc := 38) dX8_doNext_38 wF_X8_62 (A_32 hw) hT h16 fun μ17 u18 T19 => ?_
    refine sv_aload_n (pc := 41) dX8_doNext_41 rfl rfl ?_
    refine mr_iload_n (pc := 42) (z := z8) dX8_doNext_42 rfl rfl ?_
    refine mr_cVV (pc := 43) (c_X8_cancel hw T19 h11) (gOk _ _ _ _ _) dX8_doNext_43 (tX8_cancel _ _ _ _ _) ⟨wV_X8_cancel, wL_X8_cancel⟩ wM_X8_65 (gCX8 _ _ _ _ _) rfl (A_32 hw) rfl ⟨le_t rfl, le_t rfl⟩ ⟨le_t rfl, le_t rfl⟩ rfl (le_t rfl) fun μ20 T21 F22 h23 => ?_
    refine sv_aload_n (pc := 46) dX8_doNext_46 rfl rfl ?_
    refine sv_dup (pc := 47) dX8_doNext_47 rfl ?_
    refine gf_X8_12 (pc := 48) dX8_doNext_48 wF_X8_69 (A_32 hw) T21 fun z24 q25 h26 => ?_
    refine mr_iconst (pc := 51) (z := 1) dX8_doNext_51 ?_
    refine mr_iadd (pc := 52) (x := z24) (y := 1) dX8_doNext_52 ?_
    refine mr_wrap fun z27 h28 => ?_
    refine pf_X8_12 (pc := 53) dX8_doNext_53 wF_X8_69 (A_32 hw) T21 h28 fun μ29 u30 T31 => ?_
    refine mr_iload_n (pc := 56) (z := z8) dX8_doNext_56 rfl rfl ?_
    refine mr_iconst (pc := 57) (z := 2) dX8_doNext_57 ?_
    refine mr_idiv (pc := 58) (x := z8) (y := 2) dX8_doNext_58 (rW (c := 0) (d := 2147483647) h11 rfl) vc_X8_doNext_4 ?_
    refine mr_gen (P := fun z => 0 ≤ z ∧ z ≤ 399) (rDiv h11 rfl) fun z32 q33 h34 => ?_
    refine mr_bipush (pc := 59) (z := 10) dX8_doNext_59 (by decide) ?_
    refine mr_irem (pc := 61) (x := z32) (y := 10) dX8_doNext_61 (rW (c := 0) (d := 2147483647) h34 rfl) vc_X11_isRule_6 ?_
    refine mr_gen (P := fun z => 0 ≤ z ∧ z ≤ 9) (rMod h34 rfl) fun z35 q36 h37 => ?_
    refine mr_istore_n (pc := 62) (lv' := [(3, iv z35), (2, iv z8), (0, .ref 32), (1, iv p1)]) dX8_doNext_62 rfl (by decide) rfl ?_
    refine mr_iload_n (pc := 63) (z := z8) dX8_doNext_63 rfl rfl ?_
    refine mr_iconst (pc := 64) (z := 2) dX8_doNext_64 ?_
    refine mr_idiv (pc := 65) (x := z8) (y := 2) dX8_doNext_65 (rW (c := 0) (d := 2147483647) h11 rfl) vc_X8_doNext_4 ?_
    refine mr_gen (P := fun z => 0 ≤ z ∧ z ≤ 399) (rDiv h11 rfl) fun z38 q39 h40 => ?_
    refine mr_bipush (pc := 66) (z := 10) dX8_doNext_66 (by decide) ?_
    refine mr_idiv (pc := 68) (x := z38) (y := 10) dX8_doNext_68 (rW (c := 0) (d := 2147483647) h40 rfl) vc_X11_isRule_6 ?_
    refine mr_gen (P := fun z => 0 ≤ z ∧ z ≤ 39) (rDiv h40 rfl) fun z41 q42 h43 => ?_
    refine mr_iconst (pc := 69) (z := 2) dX8_doNext_69 ?_
    refine mr_irem (pc := 70) (x := z41) (y := 2) dX8_doNext_70 (rW (c := 0) (d := 2147483647) h43 rfl) vc_X8_doNext_4 ?_
    refine mr_gen (P := fun z => 0 ≤ z ∧ z ≤ 1) (rMod h43 rfl) fun z44 q45 h46 => ?_
    refine mr_istore (pc := 71) (lv' := [(4, iv z44), (3, iv z35), (2, iv z8), (0, .ref 32), (1, iv p1)]) dX8_doNext_71 (by decide) rfl ?_
    refine mr_iload_n (pc := 73) (z := z8) dX8_doNext_73 rfl rfl ?_
    refine mr_iconst (pc := 74) (z := 2) dX8_doNext_74 ?_
    refine mr_idiv (pc := 75) (x := z8) (y := 2) dX8_doNext_75 (rW (c := 0) (d := 2147483647) h11 rfl) vc_X8_doNext_4 ?_
    refine mr_gen (P := fun z => 0 ≤ z ∧ z ≤ 399) (rDiv h11 rfl) fun z47 q48 h49 => ?_
    refine mr_bipush (pc := 76) (z := 10) dX8_doNext_76 (by decide) ?_
    refine mr_idiv (pc := 78) (x := z47) (y := 10) dX8_doNext_78 (rW (c := 0) (d := 2147483647) h49 rfl) vc_X11_isRule_6 ?_
    refine mr_gen (P := fun z => 0 ≤ z ∧ z ≤ 39) (rDiv h49 rfl) fun z50 q51 h52 => ?_
    refine mr_iconst (pc := 79) (z := 2) dX8_doNext_79 ?_
    refine mr_idiv (pc := 80) (x := z50) (y := 2) dX8_doNext_80 (rW (c := 0) (d := 2147483647) h52 rfl) vc_X8_doNext_4 ?_
    refine mr_gen (P := fun z => 0 ≤ z ∧ z ≤ 19) (rDiv h52 rfl) fun z53 q54 h55 => ?_
    refine mr_istore (pc := 81) (lv' := [(5, iv z53), (4, iv z44), (3, iv z35), (2, iv z8), (0, .ref 32), (1, iv p1)]) dX8_doNext_81 (by decide) rfl ?_
    refine mr_iload_n (pc := 83) (z := z8) dX8_doNext_83 rfl rfl ?_
    refine mr_iconst (pc := 84) (z := 2) dX8_doNext_84 ?_
    refine mr_irem (pc := 85) (x := z8) (y := 2) dX8_doNext_85 (rW (c := 0) (d := 2147483647) h11 rfl) vc_X8_doNext_4 ?_
    refine mr_gen (P := fun z => 0 ≤ z ∧ z ≤ 1) (rMod h11 rfl) fun z56 q57 h58 => ?_
    refine mr_iconst (pc := 86) (z := 1) dX8_doNext_86 ?_
    refine mr_icmp_ne (pc := 87) (tgt := 102) dX8_doNext_87 (by decide) (r32 h58 rfl) (r32 (rR (x := 1)) rfl) (fun h81 => ?_) (fun h81 => ?_)
    · have h82 : 0 ≤ z56 ∧ z56 ≤ 0 := (vc_X8_doNext_6 h81 q57 h58 h11)
      refine sv_aload_n (pc := 102) dX8_doNext_102 rfl rfl ?_
      refine sv_aload_n (pc := 103) dX8_doNext_103 rfl rfl ?_
      refine gf_X8_0 (pc := 104) dX8_doNext_104 wF_X8_9 (A_32 hw) T31 ?_
      refine gf_X10_4 (pc := 107) dX8_doNext_107 wF_X8_76 (A_6 hw) T31 ?_
      refine mr_iload (pc := 110) (z := z53) dX8_doNext_110 rfl ?_
      refine la_11 (pc := 112) dX8_doNext_112 (A_11 hw) T31 (rIx (n := 20) h55 rfl) (vc_X8_doNext_7 h3.2.2 h10.2.2 q54 h5 q33 q39 q48 q51 q57 h7 h34 h40 h49 h52 h55 h82 h11) fun b83 q84 A85 => ?_
      refine mr_iload (pc := 113) (z := z44) dX8_doNext_113 rfl ?_
      refine mr_iload_n (pc := 115) (z := z35) dX8_doNext_115 rfl rfl ?_
      refine mr_cVV (pc := 116) (c_X8_handOver hw T31 A85 h46 h37) (gOk _ _ _ _ _) dX8_doNext_116 (tX8_handOver _ _ _ _ _) ⟨wV_X8_handOver, wL_X8_handOver⟩ wM_X8_82 (gCX8 _ _ _ _ _) rfl (A_32 hw) rfl ⟨le_t rfl, le_t rfl⟩ ⟨le_t rfl, le_t rfl⟩ rfl (le_t rfl) fun μ86 T87 F88 h89 => ?_
      refine sv_aload_n (pc := 119) dX8_doNext_119 rfl rfl ?_
      refine sv_aload_n (pc := 120) dX8_doNext_120 rfl rfl ?_
      refine gf_X8_0 (pc := 121) dX8_doNext_121 wF_X8_9 (A_32 hw) T87 ?_
      refine gf_X10_4 (pc := 124) dX8_doNext_124 wF_X8_76 (A_6 hw) T87 ?_
      refine mr_iload (pc := 127) (z := z53) dX8_doNext_127 rfl ?_
      refine lk_11 (pc := 129) dX8_doNext_129 (A_11 hw) (rIx (n := 20) h55 rfl) (F88.f (A_11 hw) rfl q84) ?_
      refine mr_iconst (pc := 130) (z := 1) dX8_doNext_130 ?_
      refine mr_iload (pc := 131) (z := z44) dX8_doNext_131 rfl ?_
      refine mr_isub (pc := 133) (x := 1) (y := z44) dX8_doNext_133 ?_
      refine mr_cVP (pc := 134) (c_X9_end hw T87 A85 (rW (c := (-2147483648)) (d := 2147483647) (rSub (e := 0) (f := 1) (rR (x := 1)) h46 rfl) rfl)) (gOk _ _ _ _ _) dX8_doNext_134 (tX9_end _ _ _ _ _) ⟨wV_X9_end, wL_X9_end⟩ wM_X8_86 (gCX9 _ _ _ _ _) rfl A85 rfl ⟨le_t rfl, le_t rfl⟩ ⟨le_t rfl, le_t rfl⟩ rfl (le_t rfl) fun z94 h93 => ?_
      refine mr_iload_n (pc := 137) (z := z35) dX8_doNext_137 rfl rfl ?_
      refine mr_cVV (pc := 138) (c_X8_look hw T87 h93.1 h37 (vc_X9_end_1 h93.2.1 h93.1) (PC.keep hIPC hw ((mF.call (mF.up (mF.call (mF.up mF.refl (A_32 hw) u18 rfl) F22 rfl) (A_32 hw) u30 rfl) F88 rfl) : mF [32010, 32011, 32012, 33999, 34999, 200002, 200003, 200004, 200005, 200006, 200007, 200008, 200009, 201999, 202999] w μ μ86) rfl)) (gOk _ _ _ _ _) dX8_doNext_138 (tX8_look _ _ _ _ _) ⟨wV_X8_look, wL_X8_look⟩ wM_X8_92 (gCX8 _ _ _ _ _) rfl (A_32 hw) rfl ⟨le_t rfl, le_t rfl⟩ ⟨le_t rfl, le_t rfl⟩ rfl (le_t rfl) fun μ95 T96 F97 h98 => ?_
      refine mr_iconst (pc := 141) (z := 1) dX8_doNext_141 ?_
      exact mr_zret dX8_doNext_142 rfl (rW (c := 0) (d := 1) (rR (x := 1)) rfl) (le_t rfl) (le_t rfl) T96 (mF.call (mF.call (mF.up (mF.call (mF.up mF.refl (A_32 hw) u18 rfl) F22 rfl) (A_32 hw) u30 rfl) F88 rfl) F97 rfl) ⟨(rW (c := 0) (d := 1) (rR (x := 1)) rfl), trivial⟩
    have h99 : 1 ≤ z56 ∧ z56 ≤ 1 := (vc_X8_doNext_9 h81 q57 h58 h11)
    refine sv_aload_n (pc := 90) dX8_doNext_90 rfl rfl ?_
    refine mr_iload (pc := 91) (z := z53) dX8_doNext_91 rfl ?_
    refine mr_iload (pc := 93) (z := z44) dX8_doNext_93 rfl ?_
    refine mr_iload_n (pc := 95) (z := z35) dX8_doNext_95 rfl rfl ?_
    refine mr_cVV (pc := 96) (c_X8_say hw T31 h55 h46 h37 (vc_X8_doNext_10 h3.2.2 h10.2.2 q54 h5 q33 q39 q48 q51 q57 h7 h34 h40 h49 h52 h55 h99 h11) (PC.keep hIPC hw ((mF.up (mF.call (mF.up mF.refl (A_32 hw) u18 rfl) F22 rfl) (A_32 hw) u30 rfl) : mF [32010, 32011, 32012, 33999, 34999] w μ μ29) rfl)) (gOk _ _ _ _ _) dX8_doNext_96 (tX8_say _ _ _ _ _) ⟨wV_X8_say, wL_X8_say⟩ wM_X8_72 (gCX8 _ _ _ _ _) rfl (A_32 hw) rfl ⟨le_t rfl, le_t rfl⟩ ⟨le_t rfl, le_t rfl⟩ rfl (le_t rfl) fun μ100 T101 F102 h103 => ?_
    refine sv_goto (pc := 99) (tgt := 141) dX8_doNext_99 (by decide) ?_
    refine mr_iconst (pc := 141) (z := 1) dX8_doNext_141 ?_
    exact mr_zret dX8_doNext_142 rfl (rW (c := 0) (d := 1) (rR (x := 1)) rfl) (le_t rfl) (le_t rfl) T101 (mF.call (mF.up (mF.call (mF.up mF.refl (A_32 hw) u18 rfl) F22 rfl) (A_32 hw) u30 rfl) F102 rfl) ⟨(rW (c := 0) (d := 1) (rR (x := 1)) rfl), trivial⟩
  have h104 : 0 ≤ z12 ∧ z12 ≤ 2000001000 := (vc_X8_passTo_4 h15 hp1 h14)
  refine mr_iconst (pc := 22) (z := 0) dX8_doNext_22 ?_
  exact mr_zret dX8_doNext_23 rfl (rW (c := 0) (d := 1) (rR (x := 0)) rfl) (le_t rfl) (le_t rfl) hT mF.refl ⟨(rW (c := 0) (d := 1) (rR (x := 0)) rfl), trivial⟩
theorem vc_X8_takeIn_3 {f_an f_wd z1715 : Int} (h0 : z1715 < (f_wd + f_an)) (h1 : f_wd + f_an ≤ 1000) (h2 : 0 ≤ f_an ∧ f_an ≤ 1000) (h3 : 0 ≤ f_wd ∧ f_wd ≤ 1000) (h4 : 0 ≤ z1715 ∧ z1715 ≤ 2000) : 0 ≤ z1715 ∧ z1715 ≤ 1999 := by omega
theorem vc_X8_takeIn_4 {f_an f_wd z1715 : Int} (h0 : z1715 < (f_wd + f_an)) (h1 : f_wd + f_an ≤ 1000) (h2 : 0 ≤ f_an ∧ f_an ≤ 1000) (h3 : 0 ≤ f_wd ∧ f_wd ≤ 1000) (h4 : 0 ≤ z1715 ∧ z1715 ≤ 1999) : 0 ≤ z1715 ∧ z1715 < 1000 := by omega
theorem vc_X8_takeIn_7 {N f_an f_wd z1715 : Int} (h0 : (2001 - z1715) < N + 1) (h1 : z1715 < (f_wd + f_an)) (h2 : f_wd + f_an ≤ 1000) (h3 : 0 ≤ f_an ∧ f_an ≤ 1000) (h4 : 0 ≤ f_wd ∧ f_wd ≤ 1000) (h5 : 0 ≤ z1715 ∧ z1715 ≤ 1999) : (2001 - (z1715 + 1)) < N := by omega
theorem vc_X8_takeIn_8 {f_an f_wd z1715 : Int} (h0 : z1715 < f_wd) (h1 : f_wd + f_an ≤ 1000) (h2 : z1715 < (f_wd + f_an)) (h3 : 0 ≤ f_an ∧ f_an ≤ 1000) (h4 : 0 ≤ f_wd ∧ f_wd ≤ 1000) (h5 : 0 ≤ z1715 ∧ z1715 ≤ 1999) : 0 ≤ z1715 ∧ z1715 ≤ 999 := by omega
theorem vc_X8_takeIn_9 {f_an f_wd z1715 : Int} (h0 : z1715 < f_wd) (h1 : f_wd + f_an ≤ 1000) (h2 : z1715 < (f_wd + f_an)) (h3 : 0 ≤ f_an ∧ f_an ≤ 1000) (h4 : 0 ≤ f_wd ∧ f_wd ≤ 1000) (h5 : 0 ≤ z1715 ∧ z1715 ≤ 999) : 1 ≤ f_wd ∧ f_wd ≤ 1000 := by omega
set_option maxRecDepth 4000 in
set_option maxHeartbeats 4000000 in
theorem c_X8_takeIn {l : Launch} {D : va_G} {c : Nat → ClassId} {H0 : Heap} {sa : Nat × Nat × (Nat → Int32)} {w : mW} {μ : mM} (hw : mWF w) (hT : mT w μ) (hA1 : mAt w 76 76) {p2 : Int} (hp2 : 0 ≤ p2 ∧ p2 ≤ 19) {p3 : Int} (hp3 : 0 ≤ p3 ∧ p3 ≤ 1) {f_wd : Int} (q_f_wd : μ 76 13 = f_wd) {f_an : Int} (q_f_an : μ 76 14 = f_an) (hq0 : p2 < w.2.2.2 1) (hq1 : f_wd + f_an ≤ 1000) (hIPC : PC w μ) : sC (gG l D c H0 sa) mX8_takeIn 43 0 0 [.ref 32, .ref 76, iv p2, iv p3] (mk w μ) (qI w [21002, 21003, 21004, 21005, 21006, 21007, 32009, 32010, 33999, 34999, 66999, 200002, 200003, 200004, 200005, 200006, 200007, 200008, 200009, 200010, 200011, 201999, 202999, 213999] μ (fun z μ1 => ((-2147483648) ≤ z ∧ z ≤ 2147483647) ∧ True)) := by
  refine sC.of rfl (by decide) (le_t rfl) ?_
  have ht_f_wd : (0 ≤ f_wd ∧ f_wd ≤ 1000) := by rw [← q_f_wd]; exact hT 76 76 (A_76 hw) 13
  have ht_f_an : (0 ≤ f_an ∧ f_an ≤ 1000) := by rw [← q_f_an]; exact hT 76 76 (A_76 hw) 14
  refine mr_lvE (lv' := [(0, .ref 32), (1, .ref 76), (2, iv p2), (3, iv p3)]) rfl ?_
  refine sv_aload_n (pc := 0) dX8_takeIn_0 rfl rfl ?_
  refine gf_X8_0 (pc := 1) dX8_takeIn_1 wF_X8_9 (A_32 hw) hT ?_
  refine gf_X10_4 (pc := 4) dX8_takeIn_4 wF_X8_76 (A_6 hw) hT ?_
  refine mr_iload_n (pc := 7) (z := p2) dX8_takeIn_7 rfl rfl ?_
  refine la_11 (pc := 8) dX8_takeIn_8 (A_11 hw) hT (rIx (n := 20) hp2 rfl) (vc_X8_say_1 hq0 hp2) fun b969 q970 A971 => ?_
  refine mr_astore (pc := 9) (lv' := [(4, .ref b969), (0, .ref 32), (1, .ref 76), (2, iv p2), (3, iv p3)]) dX8_takeIn_9 (by decide) rfl ?_
  refine sv_aload_n (pc := 11) dX8_takeIn_11 rfl rfl ?_
  refine gk_X3_13 (pc := 12) dX8_takeIn_12 wF_X8_113 (A_76 hw) q_f_wd ?_
  refine sv_aload_n (pc := 15) dX8_takeIn_15 rfl rfl ?_
  refine gk_X3_14 (pc := 16) dX8_takeIn_16 wF_X8_118 (A_76 hw) q_f_an ?_
  refine mr_iadd (pc := 19) (x := f_wd) (y := f_an) dX8_takeIn_19 ?_
  refine mr_istore (pc := 20) (lv' := [(5, iv (f_wd + f_an)), (4, .ref b969), (0, .ref 32), (1, .ref 76), (2, iv p2), (3, iv p3)]) dX8_takeIn_20 (by decide) rfl ?_
  refine mr_iconst (pc := 22) (z := 0) dX8_takeIn_22 ?_
  refine mr_istore (pc := 23) (lv' := [(6, iv 0), (5, iv (f_wd + f_an)), (4, .ref b969), (0, .ref 32), (1, .ref 76), (2, iv p2), (3, iv p3)]) dX8_takeIn_23 (by decide) rfl ?_
  refine mr_iconst (pc := 25) (z := 0) dX8_takeIn_25 ?_
  refine mr_istore (pc := 26) (lv' := [(7, iv 0), (6, iv 0), (5, iv (f_wd + f_an)), (4, .ref b969), (0, .ref 32), (1, .ref 76), (2, iv p2), (3, iv p3)]) dX8_takeIn_26 (by decide) rfl ?_
  have L1718 : ∀ (nL1718 : Nat) (z1716 z1715 : Int) (μ1717 : mM), mT w μ1717 → mF [21002, 21003, 21004, 21005, 21006, 21007, 32009, 32010, 33999, 34999, 66999, 200002, 200003, 200004, 200005, 200006, 200007, 200008, 200009, 200010, 200011, 201999, 202999, 213999] w μ μ1717 → ((-2147483648) ≤ z1716 ∧ z1716 ≤ 2147483647) → (0 ≤ z1715 ∧ z1715 ≤ 2000) → PC w μ1717 → (2001 - z1715) < (nL1718 : Int) → sV (gG l D c H0 sa) mX8_takeIn (sRm 43 0 0) (sZ (gG l D c H0 sa) 0 0 (qI w [21002, 21003, 21004, 21005, 21006, 21007, 32009, 32010, 33999, 34999, 66999, 200002, 200003, 200004, 200005, 200006, 200007, 200008, 200009, 200010, 200011, 201999, 202999, 213999] μ (fun z μ1 => ((-2147483648) ≤ z ∧ z ≤ 2147483647) ∧ True))) 28 [(0, .ref 32), (1, .ref 76), (3, iv p3), (4, .ref b969), (5, iv (f_wd + f_an)), (6, iv z1716), (7, iv z1715)] [] (mk w μ1717) 0 0 := by
    intro nL1718
    induction nL1718 with
    | zero => intro z1716 z1715 μ1717 T1721 F1722 h1719 h1720 I1724 h1725; exact ((vc_X1_goThrough_12_8 h1725 h1720)).elim
    | succ nL1718 ih1726 =>
      intro z1716 z1715 μ1717 T1721 F1722 h1719 h1720 I1724 h1725
      refine mr_iload (pc := 28) (z := z1715) dX8_takeIn_28 rfl ?_
      refine mr_iload (pc := 30) (z := (f_wd + f_an)) dX8_takeIn_30 rfl ?_
      refine mr_icmp_ge (pc := 32) (tgt := 142) dX8_takeIn_32 (by decide) (r32 h1720 rfl) (r32 (rAdd (e := 0) (f := 2000) ht_f_wd ht_f_an rfl) rfl) (fun h1778 => ?_) (fun h1778 => ?_)
      · refine mr_iload (pc := 142) (z := z1716) dX8_takeIn_142 rfl ?_
        exact mr_iret dX8_takeIn_144 rfl (le_t rfl) (le_t rfl) T1721 (mF.call mF.refl F1722 rfl) ⟨h1719, trivial⟩
      have h1779 : 0 ≤ z1715 ∧ z1715 ≤ 1999 := (vc_X8_takeIn_3 h1778 hq1 ht_f_an ht_f_wd h1720)
      refine sv_aload_n (pc := 35) dX8_takeIn_35 rfl rfl ?_
      refine gf_X8_0 (pc := 36) dX8_takeIn_36 wF_X8_9 (A_32 hw) T1721 ?_
      refine sv_aload_n (pc := 39) dX8_takeIn_39 rfl rfl ?_
      refine gf_X3_10 (pc := 40) dX8_takeIn_40 wF_X8_121 (A_76 hw) T1721 ?_
      refine mr_iload (pc := 43) (z := z1715) dX8_takeIn_43 rfl ?_
      refine la_84 (pc := 45) dX8_takeIn_45 (A_84 hw) T1721 (vc_X8_takeIn_4 h1778 hq1 ht_f_an ht_f_wd h1779) fun z1780 q1781 h1782 => ?_
      refine sv_aload_n (pc := 46) dX8_takeIn_46 rfl rfl ?_
      refine gf_X3_11 (pc := 47) dX8_takeIn_47 wF_X8_124 (A_76 hw) T1721 ?_
      refine mr_iload (pc := 50) (z := z1715) dX8_takeIn_50 rfl ?_
      refine la_85 (pc := 52) dX8_takeIn_52 (A_85 hw) T1721 (vc_X8_takeIn_4 h1778 hq1 ht_f_an ht_f_wd h1779) fun z1783 q1784 h1785 => ?_
      refine mr_cVP (pc := 53) (c_X10_findPrefix hw T1721 h1782 h1785) (gOk _ _ _ _ _) dX8_takeIn_53 (tX10_findPrefix _ _ _ _ _) ⟨wV_X10_findPrefix, wL_X10_findPrefix⟩ wM_X8_127 (gCX10 _ _ _ _ _) rfl (A_6 hw) rfl ⟨le_t rfl, le_t rfl⟩ ⟨le_t rfl, le_t rfl⟩ rfl (le_t rfl) fun z1790 h1789 => ?_
      refine mr_istore (pc := 56) (lv' := [(8, iv z1790), (0, .ref 32), (1, .ref 76), (3, iv p3), (4, .ref b969), (5, iv (f_wd + f_an)), (6, iv z1716), (7, iv z1715)]) dX8_takeIn_56 (by decide) rfl ?_
      refine mr_iload (pc := 58) (z := z1790) dX8_takeIn_58 rfl ?_
      refine mr_if_ge (pc := 60) (tgt := 66) dX8_takeIn_60 (by decide) (r32 h1789.1 rfl) (fun h1830 => ?_) (fun h1830 => ?_)
      · have h1831 : 0 ≤ z1790 ∧ z1790 ≤ 9 := (vc_X12_isThere_6 h1830 h1789.1)
        refine sv_aload (pc := 66) dX8_takeIn_66 rfl ?_
        refine gf_X9_4 (pc := 68) dX8_takeIn_68 wF_X8_96 A971 T1721 fun A1832 => ?_
        refine mr_iload_n (pc := 71) (z := p3) dX8_takeIn_71 rfl rfl ?_
        refine mr_iload (pc := 72) (z := z1790) dX8_takeIn_72 rfl ?_
        refine mr_cSP (pc := 74) (c_X9_placeOf hw T1721 hp3 h1831) (gOk _ _ _ _ _) dX8_takeIn_74 (tX9_placeOf _ _ _ _ _) wS_X9_placeOf wM_X8_99 ⟨le_t rfl, le_t rfl⟩ ⟨le_t rfl, le_t rfl⟩ rfl (le_t rfl) fun z1837 h1836 => ?_
        refine la_222 (pc := 77) dX8_takeIn_77 A1832 T1721 (rIx (n := 20) h1836.1 rfl) fun b1838 q1839 A1840 => ?_
        refine mr_astore (pc := 78) (lv' := [(9, .ref b1838), (8, iv z1790), (0, .ref 32), (1, .ref 76), (3, iv p3), (4, .ref b969), (5, iv (f_wd + f_an)), (6, iv z1716), (7, iv z1715)]) dX8_takeIn_78 (by decide) rfl ?_
        refine sv_aload (pc := 80) dX8_takeIn_80 rfl ?_
        refine mr_iload (pc := 82) (z := z1715) dX8_takeIn_82 rfl ?_
        refine sv_aload_n (pc := 84) dX8_takeIn_84 rfl rfl ?_
        refine gk_X3_13 (pc := 85) dX8_takeIn_85 wF_X8_113 (A_76 hw) (F1722.f (A_76 hw) rfl q_f_wd) ?_
        have J1845 : ∀ (b1843 : Nat), (mAt w b1843 200) → sV (gG l D c H0 sa) mX8_takeIn (sRm 43 0 0) (sZ (gG l D c H0 sa) 0 0 (qI w [21002, 21003, 21004, 21005, 21006, 21007, 32009, 32010, 33999, 34999, 66999, 200002, 200003, 200004, 200005, 200006, 200007, 200008, 200009, 200010, 200011, 201999, 202999, 213999] μ (fun z μ1 => ((-2147483648) ≤ z ∧ z ≤ 2147483647) ∧ True))) 102 [(0, .ref 32), (1, .ref 76), (3, iv p3), (4, .ref b969), (5, iv (f_wd + f_an)), (6, iv z1716), (7, iv z1715), (8, iv z1790), (9, .ref b1838)] [.ref b1843, .ref b1838] (mk w μ1717) 0 0 := by
          intro b1843 A1844
          refine mr_cVV (pc := 102) (c_X7_become hw T1721 A1840 A1844) (gOk _ _ _ _ _) dX8_takeIn_102 (tX7_become _ _ _ _ _) ⟨wV_X7_become, wL_X7_become⟩ wM_X8_106 (gCX7 _ _ _ _ _) rfl A1840 rfl ⟨le_t rfl, le_t rfl⟩ ⟨le_t rfl, le_t rfl⟩ rfl (le_t rfl) fun μ1846 T1847 F1848 h1849 => ?_
          refine sv_aload (pc := 105) dX8_takeIn_105 rfl ?_
          refine mr_iload (pc := 107) (z := z1790) dX8_takeIn_107 rfl ?_
          refine pf_X7_3 (pc := 109) dX8_takeIn_109 wF_X8_133 A1840 T1847 h1831 fun μ1850 u1851 T1852 => ?_
          refine sv_aload (pc := 112) dX8_takeIn_112 rfl ?_
          refine sv_aload_n (pc := 114) dX8_takeIn_114 rfl rfl ?_
          refine gf_X8_11 (pc := 115) dX8_takeIn_115 wF_X8_62 (A_32 hw) T1852 fun z1853 q1854 h1855 => ?_
          refine pf_X7_9 (pc := 118) dX8_takeIn_118 wF_X8_110 A1840 T1852 h1855 fun μ1856 u1857 T1858 => ?_
          refine sv_aload_n (pc := 121) dX8_takeIn_121 rfl rfl ?_
          refine sv_aload (pc := 122) dX8_takeIn_122 rfl ?_
          refine mr_iload_n (pc := 124) (z := p3) dX8_takeIn_124 rfl rfl ?_
          refine mr_cVP (pc := 125) (c_X9_end hw T1858 A971 (rW (c := (-2147483648)) (d := 2147483647) hp3 rfl)) (gOk _ _ _ _ _) dX8_takeIn_125 (tX9_end _ _ _ _ _) ⟨wV_X9_end, wL_X9_end⟩ wM_X8_86 (gCX9 _ _ _ _ _) rfl A971 rfl ⟨le_t rfl, le_t rfl⟩ ⟨le_t rfl, le_t rfl⟩ rfl (le_t rfl) fun z1863 h1862 => ?_
          refine mr_iload (pc := 128) (z := z1790) dX8_takeIn_128 rfl ?_
          refine mr_cVV (pc := 130) (c_X8_look hw T1858 h1862.1 h1831 (vc_X9_end_1 h1862.2.1 h1862.1) (PC.keep I1724 hw ((mF.up (mF.up (mF.call mF.refl F1848 rfl) A1840 u1851 rfl) A1840 u1857 rfl) : mF [200002, 200003, 200004, 200005, 200006, 200007, 200008, 200009, 201999, 202999] w μ1717 μ1856) rfl)) (gOk _ _ _ _ _) dX8_takeIn_130 (tX8_look _ _ _ _ _) ⟨wV_X8_look, wL_X8_look⟩ wM_X8_92 (gCX8 _ _ _ _ _) rfl (A_32 hw) rfl ⟨le_t rfl, le_t rfl⟩ ⟨le_t rfl, le_t rfl⟩ rfl (le_t rfl) fun μ1864 T1865 F1866 h1867 => ?_
          refine mr_iincW (pc := 133) dX8_takeIn_133 rfl (by decide) fun z1868 h1869 => mr_lvE (lv' := [(6, iv z1868), (0, .ref 32), (1, .ref 76), (3, iv p3), (4, .ref b969), (5, iv (f_wd + f_an)), (7, iv z1715), (8, iv z1790), (9, .ref b1838)]) rfl ?_
          refine mr_iinc (pc := 136) (lv' := [(7, iv (z1715 + 1)), (6, iv z1868), (0, .ref 32), (1, .ref 76), (3, iv p3), (4, .ref b969), (5, iv (f_wd + f_an)), (8, iv z1790), (9, .ref b1838)]) dX8_takeIn_136 rfl (by decide) rfl ?_
          refine sv_goto (pc := 139) (tgt := 28) dX8_takeIn_139 (by decide) ?_
          refine mr_lvS (lv' := [(0, .ref 32), (1, .ref 76), (3, iv p3), (4, .ref b969), (5, iv (f_wd + f_an)), (6, iv z1868), (7, iv (z1715 + 1))]) (List.forall_mem_cons.mpr ⟨rfl, List.forall_mem_cons.mpr ⟨rfl, List.forall_mem_cons.mpr ⟨rfl, List.forall_mem_cons.mpr ⟨rfl, List.forall_mem_cons.mpr ⟨rfl, List.forall_mem_cons.mpr ⟨rfl, List.forall_mem_cons.mpr ⟨rfl, fun _ h => absurd h List.not_mem_nil⟩⟩⟩⟩⟩⟩⟩) ?_
          exact ih1726 z1868 (z1715 + 1) μ1864 T1865 (mF.call (mF.up (mF.up (mF.call (mF.call mF.refl F1722 rfl) F1848 rfl) A1840 u1851 rfl) A1840 u1857 rfl) F1866 rfl) h1869 (rW (c := 0) (d := 2000) (rAdd (e := 1) (f := 2000) h1779 (rR (x := 1)) rfl) rfl) (PC.keep I1724 hw ((mF.call (mF.up (mF.up (mF.call mF.refl F1848 rfl) A1840 u1851 rfl) A1840 u1857 rfl) F1866 rfl) : mF [21002, 21003, 21004, 21005, 21006, 21007, 32009, 32010, 33999, 34999, 66999, 200002, 200003, 200004, 200005, 200006, 200007, 200008, 200009, 200010, 200011, 201999, 202999, 213999] w μ1717 μ1864) rfl) (vc_X8_takeIn_7 (nS h1725) h1778 hq1 ht_f_an ht_f_wd h1779)
        refine mr_icmp_ge (pc := 88) (tgt := 98) dX8_takeIn_88 (by decide) (r32 h1779 rfl) (r32 ht_f_wd rfl) (fun h1870 => ?_) (fun h1870 => ?_)
        · refine sv_aload_n (pc := 98) dX8_takeIn_98 rfl rfl ?_
          refine gf_X3_9 (pc := 99) dX8_takeIn_99 wF_X8_130 (A_76 hw) T1721 ?_
          refine mr_lvS (lv' := [(0, .ref 32), (1, .ref 76), (3, iv p3), (4, .ref b969), (5, iv (f_wd + f_an)), (6, iv z1716), (7, iv z1715), (8, iv z1790), (9, .ref b1838)]) (List.forall_mem_cons.mpr ⟨rfl, List.forall_mem_cons.mpr ⟨rfl, List.forall_mem_cons.mpr ⟨rfl, List.forall_mem_cons.mpr ⟨rfl, List.forall_mem_cons.mpr ⟨rfl, List.forall_mem_cons.mpr ⟨rfl, List.forall_mem_cons.mpr ⟨rfl, List.forall_mem_cons.mpr ⟨rfl, List.forall_mem_cons.mpr ⟨rfl, fun _ h => absurd h List.not_mem_nil⟩⟩⟩⟩⟩⟩⟩⟩⟩) ?_
          exact J1845 81 (A_81 hw)
        have h1871 : 0 ≤ z1715 ∧ z1715 ≤ 999 := (vc_X8_takeIn_8 h1870 hq1 h1778 ht_f_an ht_f_wd h1779)
        have h1872 : 1 ≤ f_wd ∧ f_wd ≤ 1000 := (vc_X8_takeIn_9 h1870 hq1 h1778 ht_f_an ht_f_wd h1871)
        refine sv_aload_n (pc := 91) dX8_takeIn_91 rfl rfl ?_
        refine gf_X8_7 (pc := 92) dX8_takeIn_92 wF_X8_46 (A_32 hw) T1721 ?_
        refine sv_goto (pc := 95) (tgt := 102) dX8_takeIn_95 (by decide) ?_
        refine mr_lvS (lv' := [(0, .ref 32), (1, .ref 76), (3, iv p3), (4, .ref b969), (5, iv (f_wd + f_an)), (6, iv z1716), (7, iv z1715), (8, iv z1790), (9, .ref b1838)]) (List.forall_mem_cons.mpr ⟨rfl, List.forall_mem_cons.mpr ⟨rfl, List.forall_mem_cons.mpr ⟨rfl, List.forall_mem_cons.mpr ⟨rfl, List.forall_mem_cons.mpr ⟨rfl, List.forall_mem_cons.mpr ⟨rfl, List.forall_mem_cons.mpr ⟨rfl, List.forall_mem_cons.mpr ⟨rfl, List.forall_mem_cons.mpr ⟨rfl, fun _ h => absurd h List.not_mem_nil⟩⟩⟩⟩⟩⟩⟩⟩⟩) ?_
        exact J1845 70 (A_70 hw)
      have h1873 : (-1) ≤ z1790 ∧ z1790 ≤ (-1) := (vc_X12_isThere_3 h1830 h1789.1)
      refine sv_goto (pc := 63) (tgt := 136) dX8_takeIn_63 (by decide) ?_
      refine mr_iinc (pc := 136) (lv' := [(7, iv (z1715 + 1)), (8, iv z1790), (0, .ref 32), (1, .ref 76), (3, iv p3), (4, .ref b969), (5, iv (f_wd + f_an)), (6, iv z1716)]) dX8_takeIn_136 rfl (by decide) rfl ?_
      refine sv_goto (pc := 139) (tgt := 28) dX8_takeIn_139 (by decide) ?_
      refine mr_lvS (lv' := [(0, .ref 32), (1, .ref 76), (3, iv p3), (4, .ref b969), (5, iv (f_wd + f_an)), (6, iv z1716), (7, iv (z1715 + 1))]) (List.forall_mem_cons.mpr ⟨rfl, List.forall_mem_cons.mpr ⟨rfl, List.forall_mem_cons.mpr ⟨rfl, List.forall_mem_cons.mpr ⟨rfl, List.forall_mem_cons.mpr ⟨rfl, List.forall_mem_cons.mpr ⟨rfl, List.forall_mem_cons.mpr ⟨rfl, fun _ h => absurd h List.not_mem_nil⟩⟩⟩⟩⟩⟩⟩) ?_
      exact ih1726 z1716 (z1715 + 1) μ1717 T1721 (mF.call mF.refl F1722 rfl) h1719 (rW (c := 0) (d := 2000) (rAdd (e := 1) (f := 2000) h1779 (rR (x := 1)) rfl) rfl) I1724 (vc_X8_takeIn_7 (nS h1725) h1778 hq1 ht_f_an ht_f_wd h1779)
  refine mr_lvS (lv' := [(0, .ref 32), (1, .ref 76), (3, iv p3), (4, .ref b969), (5, iv (f_wd + f_an)), (6, iv 0), (7, iv 0)]) (List.forall_mem_cons.mpr ⟨rfl, List.forall_mem_cons.mpr ⟨rfl, List.forall_mem_cons.mpr ⟨rfl, List.forall_mem_cons.mpr ⟨rfl, List.forall_mem_cons.mpr ⟨rfl, List.forall_mem_cons.mpr ⟨rfl, List.forall_mem_cons.mpr ⟨rfl, fun _ h => absurd h List.not_mem_nil⟩⟩⟩⟩⟩⟩⟩) ?_
  exact L1718 2002 0 0 μ hT mF.refl (rW (c := (-2147483648)) (d := 2147483647) (rR (x := 0)) rfl) (rW (c := 0) (d := 2000) (rR (x := 0)) rfl) hIPC vc_X1_goThrough_12_41
theorem vc_X8_reason_8 {z47 z57 : Int} (h0 : z47 = z57) (h1 : 0 ≤ z47) (h2 : 0 ≤ z47 ∧ z47 ≤ 9) (h3 : (-1) ≤ z57 ∧ z57 ≤ 9) : 0 ≤ z57 ∧ z57 ≤ 9 := by omega
theorem vc_X8_reason_9 {z47 z57 : Int} (h0 : 0 ≤ z57) (h1 : ¬ z47 = z57) (h2 : 0 ≤ z47 ∧ z47 ≤ 9) (h3 : (-1) ≤ z57 ∧ z57 ≤ 9) : 0 ≤ z57 ∧ z57 ≤ 9 := by omega
theorem vc_X8_reason_10 {z47 z57 : Int} (h0 : z57 < 0) (h1 : ¬ z47 = z57) (h2 : 0 ≤ z47 ∧ z47 ≤ 9) (h3 : (-1) ≤ z57 ∧ z57 ≤ 9) : (-1) ≤ z57 ∧ z57 ≤ (-1) := by omega
set_option maxRecDepth 4000 in
set_option maxHeartbeats 4000000 in
theorem c_X8_reason {l : Launch} {D : va_G} {c : Nat → ClassId} {H0 : Heap} {sa : Nat × Nat × (Nat → Int32)} {w : mW} {μ : mM} (hw : mWF w) (hT : mT w μ) {p1 : Int} (hp1 : 0 ≤ p1 ∧ p1 ≤ 19) {p2 : Int} (hp2 : 0 ≤ p2 ∧ p2 ≤ 1) {p3 : Int} (hp3 : 0 ≤ p3 ∧ p3 ≤ 9) (hq0 : p1 < w.2.2.2 1) (hIPC : PC w μ) : sC (gG l D c H0 sa) mX8_reason 42 0 0 [.ref 32, iv p1, iv p2, iv p3] (mk w μ) (qI w [21002, 21003, 21004, 21005, 21006, 21007, 32009, 200002, 200003, 200004, 200005, 200006, 200007, 200008, 200009, 200010, 200011, 201999, 202999] μ (fun z μ1 => ((-2147483648) ≤ z ∧ z ≤ 2147483647) ∧ True)) := by
  refine sC.of rfl (by decide) (le_t rfl) ?_
  refine mr_lvE (lv' := [(0, .ref 32), (1, iv p1), (2, iv p2), (3, iv p3)]) rfl ?_
  refine sv_aload_n (pc := 0) dX8_reason_0 rfl rfl ?_
  refine gf_X8_0 (pc := 1) dX8_reason_1 wF_X8_9 (A_32 hw) hT ?_
  refine gf_X10_4 (pc := 4) dX8_reason_4 wF_X8_76 (A_6 hw) hT ?_
  refine mr_iload_n (pc := 7) (z := p1) dX8_reason_7 rfl rfl ?_
  refine la_11 (pc := 8) dX8_reason_8 (A_11 hw) hT (rIx (n := 20) hp1 rfl) (vc_X8_say_1 hq0 hp1) fun b1 q2 A3 => ?_
  refine mr_astore (pc := 9) (lv' := [(4, .ref b1), (0, .ref 32), (1, iv p1), (2, iv p2), (3, iv p3)]) dX8_reason_9 (by decide) rfl ?_
  refine sv_aload (pc := 11) dX8_reason_11 rfl ?_
  refine gf_X9_4 (pc := 13) dX8_reason_13 wF_X8_96 A3 hT fun A4 => ?_
  refine mr_iload_n (pc := 16) (z := p2) dX8_reason_16 rfl rfl ?_
  refine mr_iload_n (pc := 17) (z := p3) dX8_reason_17 rfl rfl ?_
  refine mr_cSP (pc := 18) (c_X9_placeOf hw hT hp2 hp3) (gOk _ _ _ _ _) dX8_reason_18 (tX9_placeOf _ _ _ _ _) wS_X9_placeOf wM_X8_99 ⟨le_t rfl, le_t rfl⟩ ⟨le_t rfl, le_t rfl⟩ rfl (le_t rfl) fun z9 h8 => ?_
  refine la_222 (pc := 21) dX8_reason_21 A4 hT (rIx (n := 20) h8.1 rfl) fun b10 q11 A12 => ?_
  refine mr_astore (pc := 22) (lv' := [(5, .ref b10), (4, .ref b1), (0, .ref 32), (1, iv p1), (2, iv p2), (3, iv p3)]) dX8_reason_22 (by decide) rfl ?_
  refine sv_aload (pc := 24) dX8_reason_24 rfl ?_
  refine mr_iload_n (pc := 26) (z := p2) dX8_reason_26 rfl rfl ?_
  refine mr_cVP (pc := 27) (c_X9_end hw hT A3 (rW (c := (-2147483648)) (d := 2147483647) hp2 rfl)) (gOk _ _ _ _ _) dX8_reason_27 (tX9_end _ _ _ _ _) ⟨wV_X9_end, wL_X9_end⟩ wM_X8_86 (gCX9 _ _ _ _ _) rfl A3 rfl ⟨le_t rfl, le_t rfl⟩ ⟨le_t rfl, le_t rfl⟩ rfl (le_t rfl) fun z17 h16 => ?_
  refine mr_istore (pc := 30) (lv' := [(6, iv z17), (5, .ref b10), (4, .ref b1), (0, .ref 32), (1, iv p1), (2, iv p2), (3, iv p3)]) dX8_reason_30 (by decide) rfl ?_
  refine sv_aload_n (pc := 32) dX8_reason_32 rfl rfl ?_
  refine gf_X8_0 (pc := 33) dX8_reason_33 wF_X8_9 (A_32 hw) hT ?_
  refine gf_X10_3 (pc := 36) dX8_reason_36 wF_X8_162 (A_6 hw) hT ?_
  refine mr_iload (pc := 39) (z := z17) dX8_reason_39 rfl ?_
  refine la_10 (pc := 41) dX8_reason_41 (A_10 hw) hT (rIx (n := 10) h16.1 rfl) (vc_X9_end_1 h16.2.1 h16.1) fun b18 q19 A20 => ?_
  refine mr_astore (pc := 42) (lv' := [(7, .ref b18), (6, iv z17), (5, .ref b10), (4, .ref b1), (0, .ref 32), (1, iv p1), (2, iv p2), (3, iv p3)]) dX8_reason_42 (by decide) rfl ?_
  refine sv_aload (pc := 44) dX8_reason_44 rfl ?_
  refine gf_X7_2 (pc := 46) dX8_reason_46 wF_X8_203 A12 hT fun z21 q22 h23 => ?_
  refine mr_if_ne (pc := 49) (tgt := 55) dX8_reason_49 (by decide) (r32 h23 rfl) (fun h24 => ?_) (fun h24 => ?_)
  · have h25 : 1 ≤ z21 ∧ z21 ≤ 1 := (vc_X12_ring_24 h24 h23)
    refine sv_aload (pc := 55) dX8_reason_55 rfl ?_
    refine gf_X0_1 (pc := 57) dX8_reason_57 wF_X8_167 A20 hT fun A26 => ?_
    refine mr_iload_n (pc := 60) (z := p3) dX8_reason_60 rfl rfl ?_
    refine la_212 (pc := 61) dX8_reason_61 A26 hT (rIx (n := 10) hp3 rfl) fun z27 q28 h29 => ?_
    refine mr_iconst (pc := 62) (z := (-1)) dX8_reason_62 ?_
    refine mr_icmp_eq (pc := 63) (tgt := 69) dX8_reason_63 (by decide) (r32 h29 rfl) (r32 (rR (x := (-1))) rfl) (fun h30 => ?_) (fun h30 => ?_)
    · have h31 : (-1) ≤ z27 ∧ z27 ≤ (-1) := (vc_X8_look_22 h30 h29)
      refine sv_aload (pc := 69) dX8_reason_69 rfl ?_
      refine mr_iload (pc := 71) (z := z17) dX8_reason_71 rfl ?_
      refine mr_cVP (pc := 73) (c_X7_passes hw hT A12 (rW (c := (-2147483648)) (d := 2147483647) h16.1 rfl)) (gOk _ _ _ _ _) dX8_reason_73 (tX7_passes _ _ _ _ _) ⟨wV_X7_passes, wL_X7_passes⟩ wM_X8_206 (gCX7 _ _ _ _ _) rfl A12 rfl ⟨le_t rfl, le_t rfl⟩ ⟨le_t rfl, le_t rfl⟩ rfl (le_t rfl) fun z36 h35 => ?_
      refine mr_if_eq (pc := 76) (tgt := 82) dX8_reason_76 (by decide) (r32 h35.1 rfl) (fun h37 => ?_) (fun h37 => ?_)
      · have h38 : 0 ≤ z36 ∧ z36 ≤ 0 := (vc_X12_ring_22 h37 h35.1)
        refine sv_aload_n (pc := 82) dX8_reason_82 rfl rfl ?_
        refine mr_iload (pc := 83) (z := z17) dX8_reason_83 rfl ?_
        refine mr_iload_n (pc := 85) (z := p3) dX8_reason_85 rfl rfl ?_
        refine mr_cVV (pc := 86) (c_X8_gather hw hT h16.1 hp3 hIPC) (gOk _ _ _ _ _) dX8_reason_86 (tX8_gather _ _ _ _ _) ⟨wV_X8_gather, wL_X8_gather⟩ wM_X8_175 (gCX8 _ _ _ _ _) rfl (A_32 hw) rfl ⟨le_t rfl, le_t rfl⟩ ⟨le_t rfl, le_t rfl⟩ rfl (le_t rfl) fun μ39 T40 F41 h42 => ?_
        refine sv_aload_n (pc := 89) dX8_reason_89 rfl rfl ?_
        refine mr_iload_n (pc := 90) (z := p1) dX8_reason_90 rfl rfl ?_
        refine mr_cVP (pc := 91) (c_X8_candidateOver hw T40 (rW (c := (-2147483648)) (d := 2147483647) hp1 rfl)) (gOk _ _ _ _ _) dX8_reason_91 (tX8_candidateOver _ _ _ _ _) ⟨wV_X8_candidateOver, wL_X8_candidateOver⟩ wM_X8_276 (gCX8 _ _ _ _ _) rfl (A_32 hw) rfl ⟨le_t rfl, le_t rfl⟩ ⟨le_t rfl, le_t rfl⟩ rfl (le_t rfl) fun z47 h46 => ?_
        refine mr_istore (pc := 94) (lv' := [(8, iv z47), (7, .ref b18), (6, iv z17), (5, .ref b10), (4, .ref b1), (0, .ref 32), (1, iv p1), (2, iv p2), (3, iv p3)]) dX8_reason_94 (by decide) rfl ?_
        refine sv_aload_n (pc := 96) dX8_reason_96 rfl rfl ?_
        refine sv_aload (pc := 97) dX8_reason_97 rfl ?_
        refine gf_X0_2 (pc := 99) dX8_reason_99 wF_X8_190 A20 T40 fun A48 => ?_
        refine mr_iload_n (pc := 102) (z := p3) dX8_reason_102 rfl rfl ?_
        refine la_213 (pc := 103) dX8_reason_103 A48 T40 (rIx (n := 10) hp3 rfl) fun z49 q50 h51 => ?_
        have h52 : (-99999999) ≤ z49 ∧ z49 ≤ 19 := (vc_X12_sends_3 h51.1)
        refine mr_cVP (pc := 104) (c_X8_candidateOver hw T40 (rW (c := (-2147483648)) (d := 2147483647) h52 rfl)) (gOk _ _ _ _ _) dX8_reason_104 (tX8_candidateOver _ _ _ _ _) ⟨wV_X8_candidateOver, wL_X8_candidateOver⟩ wM_X8_276 (gCX8 _ _ _ _ _) rfl (A_32 hw) rfl ⟨le_t rfl, le_t rfl⟩ ⟨le_t rfl, le_t rfl⟩ rfl (le_t rfl) fun z57 h56 => ?_
        refine mr_istore (pc := 107) (lv' := [(9, iv z57), (8, iv z47), (7, .ref b18), (6, iv z17), (5, .ref b10), (4, .ref b1), (0, .ref 32), (1, iv p1), (2, iv p2), (3, iv p3)]) dX8_reason_107 (by decide) rfl ?_
        refine mr_iload (pc := 109) (z := z47) dX8_reason_109 rfl ?_
        refine mr_if_ge (pc := 111) (tgt := 117) dX8_reason_111 (by decide) (r32 h46.1 rfl) (fun h58 => ?_) (fun h58 => ?_)
        · have h59 : 0 ≤ z47 ∧ z47 ≤ 9 := (vc_X12_isThere_6 h58 h46.1)
          refine mr_iload (pc := 117) (z := z47) dX8_reason_117 rfl ?_
          refine mr_iload (pc := 119) (z := z57) dX8_reason_119 rfl ?_
          refine mr_icmp_eq (pc := 121) (tgt := 129) dX8_reason_121 (by decide) (r32 h59 rfl) (r32 h56.1 rfl) (fun h60 => ?_) (fun h60 => ?_)
          · have h61 : 0 ≤ z57 ∧ z57 ≤ 9 := (vc_X8_reason_8 h60 h58 h59 h56.1)
            refine mr_iconst (pc := 129) (z := 0) dX8_reason_129 ?_
            exact mr_iret dX8_reason_130 rfl (le_t rfl) (le_t rfl) T40 (mF.call mF.refl F41 rfl) ⟨(rW (c := (-2147483648)) (d := 2147483647) (rR (x := 0)) rfl), trivial⟩
          refine mr_iload (pc := 124) (z := z57) dX8_reason_124 rfl ?_
          refine mr_if_ge (pc := 126) (tgt := 131) dX8_reason_126 (by decide) (r32 h56.1 rfl) (fun h62 => ?_) (fun h62 => ?_)
          · have h63 : 0 ≤ z57 ∧ z57 ≤ 9 := (vc_X8_reason_9 h62 h60 h59 h56.1)
            refine sv_aload (pc := 131) dX8_reason_131 rfl ?_
            refine sv_aload_n (pc := 133) dX8_reason_133 rfl rfl ?_
            refine gf_X8_4 (pc := 134) dX8_reason_134 wF_X8_34 (A_32 hw) T40 ?_
            refine mr_iload (pc := 137) (z := z47) dX8_reason_137 rfl ?_
            refine la_35 (pc := 139) dX8_reason_139 (A_35 hw) T40 (rIx (n := 10) h59 rfl) fun b64 q65 A66 => ?_
            refine sv_aload_n (pc := 140) dX8_reason_140 rfl rfl ?_
            refine gf_X8_4 (pc := 141) dX8_reason_141 wF_X8_34 (A_32 hw) T40 ?_
            refine mr_iload (pc := 144) (z := z57) dX8_reason_144 rfl ?_
            refine la_35 (pc := 146) dX8_reason_146 (A_35 hw) T40 (rIx (n := 10) h63 rfl) fun b67 q68 A69 => ?_
            refine mr_cVP (pc := 147) (c_X0_firstUnlikeStep hw T40 A20 A66 A69) (gOk _ _ _ _ _) dX8_reason_147 (tX0_firstUnlikeStep _ _ _ _ _) ⟨wV_X0_firstUnlikeStep, wL_X0_firstUnlikeStep⟩ wM_X8_279 (gCX0 _ _ _ _ _) rfl A20 rfl ⟨le_t rfl, le_t rfl⟩ ⟨le_t rfl, le_t rfl⟩ rfl (le_t rfl) fun z74 h73 => ?_
            exact mr_iret dX8_reason_150 rfl (le_t rfl) (le_t rfl) T40 (mF.call mF.refl F41 rfl) ⟨h73.1, trivial⟩
          have h75 : (-1) ≤ z57 ∧ z57 ≤ (-1) := (vc_X8_reason_10 h62 h60 h59 h56.1)
          refine mr_iconst (pc := 129) (z := 0) dX8_reason_129 ?_
          exact mr_iret dX8_reason_130 rfl (le_t rfl) (le_t rfl) T40 (mF.call mF.refl F41 rfl) ⟨(rW (c := (-2147483648)) (d := 2147483647) (rR (x := 0)) rfl), trivial⟩
        have h76 : (-1) ≤ z47 ∧ z47 ≤ (-1) := (vc_X12_isThere_3 h58 h46.1)
        refine mr_bipush (pc := 114) (z := 10) dX8_reason_114 (by decide) ?_
        exact mr_iret dX8_reason_116 rfl (le_t rfl) (le_t rfl) T40 (mF.call mF.refl F41 rfl) ⟨(rW (c := (-2147483648)) (d := 2147483647) (rR (x := 10)) rfl), trivial⟩
      have h77 : 1 ≤ z36 ∧ z36 ≤ 1 := (vc_X12_ring_24 h37 h35.1)
      refine mr_bipush (pc := 79) (z := 9) dX8_reason_79 (by decide) ?_
      exact mr_iret dX8_reason_81 rfl (le_t rfl) (le_t rfl) hT mF.refl ⟨(rW (c := (-2147483648)) (d := 2147483647) (rR (x := 9)) rfl), trivial⟩
    have h78 : 0 ≤ z27 ∧ z27 ≤ 2 := (vc_X8_look_36 h30 h29)
    refine mr_bipush (pc := 66) (z := 8) dX8_reason_66 (by decide) ?_
    exact mr_iret dX8_reason_68 rfl (le_t rfl) (le_t rfl) hT mF.refl ⟨(rW (c := (-2147483648)) (d := 2147483647) (rR (x := 8)) rfl), trivial⟩
  have h79 : 0 ≤ z21 ∧ z21 ≤ 0 := (vc_X12_ring_22 h24 h23)
  refine mr_ldc (pc := 52) (z := (-99999999)) dX8_reason_52 wG_X8_166 (by decide) ?_
  exact mr_iret dX8_reason_54 rfl (le_t rfl) (le_t rfl) hT mF.refl ⟨(rW (c := (-2147483648)) (d := 2147483647) (rR (x := (-99999999))) rfl), trivial⟩
end
section
theorem vc_X8_threeInRing_7 {n1 z1211 z1219 z1798 : Int} (h0 : z1219 ≤ z1798) (h1 : (z1219 = 0 ∨ 0 < n1)) (h2 : z1211 < z1219) (h3 : 0 ≤ z1211 ∧ z1211 ≤ 9) (h4 : 1 ≤ z1219 ∧ z1219 ≤ 10) (h5 : 0 ≤ z1798 ∧ z1798 ≤ 10) : 1 ≤ z1798 ∧ z1798 ≤ 10 := by omega
theorem vc_X8_threeInRing_8 {N n1 z1211 z1219 z1798 : Int} (h0 : (11 - z1211) < N + 1) (h1 : z1211 < z1219) (h2 : (z1219 = 0 ∨ 0 < n1)) (h3 : z1219 ≤ z1798) (h4 : 0 ≤ z1211 ∧ z1211 ≤ 9) (h5 : 1 ≤ z1219 ∧ z1219 ≤ 10) (h6 : 1 ≤ z1798 ∧ z1798 ≤ 10) : (11 - (z1211 + 1)) < N := by omega
theorem vc_X8_threeInRing_9 {n1 z1211 z1219 z1798 : Int} (h0 : z1798 < z1219) (h1 : (z1219 = 0 ∨ 0 < n1)) (h2 : z1211 < z1219) (h3 : 0 ≤ z1211 ∧ z1211 ≤ 9) (h4 : 1 ≤ z1219 ∧ z1219 ≤ 10) (h5 : 0 ≤ z1798 ∧ z1798 ≤ 10) : 0 ≤ z1798 ∧ z1798 ≤ 9 := by omega
theorem vc_X8_threeInRing_12 {n1 z1211 z1219 z1798 z2051 : Int} (h0 : z1219 ≤ z2051) (h1 : (z1219 = 0 ∨ 0 < n1)) (h2 : z1211 < z1219) (h3 : z1798 < z1219) (h4 : 0 ≤ z1211 ∧ z1211 ≤ 9) (h5 : 1 ≤ z1219 ∧ z1219 ≤ 10) (h6 : 0 ≤ z1798 ∧ z1798 ≤ 9) (h7 : 0 ≤ z2051 ∧ z2051 ≤ 10) : 1 ≤ z2051 ∧ z2051 ≤ 10 := by omega
theorem vc_X8_threeInRing_13 {N n1 z1211 z1219 z1798 z2051 : Int} (h0 : (11 - z1798) < N + 1) (h1 : z1798 < z1219) (h2 : (z1219 = 0 ∨ 0 < n1)) (h3 : z1211 < z1219) (h4 : z1219 ≤ z2051) (h5 : 0 ≤ z1211 ∧ z1211 ≤ 9) (h6 : 1 ≤ z1219 ∧ z1219 ≤ 10) (h7 : 0 ≤ z1798 ∧ z1798 ≤ 9) (h8 : 1 ≤ z2051 ∧ z2051 ≤ 10) : (11 - (z1798 + 1)) < N := by omega
theorem vc_X8_threeInRing_14 {n1 z1211 z1219 z1798 z2051 : Int} (h0 : z2051 < z1219) (h1 : (z1219 = 0 ∨ 0 < n1)) (h2 : z1211 < z1219) (h3 : z1798 < z1219) (h4 : 0 ≤ z1211 ∧ z1211 ≤ 9) (h5 : 1 ≤ z1219 ∧ z1219 ≤ 10) (h6 : 0 ≤ z1798 ∧ z1798 ≤ 9) (h7 : 0 ≤ z2051 ∧ z2051 ≤ 10) : 0 ≤ z2051 ∧ z2051 ≤ 9 := by omega
theorem vc_X8_threeInRing_16 {N n1 z1211 z1219 z1798 z2051 : Int} (h0 : (11 - z2051) < N + 1) (h1 : z2051 < z1219) (h2 : (z1219 = 0 ∨ 0 < n1)) (h3 : z1211 < z1219) (h4 : z1798 < z1219) (h5 : 0 ≤ z1211 ∧ z1211 ≤ 9) (h6 : 1 ≤ z1219 ∧ z1219 ≤ 10) (h7 : 0 ≤ z1798 ∧ z1798 ≤ 9) (h8 : 0 ≤ z2051 ∧ z2051 ≤ 9) : (11 - (z2051 + 1)) < N := by omega
theorem vc_X8_threeInRing_21 {p3 : Int} (h0 : ¬ p3 = 1) (h1 : ¬ p3 = 0) (h2 : 1 ≤ p3 ∧ p3 ≤ 2) : 2 ≤ p3 ∧ p3 ≤ 2 := by omega
theorem vc_X8_threeInRing_22 {p3 : Int} (h0 : p3 = 1) (h1 : ¬ p3 = 0) (h2 : 1 ≤ p3 ∧ p3 ≤ 2) : 1 ≤ p3 ∧ p3 ≤ 1 := by omega
theorem vc_X8_threeInRing_26 {N n1 z1211 z1219 z1798 : Int} (h0 : (11 - z1798) < N + 1) (h1 : z1798 < z1219) (h2 : (z1219 = 0 ∨ 0 < n1)) (h3 : z1211 < z1219) (h4 : 0 ≤ z1211 ∧ z1211 ≤ 9) (h5 : 1 ≤ z1219 ∧ z1219 ≤ 10) (h6 : 0 ≤ z1798 ∧ z1798 ≤ 9) : (11 - (z1798 + 1)) < N := by omega
set_option maxRecDepth 4000 in
set_option maxHeartbeats 4000000 in
theorem c_X8_threeInRing {l : Launch} {D : va_G} {c : Nat → ClassId} {H0 : Heap} {sa : Nat × Nat × (Nat → Int32)} {w : mW} {μ : mM} (hw : mWF w) (hT : mT w μ) {p1 : Int} (hp1 : 0 ≤ p1 ∧ p1 ≤ 9) {p2 : Int} (hp2 : 0 ≤ p2 ∧ p2 ≤ 9) {p3 : Int} (hp3 : 0 ≤ p3 ∧ p3 ≤ 2) (hq0 : p1 < w.2.2.2 0) (hIPC : PC w μ) : sC (gG l D c H0 sa) mX8_threeInRing 42 0 0 [.ref 32, iv p1, iv p2, iv p3] (mk w μ) (qI w [21002, 21003, 21004, 21005, 21006, 21007, 32009, 200002, 200003, 200004, 200005, 200006, 200007, 200008, 200009, 200010, 200011, 201999, 202999] μ (fun z μ1 => ((-2147483648) ≤ z ∧ z ≤ 2147483647) ∧ True)) := by
  refine sC.of rfl (by decide) (le_t rfl) ?_
  refine mr_lvE (lv' := [(0, .ref 32), (1, iv p1), (2, iv p2), (3, iv p3)]) rfl ?_
  refine sv_aload_n (pc := 0) dX8_threeInRing_0 rfl rfl ?_
  refine gf_X8_0 (pc := 1) dX8_threeInRing_1 wF_X8_9 (A_32 hw) hT ?_
  refine gf_X10_3 (pc := 4) dX8_threeInRing_4 wF_X8_162 (A_6 hw) hT ?_
  refine mr_iload_n (pc := 7) (z := p1) dX8_threeInRing_7 rfl rfl ?_
  refine la_10 (pc := 8) dX8_threeInRing_8 (A_10 hw) hT (rIx (n := 10) hp1 rfl) (vc_X9_end_1 hq0 hp1) fun b1 q2 A3 => ?_
  refine mr_astore (pc := 9) (lv' := [(4, .ref b1), (0, .ref 32), (1, iv p1), (2, iv p2), (3, iv p3)]) dX8_threeInRing_9 (by decide) rfl ?_
  refine sv_aload (pc := 11) dX8_threeInRing_11 rfl ?_
  refine gf_X0_1 (pc := 13) dX8_threeInRing_13 wF_X8_167 A3 hT fun A4 => ?_
  refine mr_iload_n (pc := 16) (z := p2) dX8_threeInRing_16 rfl rfl ?_
  refine la_212 (pc := 17) dX8_threeInRing_17 A4 hT (rIx (n := 10) hp2 rfl) fun z5 q6 h7 => ?_
  refine mr_iconst (pc := 18) (z := (-1)) dX8_threeInRing_18 ?_
  refine mr_icmp_eq (pc := 19) (tgt := 25) dX8_threeInRing_19 (by decide) (r32 h7 rfl) (r32 (rR (x := (-1))) rfl) (fun h8 => ?_) (fun h8 => ?_)
  · have h9 : (-1) ≤ z5 ∧ z5 ≤ (-1) := (vc_X8_look_22 h8 h7)
    refine sv_aload_n (pc := 25) dX8_threeInRing_25 rfl rfl ?_
    refine mr_iload_n (pc := 26) (z := p1) dX8_threeInRing_26 rfl rfl ?_
    refine mr_iload_n (pc := 27) (z := p2) dX8_threeInRing_27 rfl rfl ?_
    refine mr_cVV (pc := 28) (c_X8_gather hw hT hp1 hp2 hIPC) (gOk _ _ _ _ _) dX8_threeInRing_28 (tX8_gather _ _ _ _ _) ⟨wV_X8_gather, wL_X8_gather⟩ wM_X8_175 (gCX8 _ _ _ _ _) rfl (A_32 hw) rfl ⟨le_t rfl, le_t rfl⟩ ⟨le_t rfl, le_t rfl⟩ rfl (le_t rfl) fun μ10 T11 F12 h13 => ?_
    refine mr_iconst (pc := 31) (z := 0) dX8_threeInRing_31 ?_
    refine mr_istore (pc := 32) (lv' := [(5, iv 0), (4, .ref b1), (0, .ref 32), (1, iv p1), (2, iv p2), (3, iv p3)]) dX8_threeInRing_32 (by decide) rfl ?_
    have L1212 : ∀ (nL1212 : Nat) (z1211 : Int), True → (0 ≤ z1211 ∧ z1211 ≤ 10) → (11 - z1211) < (nL1212 : Int) → sV (gG l D c H0 sa) mX8_threeInRing (sRm 42 0 0) (sZ (gG l D c H0 sa) 0 0 (qI w [21002, 21003, 21004, 21005, 21006, 21007, 32009, 200002, 200003, 200004, 200005, 200006, 200007, 200008, 200009, 200010, 200011, 201999, 202999] μ (fun z μ1 => ((-2147483648) ≤ z ∧ z ≤ 2147483647) ∧ True))) 34 [(0, .ref 32), (3, iv p3), (4, .ref b1), (5, iv z1211)] [] (mk w μ10) 0 0 := by
      intro nL1212
      induction nL1212 with
      | zero => intro z1211 _ h1213 h1217; exact ((vc_X12_ring_2 h1217 h1213)).elim
      | succ nL1212 ih1218 =>
        intro z1211 _ h1213 h1217
        refine mr_iload (pc := 34) (z := z1211) dX8_threeInRing_34 rfl ?_
        refine sv_aload_n (pc := 36) dX8_threeInRing_36 rfl rfl ?_
        refine gf_X8_9 (pc := 37) dX8_threeInRing_37 wF_X8_200 (A_32 hw) T11 fun z1219 q1220 h1221 => ?_
        have h1222 : 0 ≤ z1219 ∧ z1219 ≤ 10 := ⟨h1221.1, h1221.2.1⟩
        refine mr_icmp_ge (pc := 40) (tgt := 188) dX8_threeInRing_40 (by decide) (r32 h1213 rfl) (r32 h1222 rfl) (fun h1223 => ?_) (fun h1223 => ?_)
        · refine mr_ldc (pc := 188) (z := (-99999999)) dX8_threeInRing_188 wG_X8_166 (by decide) ?_
          exact mr_iret dX8_threeInRing_190 rfl (le_t rfl) (le_t rfl) T11 (mF.call mF.refl F12 rfl) ⟨(rW (c := (-2147483648)) (d := 2147483647) (rR (x := (-99999999))) rfl), trivial⟩
        have h1224 : 0 ≤ z1211 ∧ z1211 ≤ 9 := (vc_X8_candidateOver_2 h1223 h1221.2.2 h1213 h1222)
        have h1225 : 1 ≤ z1219 ∧ z1219 ≤ 10 := (vc_X8_candidateOver_3 h1223 h1221.2.2 h1224 h1222)
        refine mr_iconst (pc := 43) (z := 0) dX8_threeInRing_43 ?_
        refine mr_istore (pc := 44) (lv' := [(6, iv 0), (0, .ref 32), (3, iv p3), (4, .ref b1), (5, iv z1211)]) dX8_threeInRing_44 (by decide) rfl ?_
        have L1799 : ∀ (nL1799 : Nat) (z1798 : Int), True → (0 ≤ z1798 ∧ z1798 ≤ 10) → (11 - z1798) < (nL1799 : Int) → sV (gG l D c H0 sa) mX8_threeInRing (sRm 42 0 0) (sZ (gG l D c H0 sa) 0 0 (qI w [21002, 21003, 21004, 21005, 21006, 21007, 32009, 200002, 200003, 200004, 200005, 200006, 200007, 200008, 200009, 200010, 200011, 201999, 202999] μ (fun z μ1 => ((-2147483648) ≤ z ∧ z ≤ 2147483647) ∧ True))) 46 [(0, .ref 32), (3, iv p3), (4, .ref b1), (5, iv z1211), (6, iv z1798)] [] (mk w μ10) 0 0 := by
          intro nL1799
          induction nL1799 with
          | zero => intro z1798 _ h1800 h1804; exact ((vc_X12_ring_2 h1804 h1800)).elim
          | succ nL1799 ih1805 =>
            intro z1798 _ h1800 h1804
            refine mr_iload (pc := 46) (z := z1798) dX8_threeInRing_46 rfl ?_
            refine sv_aload_n (pc := 48) dX8_threeInRing_48 rfl rfl ?_
            refine gk_X8_9 (pc := 49) dX8_threeInRing_49 wF_X8_200 (A_32 hw) q1220 ?_
            refine mr_icmp_ge (pc := 52) (tgt := 182) dX8_threeInRing_52 (by decide) (r32 h1800 rfl) (r32 h1225 rfl) (fun h1806 => ?_) (fun h1806 => ?_)
            · have h1807 : 1 ≤ z1798 ∧ z1798 ≤ 10 := (vc_X8_threeInRing_7 h1806 h1221.2.2 h1223 h1224 h1225 h1800)
              refine mr_iinc (pc := 182) (lv' := [(5, iv (z1211 + 1)), (0, .ref 32), (3, iv p3), (4, .ref b1), (6, iv z1798)]) dX8_threeInRing_182 rfl (by decide) rfl ?_
              refine sv_goto (pc := 185) (tgt := 34) dX8_threeInRing_185 (by decide) ?_
              refine mr_lvS (lv' := [(0, .ref 32), (3, iv p3), (4, .ref b1), (5, iv (z1211 + 1))]) (List.forall_mem_cons.mpr ⟨rfl, List.forall_mem_cons.mpr ⟨rfl, List.forall_mem_cons.mpr ⟨rfl, List.forall_mem_cons.mpr ⟨rfl, fun _ h => absurd h List.not_mem_nil⟩⟩⟩⟩) ?_
              exact ih1218 (z1211 + 1) trivial (rW (c := 0) (d := 10) (rAdd (e := 1) (f := 10) h1224 (rR (x := 1)) rfl) rfl) (vc_X8_threeInRing_8 (nS h1217) h1223 h1221.2.2 h1806 h1224 h1225 h1807)
            have h1808 : 0 ≤ z1798 ∧ z1798 ≤ 9 := (vc_X8_threeInRing_9 h1806 h1221.2.2 h1223 h1224 h1225 h1800)
            refine sv_aload (pc := 55) dX8_threeInRing_55 rfl ?_
            refine sv_aload_n (pc := 57) dX8_threeInRing_57 rfl rfl ?_
            refine gf_X8_4 (pc := 58) dX8_threeInRing_58 wF_X8_34 (A_32 hw) T11 ?_
            refine mr_iload (pc := 61) (z := z1211) dX8_threeInRing_61 rfl ?_
            refine la_35 (pc := 63) dX8_threeInRing_63 (A_35 hw) T11 (rIx (n := 10) h1224 rfl) fun b1809 q1810 A1811 => ?_
            refine sv_aload_n (pc := 64) dX8_threeInRing_64 rfl rfl ?_
            refine gf_X8_4 (pc := 65) dX8_threeInRing_65 wF_X8_34 (A_32 hw) T11 ?_
            refine mr_iload (pc := 68) (z := z1798) dX8_threeInRing_68 rfl ?_
            refine la_35 (pc := 70) dX8_threeInRing_70 (A_35 hw) T11 (rIx (n := 10) h1808 rfl) fun b1812 q1813 A1814 => ?_
            refine mr_cVP (pc := 71) (c_X0_prefers hw T11 A3 A1811 A1814) (gOk _ _ _ _ _) dX8_threeInRing_71 (tX0_prefers _ _ _ _ _) ⟨wV_X0_prefers, wL_X0_prefers⟩ wM_X8_235 (gCX0 _ _ _ _ _) rfl A3 rfl ⟨le_t rfl, le_t rfl⟩ ⟨le_t rfl, le_t rfl⟩ rfl (le_t rfl) fun z1819 h1818 => ?_
            refine mr_if_ne (pc := 74) (tgt := 80) dX8_threeInRing_74 (by decide) (r32 h1818.1 rfl) (fun h1820 => ?_) (fun h1820 => ?_)
            · have h1821 : 1 ≤ z1819 ∧ z1819 ≤ 1 := (vc_X12_ring_24 h1820 h1818.1)
              refine mr_iconst (pc := 80) (z := 0) dX8_threeInRing_80 ?_
              refine mr_istore (pc := 81) (lv' := [(7, iv 0), (0, .ref 32), (3, iv p3), (4, .ref b1), (5, iv z1211), (6, iv z1798)]) dX8_threeInRing_81 (by decide) rfl ?_
              have L2052 : ∀ (nL2052 : Nat) (z2051 : Int), True → (0 ≤ z2051 ∧ z2051 ≤ 10) → (11 - z2051) < (nL2052 : Int) → sV (gG l D c H0 sa) mX8_threeInRing (sRm 42 0 0) (sZ (gG l D c H0 sa) 0 0 (qI w [21002, 21003, 21004, 21005, 21006, 21007, 32009, 200002, 200003, 200004, 200005, 200006, 200007, 200008, 200009, 200010, 200011, 201999, 202999] μ (fun z μ1 => ((-2147483648) ≤ z ∧ z ≤ 2147483647) ∧ True))) 83 [(0, .ref 32), (3, iv p3), (4, .ref b1), (5, iv z1211), (6, iv z1798), (7, iv z2051)] [] (mk w μ10) 0 0 := by
                intro nL2052
                induction nL2052 with
                | zero => intro z2051 _ h2053 h2057; exact ((vc_X12_ring_2 h2057 h2053)).elim
                | succ nL2052 ih2058 =>
                  intro z2051 _ h2053 h2057
                  refine mr_iload (pc := 83) (z := z2051) dX8_threeInRing_83 rfl ?_
                  refine sv_aload_n (pc := 85) dX8_threeInRing_85 rfl rfl ?_
                  refine gk_X8_9 (pc := 86) dX8_threeInRing_86 wF_X8_200 (A_32 hw) q1220 ?_
                  refine mr_icmp_ge (pc := 89) (tgt := 176) dX8_threeInRing_89 (by decide) (r32 h2053 rfl) (r32 h1225 rfl) (fun h2059 => ?_) (fun h2059 => ?_)
                  · have h2060 : 1 ≤ z2051 ∧ z2051 ≤ 10 := (vc_X8_threeInRing_12 h2059 h1221.2.2 h1223 h1806 h1224 h1225 h1808 h2053)
                    refine mr_iinc (pc := 176) (lv' := [(6, iv (z1798 + 1)), (0, .ref 32), (3, iv p3), (4, .ref b1), (5, iv z1211), (7, iv z2051)]) dX8_threeInRing_176 rfl (by decide) rfl ?_
                    refine sv_goto (pc := 179) (tgt := 46) dX8_threeInRing_179 (by decide) ?_
                    refine mr_lvS (lv' := [(0, .ref 32), (3, iv p3), (4, .ref b1), (5, iv z1211), (6, iv (z1798 + 1))]) (List.forall_mem_cons.mpr ⟨rfl, List.forall_mem_cons.mpr ⟨rfl, List.forall_mem_cons.mpr ⟨rfl, List.forall_mem_cons.mpr ⟨rfl, List.forall_mem_cons.mpr ⟨rfl, fun _ h => absurd h List.not_mem_nil⟩⟩⟩⟩⟩) ?_
                    exact ih1805 (z1798 + 1) trivial (rW (c := 0) (d := 10) (rAdd (e := 1) (f := 10) h1808 (rR (x := 1)) rfl) rfl) (vc_X8_threeInRing_13 (nS h1804) h1806 h1221.2.2 h1223 h2059 h1224 h1225 h1808 h2060)
                  have h2061 : 0 ≤ z2051 ∧ z2051 ≤ 9 := (vc_X8_threeInRing_14 h2059 h1221.2.2 h1223 h1806 h1224 h1225 h1808 h2053)
                  refine sv_aload (pc := 92) dX8_threeInRing_92 rfl ?_
                  refine sv_aload_n (pc := 94) dX8_threeInRing_94 rfl rfl ?_
                  refine gf_X8_4 (pc := 95) dX8_threeInRing_95 wF_X8_34 (A_32 hw) T11 ?_
                  refine mr_iload (pc := 98) (z := z1798) dX8_threeInRing_98 rfl ?_
                  refine lk_35 (pc := 100) dX8_threeInRing_100 (A_35 hw) (rIx (n := 10) h1808 rfl) q1813 ?_
                  refine sv_aload_n (pc := 101) dX8_threeInRing_101 rfl rfl ?_
                  refine gf_X8_4 (pc := 102) dX8_threeInRing_102 wF_X8_34 (A_32 hw) T11 ?_
                  refine mr_iload (pc := 105) (z := z2051) dX8_threeInRing_105 rfl ?_
                  refine la_35 (pc := 107) dX8_threeInRing_107 (A_35 hw) T11 (rIx (n := 10) h2061 rfl) fun b2062 q2063 A2064 => ?_
                  refine mr_cVP (pc := 108) (c_X0_prefers hw T11 A3 A1814 A2064) (gOk _ _ _ _ _) dX8_threeInRing_108 (tX0_prefers _ _ _ _ _) ⟨wV_X0_prefers, wL_X0_prefers⟩ wM_X8_235 (gCX0 _ _ _ _ _) rfl A3 rfl ⟨le_t rfl, le_t rfl⟩ ⟨le_t rfl, le_t rfl⟩ rfl (le_t rfl) fun z2069 h2068 => ?_
                  refine mr_if_eq (pc := 111) (tgt := 170) dX8_threeInRing_111 (by decide) (r32 h2068.1 rfl) (fun h2070 => ?_) (fun h2070 => ?_)
                  · have h2071 : 0 ≤ z2069 ∧ z2069 ≤ 0 := (vc_X12_ring_22 h2070 h2068.1)
                    refine mr_iinc (pc := 170) (lv' := [(7, iv (z2051 + 1)), (0, .ref 32), (3, iv p3), (4, .ref b1), (5, iv z1211), (6, iv z1798)]) dX8_threeInRing_170 rfl (by decide) rfl ?_
                    refine sv_goto (pc := 173) (tgt := 83) dX8_threeInRing_173 (by decide) ?_
                    refine mr_lvS (lv' := [(0, .ref 32), (3, iv p3), (4, .ref b1), (5, iv z1211), (6, iv z1798), (7, iv (z2051 + 1))]) (List.forall_mem_cons.mpr ⟨rfl, List.forall_mem_cons.mpr ⟨rfl, List.forall_mem_cons.mpr ⟨rfl, List.forall_mem_cons.mpr ⟨rfl, List.forall_mem_cons.mpr ⟨rfl, List.forall_mem_cons.mpr ⟨rfl, fun _ h => absurd h List.not_mem_nil⟩⟩⟩⟩⟩⟩) ?_
                    exact ih2058 (z2051 + 1) trivial (rW (c := 0) (d := 10) (rAdd (e := 1) (f := 10) h2061 (rR (x := 1)) rfl) rfl) (vc_X8_threeInRing_16 (nS h2057) h2059 h1221.2.2 h1223 h1806 h1224 h1225 h1808 h2061)
                  have h2072 : 1 ≤ z2069 ∧ z2069 ≤ 1 := (vc_X12_ring_24 h2070 h2068.1)
                  refine sv_aload (pc := 114) dX8_threeInRing_114 rfl ?_
                  refine sv_aload_n (pc := 116) dX8_threeInRing_116 rfl rfl ?_
                  refine gf_X8_4 (pc := 117) dX8_threeInRing_117 wF_X8_34 (A_32 hw) T11 ?_
                  refine mr_iload (pc := 120) (z := z2051) dX8_threeInRing_120 rfl ?_
                  refine lk_35 (pc := 122) dX8_threeInRing_122 (A_35 hw) (rIx (n := 10) h2061 rfl) q2063 ?_
                  refine sv_aload_n (pc := 123) dX8_threeInRing_123 rfl rfl ?_
                  refine gf_X8_4 (pc := 124) dX8_threeInRing_124 wF_X8_34 (A_32 hw) T11 ?_
                  refine mr_iload (pc := 127) (z := z1211) dX8_threeInRing_127 rfl ?_
                  refine lk_35 (pc := 129) dX8_threeInRing_129 (A_35 hw) (rIx (n := 10) h1224 rfl) q1810 ?_
                  refine mr_cVP (pc := 130) (c_X0_prefers hw T11 A3 A2064 A1811) (gOk _ _ _ _ _) dX8_threeInRing_130 (tX0_prefers _ _ _ _ _) ⟨wV_X0_prefers, wL_X0_prefers⟩ wM_X8_235 (gCX0 _ _ _ _ _) rfl A3 rfl ⟨le_t rfl, le_t rfl⟩ ⟨le_t rfl, le_t rfl⟩ rfl (le_t rfl) fun z2077 h2076 => ?_
                  refine mr_if_eq (pc := 133) (tgt := 170) dX8_threeInRing_133 (by decide) (r32 h2076.1 rfl) (fun h2078 => ?_) (fun h2078 => ?_)
                  · have h2079 : 0 ≤ z2077 ∧ z2077 ≤ 0 := (vc_X12_ring_22 h2078 h2076.1)
                    refine mr_iinc (pc := 170) (lv' := [(7, iv (z2051 + 1)), (0, .ref 32), (3, iv p3), (4, .ref b1), (5, iv z1211), (6, iv z1798)]) dX8_threeInRing_170 rfl (by decide) rfl ?_
                    refine sv_goto (pc := 173) (tgt := 83) dX8_threeInRing_173 (by decide) ?_
                    refine mr_lvS (lv' := [(0, .ref 32), (3, iv p3), (4, .ref b1), (5, iv z1211), (6, iv z1798), (7, iv (z2051 + 1))]) (List.forall_mem_cons.mpr ⟨rfl, List.forall_mem_cons.mpr ⟨rfl, List.forall_mem_cons.mpr ⟨rfl, List.forall_mem_cons.mpr ⟨rfl, List.forall_mem_cons.mpr ⟨rfl, List.forall_mem_cons.mpr ⟨rfl, fun _ h => absurd h List.not_mem_nil⟩⟩⟩⟩⟩⟩) ?_
                    exact ih2058 (z2051 + 1) trivial (rW (c := 0) (d := 10) (rAdd (e := 1) (f := 10) h2061 (rR (x := 1)) rfl) rfl) (vc_X8_threeInRing_16 (nS h2057) h2059 h1221.2.2 h1223 h1806 h1224 h1225 h1808 h2061)
                  have h2080 : 1 ≤ z2077 ∧ z2077 ≤ 1 := (vc_X12_ring_24 h2078 h2076.1)
                  refine mr_iload_n (pc := 136) (z := p3) dX8_threeInRing_136 rfl rfl ?_
                  have J2087 : ∀ (z2085 : Int), ((0 ≤ z2085 ∧ z2085 ≤ 9)) → sV (gG l D c H0 sa) mX8_threeInRing (sRm 42 0 0) (sZ (gG l D c H0 sa) 0 0 (qI w [21002, 21003, 21004, 21005, 21006, 21007, 32009, 200002, 200003, 200004, 200005, 200006, 200007, 200008, 200009, 200010, 200011, 201999, 202999] μ (fun z μ1 => ((-2147483648) ≤ z ∧ z ≤ 2147483647) ∧ True))) 157 [(0, .ref 32)] [iv z2085] (mk w μ10) 0 0 := by
                    intro z2085 h2086
                    refine mr_istore (pc := 157) (lv' := [(8, iv z2085), (0, .ref 32)]) dX8_threeInRing_157 (by decide) rfl ?_
                    refine sv_aload_n (pc := 159) dX8_threeInRing_159 rfl rfl ?_
                    refine gf_X8_4 (pc := 160) dX8_threeInRing_160 wF_X8_34 (A_32 hw) T11 ?_
                    refine mr_iload (pc := 163) (z := z2085) dX8_threeInRing_163 rfl ?_
                    refine la_35 (pc := 165) dX8_threeInRing_165 (A_35 hw) T11 (rIx (n := 10) h2086 rfl) fun b2088 q2089 A2090 => ?_
                    refine gf_X7_10 (pc := 166) dX8_threeInRing_166 wF_X8_188 A2090 T11 fun z2091 q2092 h2093 => ?_
                    have h2094 : 0 ≤ z2091 ∧ z2091 ≤ 19 := ⟨h2093.1, h2093.2.1⟩
                    exact mr_iret dX8_threeInRing_169 rfl (le_t rfl) (le_t rfl) T11 (mF.call mF.refl F12 rfl) ⟨(rW (c := (-2147483648)) (d := 2147483647) h2094 rfl), trivial⟩
                  refine mr_if_ne (pc := 137) (tgt := 145) dX8_threeInRing_137 (by decide) (r32 hp3 rfl) (fun h2095 => ?_) (fun h2095 => ?_)
                  · have h2096 : 1 ≤ p3 ∧ p3 ≤ 2 := (vc_X12_provides_3 h2095 hp3)
                    refine mr_iload_n (pc := 145) (z := p3) dX8_threeInRing_145 rfl rfl ?_
                    refine mr_iconst (pc := 146) (z := 1) dX8_threeInRing_146 ?_
                    refine mr_icmp_ne (pc := 147) (tgt := 155) dX8_threeInRing_147 (by decide) (r32 h2096 rfl) (r32 (rR (x := 1)) rfl) (fun h2097 => ?_) (fun h2097 => ?_)
                    · have h2098 : 2 ≤ p3 ∧ p3 ≤ 2 := (vc_X8_threeInRing_21 h2097 h2095 h2096)
                      refine mr_iload (pc := 155) (z := z2051) dX8_threeInRing_155 rfl ?_
                      refine mr_lvS (lv' := [(0, .ref 32)]) (List.forall_mem_cons.mpr ⟨rfl, fun _ h => absurd h List.not_mem_nil⟩) ?_
                      exact J2087 z2051 h2061
                    have h2099 : 1 ≤ p3 ∧ p3 ≤ 1 := (vc_X8_threeInRing_22 h2097 h2095 h2096)
                    refine mr_iload (pc := 150) (z := z1798) dX8_threeInRing_150 rfl ?_
                    refine sv_goto (pc := 152) (tgt := 157) dX8_threeInRing_152 (by decide) ?_
                    refine mr_lvS (lv' := [(0, .ref 32)]) (List.forall_mem_cons.mpr ⟨rfl, fun _ h => absurd h List.not_mem_nil⟩) ?_
                    exact J2087 z1798 h1808
                  have h2100 : 0 ≤ p3 ∧ p3 ≤ 0 := (vc_X12_provides_4 h2095 hp3)
                  refine mr_iload (pc := 140) (z := z1211) dX8_threeInRing_140 rfl ?_
                  refine sv_goto (pc := 142) (tgt := 157) dX8_threeInRing_142 (by decide) ?_
                  refine mr_lvS (lv' := [(0, .ref 32)]) (List.forall_mem_cons.mpr ⟨rfl, fun _ h => absurd h List.not_mem_nil⟩) ?_
                  exact J2087 z1211 h1224
              refine mr_lvS (lv' := [(0, .ref 32), (3, iv p3), (4, .ref b1), (5, iv z1211), (6, iv z1798), (7, iv 0)]) (List.forall_mem_cons.mpr ⟨rfl, List.forall_mem_cons.mpr ⟨rfl, List.forall_mem_cons.mpr ⟨rfl, List.forall_mem_cons.mpr ⟨rfl, List.forall_mem_cons.mpr ⟨rfl, List.forall_mem_cons.mpr ⟨rfl, fun _ h => absurd h List.not_mem_nil⟩⟩⟩⟩⟩⟩) ?_
              exact L2052 12 0 trivial (rW (c := 0) (d := 10) (rR (x := 0)) rfl) vc_X12_ring_27
            have h2101 : 0 ≤ z1819 ∧ z1819 ≤ 0 := (vc_X12_ring_22 h1820 h1818.1)
            refine sv_goto (pc := 77) (tgt := 176) dX8_threeInRing_77 (by decide) ?_
            refine mr_iinc (pc := 176) (lv' := [(6, iv (z1798 + 1)), (0, .ref 32), (3, iv p3), (4, .ref b1), (5, iv z1211)]) dX8_threeInRing_176 rfl (by decide) rfl ?_
            refine sv_goto (pc := 179) (tgt := 46) dX8_threeInRing_179 (by decide) ?_
            refine mr_lvS (lv' := [(0, .ref 32), (3, iv p3), (4, .ref b1), (5, iv z1211), (6, iv (z1798 + 1))]) (List.forall_mem_cons.mpr ⟨rfl, List.forall_mem_cons.mpr ⟨rfl, List.forall_mem_cons.mpr ⟨rfl, List.forall_mem_cons.mpr ⟨rfl, List.forall_mem_cons.mpr ⟨rfl, fun _ h => absurd h List.not_mem_nil⟩⟩⟩⟩⟩) ?_
            exact ih1805 (z1798 + 1) trivial (rW (c := 0) (d := 10) (rAdd (e := 1) (f := 10) h1808 (rR (x := 1)) rfl) rfl) (vc_X8_threeInRing_26 (nS h1804) h1806 h1221.2.2 h1223 h1224 h1225 h1808)
        refine mr_lvS (lv' := [(0, .ref 32), (3, iv p3), (4, .ref b1), (5, iv z1211), (6, iv 0)]) (List.forall_mem_cons.mpr ⟨rfl, List.forall_mem_cons.mpr ⟨rfl, List.forall_mem_cons.mpr ⟨rfl, List.forall_mem_cons.mpr ⟨rfl, List.forall_mem_cons.mpr ⟨rfl, fun _ h => absurd h List.not_mem_nil⟩⟩⟩⟩⟩) ?_
        exact L1799 12 0 trivial (rW (c := 0) (d := 10) (rR (x := 0)) rfl) vc_X12_ring_27
    refine mr_lvS (lv' := [(0, .ref 32), (3, iv p3), (4, .ref b1), (5, iv 0)]) (List.forall_mem_cons.mpr ⟨rfl, List.forall_mem_cons.mpr ⟨rfl, List.forall_mem_cons.mpr ⟨rfl, List.forall_mem_cons.mpr ⟨rfl, fun _ h => absurd h List.not_mem_nil⟩⟩⟩⟩) ?_
    exact L1212 12 0 trivial (rW (c := 0) (d := 10) (rR (x := 0)) rfl) vc_X12_ring_27
  have h2102 : 0 ≤ z5 ∧ z5 ≤ 2 := (vc_X8_look_36 h8 h7)
  refine mr_ldc (pc := 22) (z := (-99999999)) dX8_threeInRing_22 wG_X8_166 (by decide) ?_
  exact mr_iret dX8_threeInRing_24 rfl (le_t rfl) (le_t rfl) hT mF.refl ⟨(rW (c := (-2147483648)) (d := 2147483647) (rR (x := (-99999999))) rfl), trivial⟩
theorem vc_X11_raise_10 {n0 z91 z99 : Int} (h0 : z91 < n0) (h1 : z99 < n0) (h2 : 0 ≤ z91 ∧ z91 ≤ 9) (h3 : 0 ≤ z99 ∧ z99 ≤ 9) : z99 < n0 := by omega
set_option maxRecDepth 4000 in
set_option maxHeartbeats 4000000 in
theorem c_X11_raise {l : Launch} {D : va_G} {c : Nat → ClassId} {H0 : Heap} {sa : Nat × Nat × (Nat → Int32)} {w : mW} {μ : mM} (hw : mWF w) (hT : mT w μ) {p1 : Int} (hp1 : (-2147483648) ≤ p1 ∧ p1 ≤ 2147483647) {p2 : Int} (hp2 : 0 ≤ p2 ∧ p2 ≤ 1) (hIPC : PC w μ) : sC (gG l D c H0 sa) mX11_raise 44 0 0 [.ref 0, iv p1, iv p2] (mk w μ) (qI w [21002, 21003, 21004, 21005, 21006, 21007, 32009, 32010, 33999, 34999, 66999, 200002, 200003, 200004, 200005, 200006, 200007, 200008, 200009, 200010, 200011, 201999, 202999, 213999, 220006] μ (fun z μ1 => ((-2147483648) ≤ z ∧ z ≤ 2147483647) ∧ True)) := by
  refine sC.of rfl (by decide) (le_t rfl) ?_
  refine mr_lvE (lv' := [(0, .ref 0), (1, iv p1), (2, iv p2)]) rfl ?_
  refine sv_aload_n (pc := 0) dX11_raise_0 rfl rfl ?_
  refine mr_iload_n (pc := 1) (z := p1) dX11_raise_1 rfl rfl ?_
  obtain ⟨z1, q2⟩ : ∃ z, μ 6 16 = z := ⟨_, rfl⟩
  have h3 : (z1 = w.2.2.2 1 ∧ 0 ≤ z1 ∧ z1 ≤ 20) := by rw [← q2]; exact hT 6 6 (A_6 hw) 16
  refine mr_cVP (pc := 2) (c_X11_isTie hw hT hp1 q2) (gOk _ _ _ _ _) dX11_raise_2 (tX11_isTie _ _ _ _ _) ⟨wV_X11_isTie, wL_X11_isTie⟩ wM_X11_119 (gCX11 _ _ _ _ _) rfl (A_0 hw) rfl ⟨le_t rfl, le_t rfl⟩ ⟨le_t rfl, le_t rfl⟩ rfl (le_t rfl) fun z8 h7 => ?_
  refine mr_if_ne (pc := 5) (tgt := 10) dX11_raise_5 (by decide) (r32 h7.1 rfl) (fun h9 => ?_) (fun h9 => ?_)
  · have h10 : 1 ≤ z8 ∧ z8 ≤ 1 := (vc_X12_pace_3 h9 h7.2.1 h7.2.2.1 hp1 h3.2 h7.1)
    have h11 : 0 ≤ p1 ∧ p1 < z1 := (h7.2.1 (vc_X11_pace_4 h7.2.1 h7.2.2.1 h9 h3.1 hp1 h3.2 h10))
    have h12 : 0 ≤ p1 ∧ p1 ≤ 19 := (vc_X11_pace_5 h11 h3.1 h7.2.1 h7.2.2.1 hp1 h3.2 h10)
    have h13 : 1 ≤ z1 ∧ z1 ≤ 20 := (vc_X11_pace_6 h11 h3.1 h7.2.1 h7.2.2.1 h12 h3.2 h10)
    refine sv_aload_n (pc := 10) dX11_raise_10 rfl rfl ?_
    refine gf_X11_3 (pc := 11) dX11_raise_11 wF_X11_26 (A_0 hw) hT ?_
    refine gf_X10_4 (pc := 14) dX11_raise_14 wF_X11_122 (A_6 hw) hT ?_
    refine mr_iload_n (pc := 17) (z := p1) dX11_raise_17 rfl rfl ?_
    refine la_11 (pc := 18) dX11_raise_18 (A_11 hw) hT (rIx (n := 20) h12 rfl) (vc_X11_pace_14 h3.1 h7.2.1 h7.2.2.1 h11 h9 h12 h13 h10) fun b14 q15 A16 => ?_
    refine gf_X9_6 (pc := 19) dX11_raise_19 wF_X11_134 A16 hT fun z17 q18 h19 => ?_
    have J24 : ∀ (z22 : Int), ((0 ≤ z22 ∧ z22 ≤ 1)) → sV (gG l D c H0 sa) mX11_raise (sRm 44 0 0) (sZ (gG l D c H0 sa) 0 0 (qI w [21002, 21003, 21004, 21005, 21006, 21007, 32009, 32010, 33999, 34999, 66999, 200002, 200003, 200004, 200005, 200006, 200007, 200008, 200009, 200010, 200011, 201999, 202999, 213999, 220006] μ (fun z μ1 => ((-2147483648) ≤ z ∧ z ≤ 2147483647) ∧ True))) 30 [(0, .ref 0), (1, iv p1), (2, iv p2)] [iv z22] (mk w μ) 0 0 := by
      intro z22 h23
      refine mr_istore_n (pc := 30) (lv' := [(3, iv z22), (0, .ref 0), (1, iv p1), (2, iv p2)]) dX11_raise_30 rfl (by decide) rfl ?_
      refine mr_iload_n (pc := 31) (z := p2) dX11_raise_31 rfl rfl ?_
      refine mr_if_eq (pc := 32) (tgt := 69) dX11_raise_32 (by decide) (r32 hp2 rfl) (fun h60 => ?_) (fun h60 => ?_)
      · have h61 : 0 ≤ p2 ∧ p2 ≤ 0 := (vc_X12_ring_22 h60 hp2)
        refine mr_iload_n (pc := 69) (z := z22) dX11_raise_69 rfl rfl ?_
        refine mr_iconst (pc := 70) (z := 1) dX11_raise_70 ?_
        refine mr_icmp_ne (pc := 71) (tgt := 120) dX11_raise_71 (by decide) (r32 h23 rfl) (r32 (rR (x := 1)) rfl) (fun h84 => ?_) (fun h84 => ?_)
        · have h85 : 0 ≤ z22 ∧ z22 ≤ 0 := (vc_X1_goThrough_12_38 h84 h23)
          refine mr_iload_n (pc := 120) (z := z22) dX11_raise_120 rfl rfl ?_
          exact mr_iret dX11_raise_121 rfl (le_t rfl) (le_t rfl) hT mF.refl ⟨(rW (c := (-2147483648)) (d := 2147483647) h85 rfl), trivial⟩
        have h86 : 1 ≤ z22 ∧ z22 ≤ 1 := (vc_X1_goThrough_12_37 h84 h23)
        refine sv_aload_n (pc := 74) dX11_raise_74 rfl rfl ?_
        refine gf_X11_6 (pc := 75) dX11_raise_75 wF_X11_51 (A_0 hw) hT ?_
        refine mr_iload_n (pc := 78) (z := p1) dX11_raise_78 rfl rfl ?_
        refine mr_cVV (pc := 79) (c_X8_silence hw hT h12 (vc_X11_pace_14 h3.1 h7.2.1 h7.2.2.1 h11 h9 h12 h13 h10)) (gOk _ _ _ _ _) dX11_raise_79 (tX8_silence _ _ _ _ _) ⟨wV_X8_silence, wL_X8_silence⟩ wM_X11_142 (gCX8 _ _ _ _ _) rfl (A_32 hw) rfl ⟨le_t rfl, le_t rfl⟩ ⟨le_t rfl, le_t rfl⟩ rfl (le_t rfl) fun μ87 T88 F89 h90 => ?_
        refine sv_aload_n (pc := 82) dX11_raise_82 rfl rfl ?_
        refine gf_X11_6 (pc := 83) dX11_raise_83 wF_X11_51 (A_0 hw) T88 ?_
        refine sv_aload_n (pc := 86) dX11_raise_86 rfl rfl ?_
        refine gf_X11_3 (pc := 87) dX11_raise_87 wF_X11_26 (A_0 hw) T88 ?_
        refine gf_X10_4 (pc := 90) dX11_raise_90 wF_X11_122 (A_6 hw) T88 ?_
        refine mr_iload_n (pc := 93) (z := p1) dX11_raise_93 rfl rfl ?_
        refine lk_11 (pc := 94) dX11_raise_94 (A_11 hw) (rIx (n := 20) h12 rfl) (F89.f (A_11 hw) rfl q15) ?_
        refine gf_X9_0 (pc := 95) dX11_raise_95 wF_X11_145 A16 T88 fun z91 q92 h93 => ?_
        have h94 : 0 ≤ z91 ∧ z91 ≤ 9 := ⟨h93.1, h93.2.1⟩
        refine mr_cVV (pc := 98) (c_X8_lookAtAll hw T88 h94 (vc_X9_end_1 h93.2.2 h94) (PC.keep hIPC hw ((mF.call mF.refl F89 rfl) : mF [32010, 33999, 34999, 200002, 200009, 220006] w μ μ87) rfl)) (gOk _ _ _ _ _) dX11_raise_98 (tX8_lookAtAll _ _ _ _ _) ⟨wV_X8_lookAtAll, wL_X8_lookAtAll⟩ wM_X11_148 (gCX8 _ _ _ _ _) rfl (A_32 hw) rfl ⟨le_t rfl, le_t rfl⟩ ⟨le_t rfl, le_t rfl⟩ rfl (le_t rfl) fun μ95 T96 F97 h98 => ?_
        refine sv_aload_n (pc := 101) dX11_raise_101 rfl rfl ?_
        refine gf_X11_6 (pc := 102) dX11_raise_102 wF_X11_51 (A_0 hw) T96 ?_
        refine sv_aload_n (pc := 105) dX11_raise_105 rfl rfl ?_
        refine gf_X11_3 (pc := 106) dX11_raise_106 wF_X11_26 (A_0 hw) T96 ?_
        refine gf_X10_4 (pc := 109) dX11_raise_109 wF_X11_122 (A_6 hw) T96 ?_
        refine mr_iload_n (pc := 112) (z := p1) dX11_raise_112 rfl rfl ?_
        refine lk_11 (pc := 113) dX11_raise_113 (A_11 hw) (rIx (n := 20) h12 rfl) (F97.f (A_11 hw) rfl (F89.f (A_11 hw) rfl q15)) ?_
        refine gf_X9_1 (pc := 114) dX11_raise_114 wF_X11_151 A16 T96 fun z99 q100 h101 => ?_
        have h102 : 0 ≤ z99 ∧ z99 ≤ 9 := ⟨h101.1, h101.2.1⟩
        refine mr_cVV (pc := 117) (c_X8_lookAtAll hw T96 h102 (vc_X11_raise_10 h93.2.2 h101.2.2 h94 h102) (PC.keep hIPC hw ((mF.call (mF.call mF.refl F89 rfl) F97 rfl) : mF [21002, 21003, 21004, 21005, 21006, 21007, 32009, 32010, 33999, 34999, 66999, 200002, 200003, 200004, 200005, 200006, 200007, 200008, 200009, 200010, 200011, 201999, 202999, 213999, 220006] w μ μ95) rfl)) (gOk _ _ _ _ _) dX11_raise_117 (tX8_lookAtAll _ _ _ _ _) ⟨wV_X8_lookAtAll, wL_X8_lookAtAll⟩ wM_X11_148 (gCX8 _ _ _ _ _) rfl (A_32 hw) rfl ⟨le_t rfl, le_t rfl⟩ ⟨le_t rfl, le_t rfl⟩ rfl (le_t rfl) fun μ103 T104 F105 h106 => ?_
        refine mr_iload_n (pc := 120) (z := z22) dX11_raise_120 rfl rfl ?_
        exact mr_iret dX11_raise_121 rfl (le_t rfl) (le_t rfl) T104 (mF.call (mF.call (mF.call mF.refl F89 rfl) F97 rfl) F105 rfl) ⟨(rW (c := (-2147483648)) (d := 2147483647) h86 rfl), trivial⟩
      have h107 : 1 ≤ p2 ∧ p2 ≤ 1 := (vc_X12_ring_24 h60 hp2)
      refine sv_aload_n (pc := 35) dX11_raise_35 rfl rfl ?_
      refine gf_X11_3 (pc := 36) dX11_raise_36 wF_X11_26 (A_0 hw) hT ?_
      refine gf_X10_4 (pc := 39) dX11_raise_39 wF_X11_122 (A_6 hw) hT ?_
      refine mr_iload_n (pc := 42) (z := p1) dX11_raise_42 rfl rfl ?_
      refine lk_11 (pc := 43) dX11_raise_43 (A_11 hw) (rIx (n := 20) h12 rfl) q15 ?_
      refine mr_iconst (pc := 44) (z := 1) dX11_raise_44 ?_
      refine pf_X9_6 (pc := 45) dX11_raise_45 wF_X11_134 A16 hT (rW (c := 0) (d := 1) (rR (x := 1)) rfl) fun μ108 u109 T110 => ?_
      refine sv_aload_n (pc := 48) dX11_raise_48 rfl rfl ?_
      refine gf_X11_6 (pc := 49) dX11_raise_49 wF_X11_51 (A_0 hw) T110 ?_
      refine mr_iload_n (pc := 52) (z := p1) dX11_raise_52 rfl rfl ?_
      refine mr_iconst (pc := 53) (z := 0) dX11_raise_53 ?_
      refine mr_cVV (pc := 54) (c_X8_sayAll hw T110 h12 (rW (c := 0) (d := 1) (rR (x := 0)) rfl) (vc_X11_pace_14 h3.1 h7.2.1 h7.2.2.1 h11 h9 h12 h13 h10) (PC.keep hIPC hw ((mF.up mF.refl A16 u109 rfl) : mF [220006] w μ μ108) rfl)) (gOk _ _ _ _ _) dX11_raise_54 (tX8_sayAll _ _ _ _ _) ⟨wV_X8_sayAll, wL_X8_sayAll⟩ wM_X11_138 (gCX8 _ _ _ _ _) rfl (A_32 hw) rfl ⟨le_t rfl, le_t rfl⟩ ⟨le_t rfl, le_t rfl⟩ rfl (le_t rfl) fun μ111 T112 F113 h114 => ?_
      refine sv_aload_n (pc := 57) dX11_raise_57 rfl rfl ?_
      refine gf_X11_6 (pc := 58) dX11_raise_58 wF_X11_51 (A_0 hw) T112 ?_
      refine mr_iload_n (pc := 61) (z := p1) dX11_raise_61 rfl rfl ?_
      refine mr_iconst (pc := 62) (z := 1) dX11_raise_62 ?_
      refine mr_cVV (pc := 63) (c_X8_sayAll hw T112 h12 (rW (c := 0) (d := 1) (rR (x := 1)) rfl) (vc_X11_pace_14 h3.1 h7.2.1 h7.2.2.1 h11 h9 h12 h13 h10) (PC.keep hIPC hw ((mF.call (mF.up mF.refl A16 u109 rfl) F113 rfl) : mF [21002, 21003, 21004, 21005, 21006, 21007, 32010, 33999, 34999, 200002, 200003, 200004, 200005, 200006, 200007, 200008, 200009, 201999, 202999, 220006] w μ μ111) rfl)) (gOk _ _ _ _ _) dX11_raise_63 (tX8_sayAll _ _ _ _ _) ⟨wV_X8_sayAll, wL_X8_sayAll⟩ wM_X11_138 (gCX8 _ _ _ _ _) rfl (A_32 hw) rfl ⟨le_t rfl, le_t rfl⟩ ⟨le_t rfl, le_t rfl⟩ rfl (le_t rfl) fun μ115 T116 F117 h118 => ?_
      refine sv_goto (pc := 66) (tgt := 120) dX11_raise_66 (by decide) ?_
      refine mr_iload_n (pc := 120) (z := z22) dX11_raise_120 rfl rfl ?_
      exact mr_iret dX11_raise_121 rfl (le_t rfl) (le_t rfl) T116 (mF.call (mF.call (mF.up mF.refl A16 u109 rfl) F113 rfl) F117 rfl) ⟨(rW (c := (-2147483648)) (d := 2147483647) h23 rfl), trivial⟩
    refine mr_if_eq (pc := 22) (tgt := 29) dX11_raise_22 (by decide) (r32 h19 rfl) (fun h119 => ?_) (fun h119 => ?_)
    · have h120 : 0 ≤ z17 ∧ z17 ≤ 0 := (vc_X12_ring_22 h119 h19)
      refine mr_iconst (pc := 29) (z := 0) dX11_raise_29 ?_
      exact J24 0 (rW (c := 0) (d := 1) (rR (x := 0)) rfl)
    have h121 : 1 ≤ z17 ∧ z17 ≤ 1 := (vc_X12_ring_24 h119 h19)
    refine mr_iconst (pc := 25) (z := 1) dX11_raise_25 ?_
    refine sv_goto (pc := 26) (tgt := 30) dX11_raise_26 (by decide) ?_
    exact J24 1 (rW (c := 0) (d := 1) (rR (x := 1)) rfl)
  have h122 : 0 ≤ z8 ∧ z8 ≤ 0 := (vc_X12_pace_1 h9 h7.2.1 h7.2.2.1 hp1 h3.2 h7.1)
  have h123 : p1 < 0 ∨ z1 ≤ p1 := (h7.2.2.1 (vc_X11_pace_2 h7.2.1 h7.2.2.1 h9 h3.1 hp1 h3.2 h122))
  refine mr_iconst (pc := 8) (z := (-1)) dX11_raise_8 ?_
  exact mr_iret dX11_raise_9 rfl (le_t rfl) (le_t rfl) hT mF.refl ⟨(rW (c := (-2147483648)) (d := 2147483647) (rR (x := (-1))) rfl), trivial⟩
set_option maxRecDepth 4000 in
set_option maxHeartbeats 4000000 in
theorem c_X11_today {l : Launch} {D : va_G} {c : Nat → ClassId} {H0 : Heap} {sa : Nat × Nat × (Nat → Int32)} {w : mW} {μ : mM} (hw : mWF w) (hT : mT w μ) {p1 : Int} (hp1 : (-2147483648) ≤ p1 ∧ p1 ≤ 2147483647) (hIPC : PC w μ) : sC (gG l D c H0 sa) mX11_today 44 0 0 [.ref 0, iv p1] (mk w μ) (qI w [6018, 21002, 21003, 21004, 21005, 21006, 21007, 32009, 32010, 33999, 34999, 66999, 200002, 200003, 200004, 200005, 200006, 200007, 200008, 200009, 200010, 200011, 201999, 202999, 213999] μ (fun z μ1 => ((-2147483648) ≤ z ∧ z ≤ 2147483647) ∧ True)) := by
  refine sC.of rfl (by decide) (le_t rfl) ?_
  refine mr_lvE (lv' := [(0, .ref 0), (1, iv p1)]) rfl ?_
  refine mr_iload_n (pc := 0) (z := p1) dX11_today_0 rfl rfl ?_
  refine mr_if_ge (pc := 1) (tgt := 6) dX11_today_1 (by decide) hp1 (fun h1 => ?_) (fun h1 => ?_)
  · have h2 : 0 ≤ p1 ∧ p1 ≤ 2147483647 := (vc_X12_ring_1 h1 hp1)
    refine sv_aload_n (pc := 6) dX11_today_6 rfl rfl ?_
    refine gf_X11_3 (pc := 7) dX11_today_7 wF_X11_26 (A_0 hw) hT ?_
    refine gf_X10_18 (pc := 10) dX11_today_10 wF_X11_176 (A_6 hw) hT fun z3 q4 h5 => ?_
    refine mr_istore_n (pc := 13) (lv' := [(2, iv z3), (0, .ref 0), (1, iv p1)]) dX11_today_13 rfl (by decide) rfl ?_
    refine sv_aload_n (pc := 14) dX11_today_14 rfl rfl ?_
    refine gf_X11_3 (pc := 15) dX11_today_15 wF_X11_26 (A_0 hw) hT ?_
    refine mr_iload_n (pc := 18) (z := p1) dX11_today_18 rfl rfl ?_
    refine pf_X10_18 (pc := 19) dX11_today_19 wF_X11_176 (A_6 hw) hT h2 fun μ6 u7 T8 => ?_
    refine sv_aload_n (pc := 22) dX11_today_22 rfl rfl ?_
    refine gf_X11_6 (pc := 23) dX11_today_23 wF_X11_51 (A_0 hw) T8 ?_
    refine mr_cVV (pc := 26) (c_X8_tellAllAnew hw T8 (PC.keep hIPC hw ((mF.up mF.refl (A_6 hw) u7 rfl) : mF [6018] w μ μ6) rfl)) (gOk _ _ _ _ _) dX11_today_26 (tX8_tellAllAnew _ _ _ _ _) ⟨wV_X8_tellAllAnew, wL_X8_tellAllAnew⟩ wM_X11_179 (gCX8 _ _ _ _ _) rfl (A_32 hw) rfl ⟨le_t rfl, le_t rfl⟩ ⟨le_t rfl, le_t rfl⟩ rfl (le_t rfl) fun μ9 T10 F11 h12 => ?_
    refine mr_iload_n (pc := 29) (z := z3) dX11_today_29 rfl rfl ?_
    exact mr_iret dX11_today_30 rfl (le_t rfl) (le_t rfl) T10 (mF.call (mF.up mF.refl (A_6 hw) u7 rfl) F11 rfl) ⟨(rW (c := (-2147483648)) (d := 2147483647) h5 rfl), trivial⟩
  have h13 : (-2147483648) ≤ p1 ∧ p1 ≤ (-1) := (vc_X12_ring_60 h1 hp1)
  refine mr_iconst (pc := 4) (z := (-1)) dX11_today_4 ?_
  exact mr_iret dX11_today_5 rfl (le_t rfl) (le_t rfl) hT mF.refl ⟨(rW (c := (-2147483648)) (d := 2147483647) (rR (x := (-1))) rfl), trivial⟩
theorem vc_X11_right_14 {p2 z30 : Int} (h0 : p2 ≤ 32) (h1 : z30 ≤ p2) (h2 : 0 ≤ p2 ∧ p2 ≤ 2147483647) (h3 : 0 ≤ z30 ∧ z30 ≤ 32) : 0 ≤ p2 ∧ p2 ≤ 32 := by omega
theorem vc_X11_right_17 {p4 p5 : Int} (h0 : p4 < p5) (h1 : 0 ≤ p4) (h2 : 0 ≤ p4 ∧ p4 ≤ 2147483647) (h3 : (-2147483648) ≤ p5 ∧ p5 ≤ 2147483647) : 1 ≤ p5 ∧ p5 ≤ 2147483647 := by omega
theorem vc_X11_right_18 {p4 p5 : Int} (h0 : p4 < p5) (h1 : 0 ≤ p4) (h2 : 0 ≤ p4 ∧ p4 ≤ 2147483647) (h3 : 1 ≤ p5 ∧ p5 ≤ 2147483647) : 0 ≤ p4 ∧ p4 ≤ 2147483646 := by omega
theorem vc_X11_right_20 {z46 : Int} (h0 : z46 < 30) (h1 : 0 ≤ z46 ∧ z46 ≤ 30) : 0 ≤ z46 ∧ z46 ≤ 29 := by omega
theorem vc_X11_right_21 {z46 : Int} (h0 : z46 < 30) (h1 : 0 ≤ z46 ∧ z46 ≤ 29) : z46 ≤ 29 := by omega
theorem vc_X11_right_22 {z46 : Int} (h0 : 30 ≤ z46) (h1 : 0 ≤ z46 ∧ z46 ≤ 30) : 30 ≤ z46 ∧ z46 ≤ 30 := by omega
theorem vc_X11_right_24 {p2 z30 : Int} (h0 : 32 < p2) (h1 : z30 ≤ p2) (h2 : 0 ≤ p2 ∧ p2 ≤ 2147483647) (h3 : 0 ≤ z30 ∧ z30 ≤ 32) : 33 ≤ p2 ∧ p2 ≤ 2147483647 := by omega
set_option maxRecDepth 4000 in
set_option maxHeartbeats 4000000 in
theorem c_X11_right {l : Launch} {D : va_G} {c : Nat → ClassId} {H0 : Heap} {sa : Nat × Nat × (Nat → Int32)} {w : mW} {μ : mM} (hw : mWF w) (hT : mT w μ) {p1 : Int} (hp1 : (-2147483648) ≤ p1 ∧ p1 ≤ 2147483647) {p2 : Int} (hp2 : (-2147483648) ≤ p2 ∧ p2 ≤ 2147483647) {p3 : Int} (hp3 : (-2147483648) ≤ p3 ∧ p3 ≤ 2147483647) {p4 : Int} (hp4 : (-2147483648) ≤ p4 ∧ p4 ≤ 2147483647) {p5 : Int} (hp5 : (-2147483648) ≤ p5 ∧ p5 ≤ 2147483647) {p6 : Int} (hp6 : (-2147483648) ≤ p6 ∧ p6 ≤ 2147483647) (hIPC : PC w μ) : sC (gG l D c H0 sa) mX11_right 44 0 0 [.ref 0, iv p1, iv p2, iv p3, iv p4, iv p5, iv p6] (mk w μ) (qI w [6017, 14999, 15999, 16999, 17999, 18999, 19999, 20999, 21002, 21003, 21004, 21005, 21006, 21007, 32009, 32010, 33999, 34999, 66999, 200002, 200003, 200004, 200005, 200006, 200007, 200008, 200009, 200010, 200011, 201999, 202999, 213999] μ (fun z μ1 => ((-2147483648) ≤ z ∧ z ≤ 2147483647) ∧ True)) := by
  refine sC.of rfl (by decide) (le_t rfl) ?_
  refine mr_lvE (lv' := [(0, .ref 0), (1, iv p1), (2, iv p2), (3, iv p3), (4, iv p4), (5, iv p5), (6, iv p6)]) rfl ?_
  refine sv_aload_n (pc := 0) dX11_right_0 rfl rfl ?_
  refine mr_iload_n (pc := 1) (z := p1) dX11_right_1 rfl rfl ?_
  obtain ⟨z1, q2⟩ : ∃ z, μ 6 14 = z := ⟨_, rfl⟩
  have h3 : (0 ≤ z1 ∧ z1 ≤ 10) := by rw [← q2]; exact hT 6 6 (A_6 hw) 14
  refine mr_cVP (pc := 2) (c_X11_isPrefix hw hT hp1 q2) (gOk _ _ _ _ _) dX11_right_2 (tX11_isPrefix _ _ _ _ _) ⟨wV_X11_isPrefix, wL_X11_isPrefix⟩ wM_X11_182 (gCX11 _ _ _ _ _) rfl (A_0 hw) rfl ⟨le_t rfl, le_t rfl⟩ ⟨le_t rfl, le_t rfl⟩ rfl (le_t rfl) fun z8 h7 => ?_
  refine mr_if_eq (pc := 5) (tgt := 35) dX11_right_5 (by decide) (r32 h7.1 rfl) (fun h9 => ?_) (fun h9 => ?_)
  · have h10 : 0 ≤ z8 ∧ z8 ≤ 0 := (vc_X12_write_78 h9 h7.2.1 h7.2.2.1 hp1 h3 h7.1)
    have h11 : p1 < 0 ∨ z1 ≤ p1 := (h7.2.2.1 (vc_X12_write_79 h7.2.1 h7.2.2.1 h9 hp1 h3 h10))
    refine mr_iconst (pc := 35) (z := (-1)) dX11_right_35 ?_
    exact mr_iret dX11_right_36 rfl (le_t rfl) (le_t rfl) hT mF.refl ⟨(rW (c := (-2147483648)) (d := 2147483647) (rR (x := (-1))) rfl), trivial⟩
  have h12 : 1 ≤ z8 ∧ z8 ≤ 1 := (vc_X12_write_12 h9 h7.2.1 h7.2.2.1 hp1 h3 h7.1)
  have h13 : 0 ≤ p1 ∧ p1 < z1 := (h7.2.1 (vc_X12_write_13 h7.2.1 h7.2.2.1 h9 hp1 h3 h12))
  have h14 : 0 ≤ p1 ∧ p1 ≤ 9 := (vc_X12_write_14 h13 h7.2.1 h7.2.2.1 hp1 h3 h12)
  have h15 : 1 ≤ z1 ∧ z1 ≤ 10 := (vc_X12_write_15 h13 h7.2.1 h7.2.2.1 h14 h3 h12)
  refine sv_aload_n (pc := 8) dX11_right_8 rfl rfl ?_
  refine mr_iload_n (pc := 9) (z := p3) dX11_right_9 rfl rfl ?_
  obtain ⟨z16, q17⟩ : ∃ z, μ 6 15 = z := ⟨_, rfl⟩
  have h18 : (z16 = w.2.2.2 0 ∧ 0 ≤ z16 ∧ z16 ≤ 10) := by rw [← q17]; exact hT 6 6 (A_6 hw) 15
  refine mr_cVP (pc := 10) (c_X11_isDomain hw hT hp3 q17) (gOk _ _ _ _ _) dX11_right_10 (tX11_isDomain _ _ _ _ _) ⟨wV_X11_isDomain, wL_X11_isDomain⟩ wM_X11_105 (gCX11 _ _ _ _ _) rfl (A_0 hw) rfl ⟨le_t rfl, le_t rfl⟩ ⟨le_t rfl, le_t rfl⟩ rfl (le_t rfl) fun z23 h22 => ?_
  refine mr_if_eq (pc := 13) (tgt := 35) dX11_right_13 (by decide) (r32 h22.1 rfl) (fun h24 => ?_) (fun h24 => ?_)
  · have h25 : 0 ≤ z23 ∧ z23 ≤ 0 := (vc_X12_write_78 h24 h22.2.1 h22.2.2.1 hp3 h18.2 h22.1)
    have h26 : p3 < 0 ∨ z16 ≤ p3 := (h22.2.2.1 (vc_X11_picked_2 h22.2.1 h22.2.2.1 h24 h18.1 hp3 h18.2 h25))
    refine mr_iconst (pc := 35) (z := (-1)) dX11_right_35 ?_
    exact mr_iret dX11_right_36 rfl (le_t rfl) (le_t rfl) hT mF.refl ⟨(rW (c := (-2147483648)) (d := 2147483647) (rR (x := (-1))) rfl), trivial⟩
  have h27 : 1 ≤ z23 ∧ z23 ≤ 1 := (vc_X12_write_12 h24 h22.2.1 h22.2.2.1 hp3 h18.2 h22.1)
  have h28 : 0 ≤ p3 ∧ p3 < z16 := (h22.2.1 (vc_X11_picked_4 h22.2.1 h22.2.2.1 h24 h18.1 hp3 h18.2 h27))
  have h29 : 0 ≤ p3 ∧ p3 ≤ 9 := (vc_X11_picked_5 h28 h18.1 h22.2.1 h22.2.2.1 hp3 h18.2 h27)
  refine mr_iload_n (pc := 16) (z := p2) dX11_right_16 rfl rfl ?_
  refine sv_aload_n (pc := 17) dX11_right_17 rfl rfl ?_
  refine gf_X11_3 (pc := 18) dX11_right_18 wF_X11_26 (A_0 hw) hT ?_
  refine gf_X10_1 (pc := 21) dX11_right_21 wF_X11_185 (A_6 hw) hT ?_
  refine mr_iload_n (pc := 24) (z := p1) dX11_right_24 rfl rfl ?_
  refine la_8 (pc := 25) dX11_right_25 (A_8 hw) hT (rIx (n := 10) h14 rfl) fun z30 q31 h32 => ?_
  refine mr_icmp_lt (pc := 26) (tgt := 35) dX11_right_26 (by decide) hp2 (r32 h32 rfl) (fun h33 => ?_) (fun h33 => ?_)
  · have h34 : (-2147483648) ≤ p2 ∧ p2 ≤ 31 := (vc_X2_isSplit_12 h33 hp2 h32)
    refine mr_iconst (pc := 35) (z := (-1)) dX11_right_35 ?_
    exact mr_iret dX11_right_36 rfl (le_t rfl) (le_t rfl) hT mF.refl ⟨(rW (c := (-2147483648)) (d := 2147483647) (rR (x := (-1))) rfl), trivial⟩
  have h35 : 0 ≤ p2 ∧ p2 ≤ 2147483647 := (vc_X2_isSplit_11 h33 hp2 h32)
  refine mr_iload_n (pc := 29) (z := p2) dX11_right_29 rfl rfl ?_
  refine mr_bipush (pc := 30) (z := 32) dX11_right_30 (by decide) ?_
  refine mr_icmp_le (pc := 32) (tgt := 37) dX11_right_32 (by decide) (r32 h35 rfl) (r32 (rR (x := 32)) rfl) (fun h36 => ?_) (fun h36 => ?_)
  · have h37 : 0 ≤ p2 ∧ p2 ≤ 32 := (vc_X11_right_14 h36 h33 h35 h32)
    refine mr_iload (pc := 37) (z := p4) dX11_right_37 rfl ?_
    refine mr_if_lt (pc := 39) (tgt := 54) dX11_right_39 (by decide) hp4 (fun h38 => ?_) (fun h38 => ?_)
    · have h39 : (-2147483648) ≤ p4 ∧ p4 ≤ (-1) := (vc_X12_ring_60 h38 hp4)
      refine mr_iconst (pc := 54) (z := (-1)) dX11_right_54 ?_
      exact mr_iret dX11_right_55 rfl (le_t rfl) (le_t rfl) hT mF.refl ⟨(rW (c := (-2147483648)) (d := 2147483647) (rR (x := (-1))) rfl), trivial⟩
    have h40 : 0 ≤ p4 ∧ p4 ≤ 2147483647 := (vc_X12_ring_1 h38 hp4)
    refine mr_iload (pc := 42) (z := p5) dX11_right_42 rfl ?_
    refine mr_iload (pc := 44) (z := p4) dX11_right_44 rfl ?_
    refine mr_icmp_le (pc := 46) (tgt := 54) dX11_right_46 (by decide) hp5 (r32 h40 rfl) (fun h41 => ?_) (fun h41 => ?_)
    · refine mr_iconst (pc := 54) (z := (-1)) dX11_right_54 ?_
      exact mr_iret dX11_right_55 rfl (le_t rfl) (le_t rfl) hT mF.refl ⟨(rW (c := (-2147483648)) (d := 2147483647) (rR (x := (-1))) rfl), trivial⟩
    have h42 : 1 ≤ p5 ∧ p5 ≤ 2147483647 := (vc_X11_right_17 h41 h38 h40 hp5)
    have h43 : 0 ≤ p4 ∧ p4 ≤ 2147483646 := (vc_X11_right_18 h41 h38 h40 h42)
    refine mr_iload (pc := 49) (z := p6) dX11_right_49 rfl ?_
    refine mr_if_ge (pc := 51) (tgt := 56) dX11_right_51 (by decide) hp6 (fun h44 => ?_) (fun h44 => ?_)
    · have h45 : 0 ≤ p6 ∧ p6 ≤ 2147483647 := (vc_X12_ring_1 h44 hp6)
      refine sv_aload_n (pc := 56) dX11_right_56 rfl rfl ?_
      refine gf_X11_3 (pc := 57) dX11_right_57 wF_X11_26 (A_0 hw) hT ?_
      refine gf_X10_17 (pc := 60) dX11_right_60 wF_X11_188 (A_6 hw) hT fun z46 q47 h48 => ?_
      refine mr_bipush (pc := 63) (z := 30) dX11_right_63 (by decide) ?_
      refine mr_icmp_lt (pc := 65) (tgt := 71) dX11_right_65 (by decide) (r32 h48 rfl) (r32 (rR (x := 30)) rfl) (fun h49 => ?_) (fun h49 => ?_)
      · have h50 : 0 ≤ z46 ∧ z46 ≤ 29 := (vc_X11_right_20 h49 h48)
        refine sv_aload_n (pc := 71) dX11_right_71 rfl rfl ?_
        refine gf_X11_3 (pc := 72) dX11_right_72 wF_X11_26 (A_0 hw) hT ?_
        refine mr_iload_n (pc := 75) (z := p1) dX11_right_75 rfl rfl ?_
        refine mr_iload_n (pc := 76) (z := p2) dX11_right_76 rfl rfl ?_
        refine mr_iload_n (pc := 77) (z := p3) dX11_right_77 rfl rfl ?_
        refine mr_iload (pc := 78) (z := p4) dX11_right_78 rfl ?_
        refine mr_iload (pc := 80) (z := p5) dX11_right_80 rfl ?_
        refine mr_iload (pc := 82) (z := p6) dX11_right_82 rfl ?_
        refine mr_cVI (pc := 84) (c_X10_addRight hw hT h14 (rW (c := (-2147483648)) (d := 2147483647) h37 rfl) (rW (c := (-2147483648)) (d := 2147483647) h29 rfl) (rW (c := (-2147483648)) (d := 2147483647) h43 rfl) (rW (c := (-2147483648)) (d := 2147483647) h42 rfl) (rW (c := (-2147483648)) (d := 2147483647) h45 rfl) q47 (vc_X11_right_21 h49 h50)) (gOk _ _ _ _ _) dX11_right_84 (tX10_addRight _ _ _ _ _) ⟨wV_X10_addRight, wL_X10_addRight⟩ wM_X11_191 (gCX10 _ _ _ _ _) rfl (A_6 hw) rfl ⟨le_t rfl, le_t rfl⟩ ⟨le_t rfl, le_t rfl⟩ rfl (le_t rfl) fun z55 μ51 T52 F53 h54 => ?_
        refine mr_istore (pc := 87) (lv' := [(7, iv z55), (0, .ref 0), (1, iv p1), (2, iv p2), (3, iv p3), (4, iv p4), (5, iv p5), (6, iv p6)]) dX11_right_87 (by decide) rfl ?_
        refine sv_aload_n (pc := 89) dX11_right_89 rfl rfl ?_
        refine gf_X11_6 (pc := 90) dX11_right_90 wF_X11_51 (A_0 hw) T52 ?_
        refine mr_cVV (pc := 93) (c_X8_tellAllAnew hw T52 (PC.keep hIPC hw ((mF.call mF.refl F53 rfl) : mF [6017, 14999, 15999, 16999, 17999, 18999, 19999, 20999] w μ μ51) rfl)) (gOk _ _ _ _ _) dX11_right_93 (tX8_tellAllAnew _ _ _ _ _) ⟨wV_X8_tellAllAnew, wL_X8_tellAllAnew⟩ wM_X11_179 (gCX8 _ _ _ _ _) rfl (A_32 hw) rfl ⟨le_t rfl, le_t rfl⟩ ⟨le_t rfl, le_t rfl⟩ rfl (le_t rfl) fun μ56 T57 F58 h59 => ?_
        refine mr_iload (pc := 96) (z := z55) dX11_right_96 rfl ?_
        exact mr_iret dX11_right_98 rfl (le_t rfl) (le_t rfl) T57 (mF.call (mF.call mF.refl F53 rfl) F58 rfl) ⟨h54.1, trivial⟩
      have h60 : 30 ≤ z46 ∧ z46 ≤ 30 := (vc_X11_right_22 h49 h48)
      refine mr_bipush (pc := 68) (z := (-3)) dX11_right_68 (by decide) ?_
      exact mr_iret dX11_right_70 rfl (le_t rfl) (le_t rfl) hT mF.refl ⟨(rW (c := (-2147483648)) (d := 2147483647) (rR (x := (-3))) rfl), trivial⟩
    have h61 : (-2147483648) ≤ p6 ∧ p6 ≤ (-1) := (vc_X12_ring_60 h44 hp6)
    refine mr_iconst (pc := 54) (z := (-1)) dX11_right_54 ?_
    exact mr_iret dX11_right_55 rfl (le_t rfl) (le_t rfl) hT mF.refl ⟨(rW (c := (-2147483648)) (d := 2147483647) (rR (x := (-1))) rfl), trivial⟩
  have h62 : 33 ≤ p2 ∧ p2 ≤ 2147483647 := (vc_X11_right_24 h36 h33 h35 h32)
  refine mr_iconst (pc := 35) (z := (-1)) dX11_right_35 ?_
  exact mr_iret dX11_right_36 rfl (le_t rfl) (le_t rfl) hT mF.refl ⟨(rW (c := (-2147483648)) (d := 2147483647) (rR (x := (-1))) rfl), trivial⟩
theorem vc_X11_strike_3 {p1 z4 : Int} (h0 : p1 < z4) (h1 : 0 ≤ p1) (h2 : 0 ≤ p1 ∧ p1 ≤ 2147483647) (h3 : 0 ≤ z4 ∧ z4 ≤ 30) : 0 ≤ p1 ∧ p1 ≤ 29 := by omega
theorem vc_X11_strike_4 {p1 z4 : Int} (h0 : p1 < z4) (h1 : 0 ≤ p1) (h2 : 0 ≤ p1 ∧ p1 ≤ 29) (h3 : 0 ≤ z4 ∧ z4 ≤ 30) : 1 ≤ z4 ∧ z4 ≤ 30 := by omega
set_option maxRecDepth 4000 in
set_option maxHeartbeats 4000000 in
theorem c_X11_strike {l : Launch} {D : va_G} {c : Nat → ClassId} {H0 : Heap} {sa : Nat × Nat × (Nat → Int32)} {w : mW} {μ : mM} (hw : mWF w) (hT : mT w μ) {p1 : Int} (hp1 : (-2147483648) ≤ p1 ∧ p1 ≤ 2147483647) {p2 : Int} (hp2 : (-2147483648) ≤ p2 ∧ p2 ≤ 2147483647) (hIPC : PC w μ) : sC (gG l D c H0 sa) mX11_strike 44 0 0 [.ref 0, iv p1, iv p2] (mk w μ) (qI w [20999, 21002, 21003, 21004, 21005, 21006, 21007, 32009, 32010, 33999, 34999, 66999, 200002, 200003, 200004, 200005, 200006, 200007, 200008, 200009, 200010, 200011, 201999, 202999, 213999] μ (fun z μ1 => ((-2147483648) ≤ z ∧ z ≤ 2147483647) ∧ True)) := by
  refine sC.of rfl (by decide) (le_t rfl) ?_
  refine mr_lvE (lv' := [(0, .ref 0), (1, iv p1), (2, iv p2)]) rfl ?_
  refine mr_iload_n (pc := 0) (z := p1) dX11_strike_0 rfl rfl ?_
  refine mr_if_lt (pc := 1) (tgt := 28) dX11_strike_1 (by decide) hp1 (fun h1 => ?_) (fun h1 => ?_)
  · have h2 : (-2147483648) ≤ p1 ∧ p1 ≤ (-1) := (vc_X12_ring_60 h1 hp1)
    refine mr_iconst (pc := 28) (z := (-1)) dX11_strike_28 ?_
    exact mr_iret dX11_strike_29 rfl (le_t rfl) (le_t rfl) hT mF.refl ⟨(rW (c := (-2147483648)) (d := 2147483647) (rR (x := (-1))) rfl), trivial⟩
  have h3 : 0 ≤ p1 ∧ p1 ≤ 2147483647 := (vc_X12_ring_1 h1 hp1)
  refine mr_iload_n (pc := 4) (z := p1) dX11_strike_4 rfl rfl ?_
  refine sv_aload_n (pc := 5) dX11_strike_5 rfl rfl ?_
  refine gf_X11_3 (pc := 6) dX11_strike_6 wF_X11_26 (A_0 hw) hT ?_
  refine gf_X10_17 (pc := 9) dX11_strike_9 wF_X11_188 (A_6 hw) hT fun z4 q5 h6 => ?_
  refine mr_icmp_ge (pc := 12) (tgt := 28) dX11_strike_12 (by decide) (r32 h3 rfl) (r32 h6 rfl) (fun h7 => ?_) (fun h7 => ?_)
  · refine mr_iconst (pc := 28) (z := (-1)) dX11_strike_28 ?_
    exact mr_iret dX11_strike_29 rfl (le_t rfl) (le_t rfl) hT mF.refl ⟨(rW (c := (-2147483648)) (d := 2147483647) (rR (x := (-1))) rfl), trivial⟩
  have h8 : 0 ≤ p1 ∧ p1 ≤ 29 := (vc_X11_strike_3 h7 h1 h3 h6)
  have h9 : 1 ≤ z4 ∧ z4 ≤ 30 := (vc_X11_strike_4 h7 h1 h8 h6)
  refine mr_iload_n (pc := 15) (z := p2) dX11_strike_15 rfl rfl ?_
  refine sv_aload_n (pc := 16) dX11_strike_16 rfl rfl ?_
  refine gf_X11_3 (pc := 17) dX11_strike_17 wF_X11_26 (A_0 hw) hT ?_
  refine gf_X10_12 (pc := 20) dX11_strike_20 wF_X11_195 (A_6 hw) hT ?_
  refine mr_iload_n (pc := 23) (z := p1) dX11_strike_23 rfl rfl ?_
  refine la_19 (pc := 24) dX11_strike_24 (A_19 hw) hT (rIx (n := 30) h8 rfl) fun z10 q11 h12 => ?_
  refine mr_icmp_ge (pc := 25) (tgt := 30) dX11_strike_25 (by decide) hp2 h12 (fun h13 => ?_) (fun h13 => ?_)
  · refine sv_aload_n (pc := 30) dX11_strike_30 rfl rfl ?_
    refine gf_X11_3 (pc := 31) dX11_strike_31 wF_X11_26 (A_0 hw) hT ?_
    refine gf_X10_13 (pc := 34) dX11_strike_34 wF_X11_198 (A_6 hw) hT ?_
    refine mr_iload_n (pc := 37) (z := p1) dX11_strike_37 rfl rfl ?_
    refine la_20 (pc := 38) dX11_strike_38 (A_20 hw) hT (rIx (n := 30) h8 rfl) fun z14 q15 h16 => ?_
    refine mr_iconst (pc := 39) (z := (-1)) dX11_strike_39 ?_
    refine mr_icmp_eq (pc := 40) (tgt := 46) dX11_strike_40 (by decide) h16 (r32 (rR (x := (-1))) rfl) (fun h17 => ?_) (fun h17 => ?_)
    · have h18 : (-1) ≤ z14 ∧ z14 ≤ (-1) := (vc_X10_verdictOn_17 h17 h16)
      refine sv_aload_n (pc := 46) dX11_strike_46 rfl rfl ?_
      refine gf_X11_3 (pc := 47) dX11_strike_47 wF_X11_26 (A_0 hw) hT ?_
      refine gf_X10_13 (pc := 50) dX11_strike_50 wF_X11_198 (A_6 hw) hT ?_
      refine mr_iload_n (pc := 53) (z := p1) dX11_strike_53 rfl rfl ?_
      refine mr_iload_n (pc := 54) (z := p2) dX11_strike_54 rfl rfl ?_
      refine ss_20 (pc := 55) dX11_strike_55 (A_20 hw) hT (rIx (n := 30) h8 rfl) hp2 fun μ19 u20 T21 => ?_
      refine sv_aload_n (pc := 56) dX11_strike_56 rfl rfl ?_
      refine gf_X11_6 (pc := 57) dX11_strike_57 wF_X11_51 (A_0 hw) T21 ?_
      refine mr_cVV (pc := 60) (c_X8_tellAllAnew hw T21 (PC.keep hIPC hw ((mF.up mF.refl (A_20 hw) u20 rfl) : mF [20999] w μ μ19) rfl)) (gOk _ _ _ _ _) dX11_strike_60 (tX8_tellAllAnew _ _ _ _ _) ⟨wV_X8_tellAllAnew, wL_X8_tellAllAnew⟩ wM_X11_179 (gCX8 _ _ _ _ _) rfl (A_32 hw) rfl ⟨le_t rfl, le_t rfl⟩ ⟨le_t rfl, le_t rfl⟩ rfl (le_t rfl) fun μ22 T23 F24 h25 => ?_
      refine mr_iconst (pc := 63) (z := 0) dX11_strike_63 ?_
      exact mr_iret dX11_strike_64 rfl (le_t rfl) (le_t rfl) T23 (mF.call (mF.up mF.refl (A_20 hw) u20 rfl) F24 rfl) ⟨(rW (c := (-2147483648)) (d := 2147483647) (rR (x := 0)) rfl), trivial⟩
    refine mr_bipush (pc := 43) (z := (-2)) dX11_strike_43 (by decide) ?_
    exact mr_iret dX11_strike_45 rfl (le_t rfl) (le_t rfl) hT mF.refl ⟨(rW (c := (-2147483648)) (d := 2147483647) (rR (x := (-2))) rfl), trivial⟩
  have h26 : (-2147483648) ≤ p2 ∧ p2 ≤ 2147483646 := (vc_X12_in_1 h13 hp2 h12)
  have h27 : (-2147483647) ≤ z10 ∧ z10 ≤ 2147483647 := (vc_X12_in_2 h13 h26 h12)
  refine mr_iconst (pc := 28) (z := (-1)) dX11_strike_28 ?_
  exact mr_iret dX11_strike_29 rfl (le_t rfl) (le_t rfl) hT mF.refl ⟨(rW (c := (-2147483648)) (d := 2147483647) (rR (x := (-1))) rfl), trivial⟩
theorem vc_X11_rule_7 {p2 z20 : Int} (h0 : ¬ z20 = 0) (h1 : (z20 = 1 → p2 ≤ 999999)) (h2 : (z20 = 1 → 0 ≤ p2)) (h3 : (-2147483648) ≤ p2 ∧ p2 ≤ 2147483647) (h4 : 0 ≤ z20 ∧ z20 ≤ 1) : 1 ≤ z20 ∧ z20 ≤ 1 := by omega
theorem vc_X11_rule_8 {p2 z20 : Int} (h0 : (z20 = 1 → p2 ≤ 999999)) (h1 : (z20 = 1 → 0 ≤ p2)) (h2 : ¬ z20 = 0) (h3 : (-2147483648) ≤ p2 ∧ p2 ≤ 2147483647) (h4 : 1 ≤ z20 ∧ z20 ≤ 1) : z20 = 1 := by omega
theorem vc_X11_rule_9 {p2 z20 : Int} (h0 : p2 ≤ 999999) (h1 : (z20 = 1 → p2 ≤ 999999)) (h2 : (z20 = 1 → 0 ≤ p2)) (h3 : (-2147483648) ≤ p2 ∧ p2 ≤ 2147483647) (h4 : 1 ≤ z20 ∧ z20 ≤ 1) : (-2147483648) ≤ p2 ∧ p2 ≤ 999999 := by omega
theorem vc_X11_rule_10 {p2 z20 : Int} (h0 : (z20 = 1 → p2 ≤ 999999)) (h1 : (z20 = 1 → 0 ≤ p2)) (h2 : ¬ z20 = 0) (h3 : p2 ≤ 999999) (h4 : (-2147483648) ≤ p2 ∧ p2 ≤ 999999) (h5 : 1 ≤ z20 ∧ z20 ≤ 1) : z20 = 1 := by omega
theorem vc_X11_rule_11 {p2 z20 : Int} (h0 : 0 ≤ p2) (h1 : (z20 = 1 → p2 ≤ 999999)) (h2 : (z20 = 1 → 0 ≤ p2)) (h3 : p2 ≤ 999999) (h4 : (-2147483648) ≤ p2 ∧ p2 ≤ 999999) (h5 : 1 ≤ z20 ∧ z20 ≤ 1) : 0 ≤ p2 ∧ p2 ≤ 999999 := by omega
theorem vc_X11_rule_13 {p2 z20 : Int} (h0 : z20 = 0) (h1 : (z20 = 1 → p2 ≤ 999999)) (h2 : (z20 = 1 → 0 ≤ p2)) (h3 : (-2147483648) ≤ p2 ∧ p2 ≤ 2147483647) (h4 : 0 ≤ z20 ∧ z20 ≤ 1) : 0 ≤ z20 ∧ z20 ≤ 0 := by omega
set_option maxRecDepth 4000 in
set_option maxHeartbeats 4000000 in
theorem c_X11_rule {l : Launch} {D : va_G} {c : Nat → ClassId} {H0 : Heap} {sa : Nat × Nat × (Nat → Int32)} {w : mW} {μ : mM} (hw : mWF w) (hT : mT w μ) {p1 : Int} (hp1 : (-2147483648) ≤ p1 ∧ p1 ≤ 2147483647) {p2 : Int} (hp2 : (-2147483648) ≤ p2 ∧ p2 ≤ 2147483647) {p3 : Int} (hp3 : 0 ≤ p3 ∧ p3 ≤ 1) (hIPC : PC w μ) : sC (gG l D c H0 sa) mX11_rule 44 0 0 [.ref 0, iv p1, iv p2, iv p3] (mk w μ) (qI w [21002, 21003, 21004, 21005, 21006, 21007, 32009, 32010, 33999, 34999, 66999, 200002, 200003, 200004, 200005, 200006, 200007, 200008, 200009, 200010, 200011, 201999, 202999, 210004, 210005, 211999, 213999] μ (fun z μ1 => ((-2147483648) ≤ z ∧ z ≤ 2147483647) ∧ True)) := by
  refine sC.of rfl (by decide) (le_t rfl) ?_
  refine mr_lvE (lv' := [(0, .ref 0), (1, iv p1), (2, iv p2), (3, iv p3)]) rfl ?_
  refine sv_aload_n (pc := 0) dX11_rule_0 rfl rfl ?_
  refine mr_iload_n (pc := 1) (z := p1) dX11_rule_1 rfl rfl ?_
  obtain ⟨z1, q2⟩ : ∃ z, μ 6 15 = z := ⟨_, rfl⟩
  have h3 : (z1 = w.2.2.2 0 ∧ 0 ≤ z1 ∧ z1 ≤ 10) := by rw [← q2]; exact hT 6 6 (A_6 hw) 15
  refine mr_cVP (pc := 2) (c_X11_isDomain hw hT hp1 q2) (gOk _ _ _ _ _) dX11_rule_2 (tX11_isDomain _ _ _ _ _) ⟨wV_X11_isDomain, wL_X11_isDomain⟩ wM_X11_105 (gCX11 _ _ _ _ _) rfl (A_0 hw) rfl ⟨le_t rfl, le_t rfl⟩ ⟨le_t rfl, le_t rfl⟩ rfl (le_t rfl) fun z8 h7 => ?_
  refine mr_if_eq (pc := 5) (tgt := 15) dX11_rule_5 (by decide) (r32 h7.1 rfl) (fun h9 => ?_) (fun h9 => ?_)
  · have h10 : 0 ≤ z8 ∧ z8 ≤ 0 := (vc_X12_write_78 h9 h7.2.1 h7.2.2.1 hp1 h3.2 h7.1)
    have h11 : p1 < 0 ∨ z1 ≤ p1 := (h7.2.2.1 (vc_X11_picked_2 h7.2.1 h7.2.2.1 h9 h3.1 hp1 h3.2 h10))
    refine mr_iconst (pc := 15) (z := (-1)) dX11_rule_15 ?_
    exact mr_iret dX11_rule_16 rfl (le_t rfl) (le_t rfl) hT mF.refl ⟨(rW (c := (-2147483648)) (d := 2147483647) (rR (x := (-1))) rfl), trivial⟩
  have h12 : 1 ≤ z8 ∧ z8 ≤ 1 := (vc_X12_write_12 h9 h7.2.1 h7.2.2.1 hp1 h3.2 h7.1)
  have h13 : 0 ≤ p1 ∧ p1 < z1 := (h7.2.1 (vc_X11_picked_4 h7.2.1 h7.2.2.1 h9 h3.1 hp1 h3.2 h12))
  have h14 : 0 ≤ p1 ∧ p1 ≤ 9 := (vc_X11_picked_5 h13 h3.1 h7.2.1 h7.2.2.1 hp1 h3.2 h12)
  have h15 : 1 ≤ z1 ∧ z1 ≤ 10 := (vc_X11_picked_6 h13 h3.1 h7.2.1 h7.2.2.1 h14 h3.2 h12)
  refine mr_iload_n (pc := 8) (z := p2) dX11_rule_8 rfl rfl ?_
  refine mr_cSP (pc := 9) (c_X11_isRule hw hT hp2) (gOk _ _ _ _ _) dX11_rule_9 (tX11_isRule _ _ _ _ _) wS_X11_isRule wM_X11_280 ⟨le_t rfl, le_t rfl⟩ ⟨le_t rfl, le_t rfl⟩ rfl (le_t rfl) fun z20 h19 => ?_
  refine mr_if_ne (pc := 12) (tgt := 17) dX11_rule_12 (by decide) (r32 h19.1 rfl) (fun h21 => ?_) (fun h21 => ?_)
  · have h22 : 1 ≤ z20 ∧ z20 ≤ 1 := (vc_X11_rule_7 h21 h19.2.1 h19.2.2.1 hp2 h19.1)
    have h23 : p2 ≤ 999999 := (h19.2.1 (vc_X11_rule_8 h19.2.1 h19.2.2.1 h21 hp2 h22))
    have h24 : (-2147483648) ≤ p2 ∧ p2 ≤ 999999 := (vc_X11_rule_9 h23 h19.2.1 h19.2.2.1 hp2 h22)
    have h25 : 0 ≤ p2 := (h19.2.2.1 (vc_X11_rule_10 h19.2.1 h19.2.2.1 h21 h23 h24 h22))
    have h26 : 0 ≤ p2 ∧ p2 ≤ 999999 := (vc_X11_rule_11 h25 h19.2.1 h19.2.2.1 h23 h24 h22)
    refine sv_aload_n (pc := 17) dX11_rule_17 rfl rfl ?_
    refine gf_X11_3 (pc := 18) dX11_rule_18 wF_X11_26 (A_0 hw) hT ?_
    refine gf_X10_3 (pc := 21) dX11_rule_21 wF_X11_283 (A_6 hw) hT ?_
    refine mr_iload_n (pc := 24) (z := p1) dX11_rule_24 rfl rfl ?_
    refine la_10 (pc := 25) dX11_rule_25 (A_10 hw) hT (rIx (n := 10) h14 rfl) (vc_X11_picked_10 h3.1 h7.2.1 h7.2.2.1 h13 h9 h14 h15 h12) fun b27 q28 A29 => ?_
    refine mr_iload_n (pc := 26) (z := p2) dX11_rule_26 rfl rfl ?_
    refine mr_iload_n (pc := 27) (z := p3) dX11_rule_27 rfl rfl ?_
    refine mr_cVV (pc := 28) (c_X0_goBy hw hT A29 h26 hp3) (gOk _ _ _ _ _) dX11_rule_28 (tX0_goBy _ _ _ _ _) ⟨wV_X0_goBy, wL_X0_goBy⟩ wM_X11_287 (gCX0 _ _ _ _ _) rfl A29 rfl ⟨le_t rfl, le_t rfl⟩ ⟨le_t rfl, le_t rfl⟩ rfl (le_t rfl) fun μ30 T31 F32 h33 => ?_
    refine sv_aload_n (pc := 31) dX11_rule_31 rfl rfl ?_
    refine gf_X11_6 (pc := 32) dX11_rule_32 wF_X11_51 (A_0 hw) T31 ?_
    refine mr_iload_n (pc := 35) (z := p1) dX11_rule_35 rfl rfl ?_
    refine mr_cVV (pc := 36) (c_X8_lookAtAll hw T31 h14 (vc_X11_picked_10 h3.1 h7.2.1 h7.2.2.1 h13 h9 h14 h15 h12) (PC.keep hIPC hw ((mF.call mF.refl F32 rfl) : mF [210004, 210005, 211999] w μ μ30) rfl)) (gOk _ _ _ _ _) dX11_rule_36 (tX8_lookAtAll _ _ _ _ _) ⟨wV_X8_lookAtAll, wL_X8_lookAtAll⟩ wM_X11_148 (gCX8 _ _ _ _ _) rfl (A_32 hw) rfl ⟨le_t rfl, le_t rfl⟩ ⟨le_t rfl, le_t rfl⟩ rfl (le_t rfl) fun μ34 T35 F36 h37 => ?_
    refine mr_iconst (pc := 39) (z := 0) dX11_rule_39 ?_
    exact mr_iret dX11_rule_40 rfl (le_t rfl) (le_t rfl) T35 (mF.call (mF.call mF.refl F32 rfl) F36 rfl) ⟨(rW (c := (-2147483648)) (d := 2147483647) (rR (x := 0)) rfl), trivial⟩
  have h38 : 0 ≤ z20 ∧ z20 ≤ 0 := (vc_X11_rule_13 h21 h19.2.1 h19.2.2.1 hp2 h19.1)
  refine mr_iconst (pc := 15) (z := (-1)) dX11_rule_15 ?_
  exact mr_iret dX11_rule_16 rfl (le_t rfl) (le_t rfl) hT mF.refl ⟨(rW (c := (-2147483648)) (d := 2147483647) (rR (x := (-1))) rfl), trivial⟩
theorem vc_X11_announce_16 {p3 z39 : Int} (h0 : z39 = p3) (h1 : 0 ≤ p3) (h2 : p3 ≤ 2) (h3 : 0 ≤ p3 ∧ p3 ≤ 2) (h4 : (-1) ≤ z39 ∧ z39 ≤ 2) : 0 ≤ z39 ∧ z39 ≤ 2 := by omega
set_option maxRecDepth 4000 in
set_option maxHeartbeats 4000000 in
theorem c_X11_announce {l : Launch} {D : va_G} {c : Nat → ClassId} {H0 : Heap} {sa : Nat × Nat × (Nat → Int32)} {w : mW} {μ : mM} (hw : mWF w) (hT : mT w μ) {p1 : Int} (hp1 : (-2147483648) ≤ p1 ∧ p1 ≤ 2147483647) {p2 : Int} (hp2 : (-2147483648) ≤ p2 ∧ p2 ≤ 2147483647) {p3 : Int} (hp3 : (-2147483648) ≤ p3 ∧ p3 ≤ 2147483647) (hIPC : PC w μ) : sC (gG l D c H0 sa) mX11_announce 43 0 0 [.ref 0, iv p1, iv p2, iv p3] (mk w μ) (qI w [21002, 21003, 21004, 21005, 21006, 21007, 32009, 32010, 33999, 34999, 66999, 200002, 200003, 200004, 200005, 200006, 200007, 200008, 200009, 200010, 200011, 201999, 202999, 212999, 213999] μ (fun z μ1 => ((-2147483648) ≤ z ∧ z ≤ 2147483647) ∧ True)) := by
  refine sC.of rfl (by decide) (le_t rfl) ?_
  refine mr_lvE (lv' := [(0, .ref 0), (1, iv p1), (2, iv p2), (3, iv p3)]) rfl ?_
  refine sv_aload_n (pc := 0) dX11_announce_0 rfl rfl ?_
  refine mr_iload_n (pc := 1) (z := p1) dX11_announce_1 rfl rfl ?_
  obtain ⟨z1, q2⟩ : ∃ z, μ 6 15 = z := ⟨_, rfl⟩
  have h3 : (z1 = w.2.2.2 0 ∧ 0 ≤ z1 ∧ z1 ≤ 10) := by rw [← q2]; exact hT 6 6 (A_6 hw) 15
  refine mr_cVP (pc := 2) (c_X11_isDomain hw hT hp1 q2) (gOk _ _ _ _ _) dX11_announce_2 (tX11_isDomain _ _ _ _ _) ⟨wV_X11_isDomain, wL_X11_isDomain⟩ wM_X11_105 (gCX11 _ _ _ _ _) rfl (A_0 hw) rfl ⟨le_t rfl, le_t rfl⟩ ⟨le_t rfl, le_t rfl⟩ rfl (le_t rfl) fun z8 h7 => ?_
  refine mr_if_eq (pc := 5) (tgt := 25) dX11_announce_5 (by decide) (r32 h7.1 rfl) (fun h9 => ?_) (fun h9 => ?_)
  · have h10 : 0 ≤ z8 ∧ z8 ≤ 0 := (vc_X12_write_78 h9 h7.2.1 h7.2.2.1 hp1 h3.2 h7.1)
    have h11 : p1 < 0 ∨ z1 ≤ p1 := (h7.2.2.1 (vc_X11_picked_2 h7.2.1 h7.2.2.1 h9 h3.1 hp1 h3.2 h10))
    refine mr_iconst (pc := 25) (z := (-1)) dX11_announce_25 ?_
    exact mr_iret dX11_announce_26 rfl (le_t rfl) (le_t rfl) hT mF.refl ⟨(rW (c := (-2147483648)) (d := 2147483647) (rR (x := (-1))) rfl), trivial⟩
  have h12 : 1 ≤ z8 ∧ z8 ≤ 1 := (vc_X12_write_12 h9 h7.2.1 h7.2.2.1 hp1 h3.2 h7.1)
  have h13 : 0 ≤ p1 ∧ p1 < z1 := (h7.2.1 (vc_X11_picked_4 h7.2.1 h7.2.2.1 h9 h3.1 hp1 h3.2 h12))
  have h14 : 0 ≤ p1 ∧ p1 ≤ 9 := (vc_X11_picked_5 h13 h3.1 h7.2.1 h7.2.2.1 hp1 h3.2 h12)
  have h15 : 1 ≤ z1 ∧ z1 ≤ 10 := (vc_X11_picked_6 h13 h3.1 h7.2.1 h7.2.2.1 h14 h3.2 h12)
  refine sv_aload_n (pc := 8) dX11_announce_8 rfl rfl ?_
  refine mr_iload_n (pc := 9) (z := p2) dX11_announce_9 rfl rfl ?_
  obtain ⟨z16, q17⟩ : ∃ z, μ 6 14 = z := ⟨_, rfl⟩
  have h18 : (0 ≤ z16 ∧ z16 ≤ 10) := by rw [← q17]; exact hT 6 6 (A_6 hw) 14
  refine mr_cVP (pc := 10) (c_X11_isPrefix hw hT hp2 q17) (gOk _ _ _ _ _) dX11_announce_10 (tX11_isPrefix _ _ _ _ _) ⟨wV_X11_isPrefix, wL_X11_isPrefix⟩ wM_X11_182 (gCX11 _ _ _ _ _) rfl (A_0 hw) rfl ⟨le_t rfl, le_t rfl⟩ ⟨le_t rfl, le_t rfl⟩ rfl (le_t rfl) fun z23 h22 => ?_
  refine mr_if_eq (pc := 13) (tgt := 25) dX11_announce_13 (by decide) (r32 h22.1 rfl) (fun h24 => ?_) (fun h24 => ?_)
  · have h25 : 0 ≤ z23 ∧ z23 ≤ 0 := (vc_X12_write_78 h24 h22.2.1 h22.2.2.1 hp2 h18 h22.1)
    have h26 : p2 < 0 ∨ z16 ≤ p2 := (h22.2.2.1 (vc_X12_write_79 h22.2.1 h22.2.2.1 h24 hp2 h18 h25))
    refine mr_iconst (pc := 25) (z := (-1)) dX11_announce_25 ?_
    exact mr_iret dX11_announce_26 rfl (le_t rfl) (le_t rfl) hT mF.refl ⟨(rW (c := (-2147483648)) (d := 2147483647) (rR (x := (-1))) rfl), trivial⟩
  have h27 : 1 ≤ z23 ∧ z23 ≤ 1 := (vc_X12_write_12 h24 h22.2.1 h22.2.2.1 hp2 h18 h22.1)
  have h28 : 0 ≤ p2 ∧ p2 < z16 := (h22.2.1 (vc_X12_write_13 h22.2.1 h22.2.2.1 h24 hp2 h18 h27))
  have h29 : 0 ≤ p2 ∧ p2 ≤ 9 := (vc_X12_write_14 h28 h22.2.1 h22.2.2.1 hp2 h18 h27)
  refine mr_iload_n (pc := 16) (z := p3) dX11_announce_16 rfl rfl ?_
  refine mr_if_lt (pc := 17) (tgt := 25) dX11_announce_17 (by decide) hp3 (fun h30 => ?_) (fun h30 => ?_)
  · have h31 : (-2147483648) ≤ p3 ∧ p3 ≤ (-1) := (vc_X12_ring_60 h30 hp3)
    refine mr_iconst (pc := 25) (z := (-1)) dX11_announce_25 ?_
    exact mr_iret dX11_announce_26 rfl (le_t rfl) (le_t rfl) hT mF.refl ⟨(rW (c := (-2147483648)) (d := 2147483647) (rR (x := (-1))) rfl), trivial⟩
  have h32 : 0 ≤ p3 ∧ p3 ≤ 2147483647 := (vc_X12_ring_1 h30 hp3)
  refine mr_iload_n (pc := 20) (z := p3) dX11_announce_20 rfl rfl ?_
  refine mr_iconst (pc := 21) (z := 2) dX11_announce_21 ?_
  refine mr_icmp_le (pc := 22) (tgt := 27) dX11_announce_22 (by decide) (r32 h32 rfl) (r32 (rR (x := 2)) rfl) (fun h33 => ?_) (fun h33 => ?_)
  · have h34 : 0 ≤ p3 ∧ p3 ≤ 2 := (vc_X11_route_13 h33 h30 h32)
    refine sv_aload_n (pc := 27) dX11_announce_27 rfl rfl ?_
    refine gf_X11_3 (pc := 28) dX11_announce_28 wF_X11_26 (A_0 hw) hT ?_
    refine gf_X10_3 (pc := 31) dX11_announce_31 wF_X11_283 (A_6 hw) hT ?_
    refine mr_iload_n (pc := 34) (z := p1) dX11_announce_34 rfl rfl ?_
    refine la_10 (pc := 35) dX11_announce_35 (A_10 hw) hT (rIx (n := 10) h14 rfl) (vc_X11_picked_10 h3.1 h7.2.1 h7.2.2.1 h13 h9 h14 h15 h12) fun b35 q36 A37 => ?_
    refine gf_X0_1 (pc := 36) dX11_announce_36 wF_X11_293 A37 hT fun A38 => ?_
    refine mr_iload_n (pc := 39) (z := p2) dX11_announce_39 rfl rfl ?_
    refine la_212 (pc := 40) dX11_announce_40 A38 hT (rIx (n := 10) h29 rfl) fun z39 q40 h41 => ?_
    refine mr_iload_n (pc := 41) (z := p3) dX11_announce_41 rfl rfl ?_
    refine mr_icmp_ne (pc := 42) (tgt := 48) dX11_announce_42 (by decide) (r32 h41 rfl) (r32 h34 rfl) (fun h42 => ?_) (fun h42 => ?_)
    · refine sv_aload_n (pc := 48) dX11_announce_48 rfl rfl ?_
      refine gf_X11_3 (pc := 49) dX11_announce_49 wF_X11_26 (A_0 hw) hT ?_
      refine gf_X10_3 (pc := 52) dX11_announce_52 wF_X11_283 (A_6 hw) hT ?_
      refine mr_iload_n (pc := 55) (z := p1) dX11_announce_55 rfl rfl ?_
      refine lk_10 (pc := 56) dX11_announce_56 (A_10 hw) (rIx (n := 10) h14 rfl) q36 ?_
      refine gf_X0_1 (pc := 57) dX11_announce_57 wF_X11_293 A37 hT fun A43 => ?_
      refine mr_iload_n (pc := 60) (z := p2) dX11_announce_60 rfl rfl ?_
      refine mr_iload_n (pc := 61) (z := p3) dX11_announce_61 rfl rfl ?_
      refine ss_212 (pc := 62) dX11_announce_62 A43 hT (rIx (n := 10) h29 rfl) (rW (c := (-1)) (d := 2) h34 rfl) fun μ44 u45 T46 => ?_
      refine sv_aload_n (pc := 63) dX11_announce_63 rfl rfl ?_
      refine gf_X11_6 (pc := 64) dX11_announce_64 wF_X11_51 (A_0 hw) T46 ?_
      refine mr_iload_n (pc := 67) (z := p1) dX11_announce_67 rfl rfl ?_
      refine mr_iload_n (pc := 68) (z := p2) dX11_announce_68 rfl rfl ?_
      refine mr_cVV (pc := 69) (c_X8_look hw T46 h14 h29 (vc_X11_picked_10 h3.1 h7.2.1 h7.2.2.1 h13 h9 h14 h15 h12) (PC.keep hIPC hw ((mF.up mF.refl A43 u45 rfl) : mF [212999] w μ μ44) rfl)) (gOk _ _ _ _ _) dX11_announce_69 (tX8_look _ _ _ _ _) ⟨wV_X8_look, wL_X8_look⟩ wM_X11_296 (gCX8 _ _ _ _ _) rfl (A_32 hw) rfl ⟨le_t rfl, le_t rfl⟩ ⟨le_t rfl, le_t rfl⟩ rfl (le_t rfl) fun μ47 T48 F49 h50 => ?_
      refine mr_iconst (pc := 72) (z := 0) dX11_announce_72 ?_
      exact mr_iret dX11_announce_73 rfl (le_t rfl) (le_t rfl) T48 (mF.call (mF.up mF.refl A43 u45 rfl) F49 rfl) ⟨(rW (c := (-2147483648)) (d := 2147483647) (rR (x := 0)) rfl), trivial⟩
    have h51 : 0 ≤ z39 ∧ z39 ≤ 2 := (vc_X11_announce_16 h42 h30 h33 h34 h41)
    refine mr_bipush (pc := 45) (z := (-2)) dX11_announce_45 (by decide) ?_
    exact mr_iret dX11_announce_47 rfl (le_t rfl) (le_t rfl) hT mF.refl ⟨(rW (c := (-2147483648)) (d := 2147483647) (rR (x := (-2))) rfl), trivial⟩
  have h52 : 3 ≤ p3 ∧ p3 ≤ 2147483647 := (vc_X11_route_12 h33 h30 h32)
  refine mr_iconst (pc := 25) (z := (-1)) dX11_announce_25 ?_
  exact mr_iret dX11_announce_26 rfl (le_t rfl) (le_t rfl) hT mF.refl ⟨(rW (c := (-2147483648)) (d := 2147483647) (rR (x := (-1))) rfl), trivial⟩
set_option maxRecDepth 4000 in
set_option maxHeartbeats 4000000 in
theorem c_X11_withdraw {l : Launch} {D : va_G} {c : Nat → ClassId} {H0 : Heap} {sa : Nat × Nat × (Nat → Int32)} {w : mW} {μ : mM} (hw : mWF w) (hT : mT w μ) {p1 : Int} (hp1 : (-2147483648) ≤ p1 ∧ p1 ≤ 2147483647) {p2 : Int} (hp2 : (-2147483648) ≤ p2 ∧ p2 ≤ 2147483647) (hIPC : PC w μ) : sC (gG l D c H0 sa) mX11_withdraw 43 0 0 [.ref 0, iv p1, iv p2] (mk w μ) (qI w [21002, 21003, 21004, 21005, 21006, 21007, 32009, 32010, 33999, 34999, 66999, 200002, 200003, 200004, 200005, 200006, 200007, 200008, 200009, 200010, 200011, 201999, 202999, 212999, 213999] μ (fun z μ1 => ((-2147483648) ≤ z ∧ z ≤ 2147483647) ∧ True)) := by
  refine sC.of rfl (by decide) (le_t rfl) ?_
  refine mr_lvE (lv' := [(0, .ref 0), (1, iv p1), (2, iv p2)]) rfl ?_
  refine sv_aload_n (pc := 0) dX11_withdraw_0 rfl rfl ?_
  refine mr_iload_n (pc := 1) (z := p1) dX11_withdraw_1 rfl rfl ?_
  obtain ⟨z1, q2⟩ : ∃ z, μ 6 15 = z := ⟨_, rfl⟩
  have h3 : (z1 = w.2.2.2 0 ∧ 0 ≤ z1 ∧ z1 ≤ 10) := by rw [← q2]; exact hT 6 6 (A_6 hw) 15
  refine mr_cVP (pc := 2) (c_X11_isDomain hw hT hp1 q2) (gOk _ _ _ _ _) dX11_withdraw_2 (tX11_isDomain _ _ _ _ _) ⟨wV_X11_isDomain, wL_X11_isDomain⟩ wM_X11_105 (gCX11 _ _ _ _ _) rfl (A_0 hw) rfl ⟨le_t rfl, le_t rfl⟩ ⟨le_t rfl, le_t rfl⟩ rfl (le_t rfl) fun z8 h7 => ?_
  refine mr_if_eq (pc := 5) (tgt := 16) dX11_withdraw_5 (by decide) (r32 h7.1 rfl) (fun h9 => ?_) (fun h9 => ?_)
  · have h10 : 0 ≤ z8 ∧ z8 ≤ 0 := (vc_X12_write_78 h9 h7.2.1 h7.2.2.1 hp1 h3.2 h7.1)
    have h11 : p1 < 0 ∨ z1 ≤ p1 := (h7.2.2.1 (vc_X11_picked_2 h7.2.1 h7.2.2.1 h9 h3.1 hp1 h3.2 h10))
    refine mr_iconst (pc := 16) (z := (-1)) dX11_withdraw_16 ?_
    exact mr_iret dX11_withdraw_17 rfl (le_t rfl) (le_t rfl) hT mF.refl ⟨(rW (c := (-2147483648)) (d := 2147483647) (rR (x := (-1))) rfl), trivial⟩
  have h12 : 1 ≤ z8 ∧ z8 ≤ 1 := (vc_X12_write_12 h9 h7.2.1 h7.2.2.1 hp1 h3.2 h7.1)
  have h13 : 0 ≤ p1 ∧ p1 < z1 := (h7.2.1 (vc_X11_picked_4 h7.2.1 h7.2.2.1 h9 h3.1 hp1 h3.2 h12))
  have h14 : 0 ≤ p1 ∧ p1 ≤ 9 := (vc_X11_picked_5 h13 h3.1 h7.2.1 h7.2.2.1 hp1 h3.2 h12)
  have h15 : 1 ≤ z1 ∧ z1 ≤ 10 := (vc_X11_picked_6 h13 h3.1 h7.2.1 h7.2.2.1 h14 h3.2 h12)
  refine sv_aload_n (pc := 8) dX11_withdraw_8 rfl rfl ?_
  refine mr_iload_n (pc := 9) (z := p2) dX11_withdraw_9 rfl rfl ?_
  obtain ⟨z16, q17⟩ : ∃ z, μ 6 14 = z := ⟨_, rfl⟩
  have h18 : (0 ≤ z16 ∧ z16 ≤ 10) := by rw [← q17]; exact hT 6 6 (A_6 hw) 14
  refine mr_cVP (pc := 10) (c_X11_isPrefix hw hT hp2 q17) (gOk _ _ _ _ _) dX11_withdraw_10 (tX11_isPrefix _ _ _ _ _) ⟨wV_X11_isPrefix, wL_X11_isPrefix⟩ wM_X11_182 (gCX11 _ _ _ _ _) rfl (A_0 hw) rfl ⟨le_t rfl, le_t rfl⟩ ⟨le_t rfl, le_t rfl⟩ rfl (le_t rfl) fun z23 h22 => ?_
  refine mr_if_ne (pc := 13) (tgt := 18) dX11_withdraw_13 (by decide) (r32 h22.1 rfl) (fun h24 => ?_) (fun h24 => ?_)
  · have h25 : 1 ≤ z23 ∧ z23 ≤ 1 := (vc_X12_write_12 h24 h22.2.1 h22.2.2.1 hp2 h18 h22.1)
    have h26 : 0 ≤ p2 ∧ p2 < z16 := (h22.2.1 (vc_X12_write_13 h22.2.1 h22.2.2.1 h24 hp2 h18 h25))
    have h27 : 0 ≤ p2 ∧ p2 ≤ 9 := (vc_X12_write_14 h26 h22.2.1 h22.2.2.1 hp2 h18 h25)
    refine sv_aload_n (pc := 18) dX11_withdraw_18 rfl rfl ?_
    refine gf_X11_3 (pc := 19) dX11_withdraw_19 wF_X11_26 (A_0 hw) hT ?_
    refine gf_X10_3 (pc := 22) dX11_withdraw_22 wF_X11_283 (A_6 hw) hT ?_
    refine mr_iload_n (pc := 25) (z := p1) dX11_withdraw_25 rfl rfl ?_
    refine la_10 (pc := 26) dX11_withdraw_26 (A_10 hw) hT (rIx (n := 10) h14 rfl) (vc_X11_picked_10 h3.1 h7.2.1 h7.2.2.1 h13 h9 h14 h15 h12) fun b28 q29 A30 => ?_
    refine gf_X0_1 (pc := 27) dX11_withdraw_27 wF_X11_293 A30 hT fun A31 => ?_
    refine mr_iload_n (pc := 30) (z := p2) dX11_withdraw_30 rfl rfl ?_
    refine la_212 (pc := 31) dX11_withdraw_31 A31 hT (rIx (n := 10) h27 rfl) fun z32 q33 h34 => ?_
    refine mr_iconst (pc := 32) (z := (-1)) dX11_withdraw_32 ?_
    refine mr_icmp_ne (pc := 33) (tgt := 39) dX11_withdraw_33 (by decide) (r32 h34 rfl) (r32 (rR (x := (-1))) rfl) (fun h35 => ?_) (fun h35 => ?_)
    · have h36 : 0 ≤ z32 ∧ z32 ≤ 2 := (vc_X8_look_36 h35 h34)
      refine sv_aload_n (pc := 39) dX11_withdraw_39 rfl rfl ?_
      refine gf_X11_3 (pc := 40) dX11_withdraw_40 wF_X11_26 (A_0 hw) hT ?_
      refine gf_X10_3 (pc := 43) dX11_withdraw_43 wF_X11_283 (A_6 hw) hT ?_
      refine mr_iload_n (pc := 46) (z := p1) dX11_withdraw_46 rfl rfl ?_
      refine lk_10 (pc := 47) dX11_withdraw_47 (A_10 hw) (rIx (n := 10) h14 rfl) q29 ?_
      refine gf_X0_1 (pc := 48) dX11_withdraw_48 wF_X11_293 A30 hT fun A37 => ?_
      refine mr_iload_n (pc := 51) (z := p2) dX11_withdraw_51 rfl rfl ?_
      refine mr_iconst (pc := 52) (z := (-1)) dX11_withdraw_52 ?_
      refine ss_212 (pc := 53) dX11_withdraw_53 A37 hT (rIx (n := 10) h27 rfl) (rW (c := (-1)) (d := 2) (rR (x := (-1))) rfl) fun μ38 u39 T40 => ?_
      refine sv_aload_n (pc := 54) dX11_withdraw_54 rfl rfl ?_
      refine gf_X11_6 (pc := 55) dX11_withdraw_55 wF_X11_51 (A_0 hw) T40 ?_
      refine mr_iload_n (pc := 58) (z := p1) dX11_withdraw_58 rfl rfl ?_
      refine mr_iload_n (pc := 59) (z := p2) dX11_withdraw_59 rfl rfl ?_
      refine mr_cVV (pc := 60) (c_X8_look hw T40 h14 h27 (vc_X11_picked_10 h3.1 h7.2.1 h7.2.2.1 h13 h9 h14 h15 h12) (PC.keep hIPC hw ((mF.up mF.refl A37 u39 rfl) : mF [212999] w μ μ38) rfl)) (gOk _ _ _ _ _) dX11_withdraw_60 (tX8_look _ _ _ _ _) ⟨wV_X8_look, wL_X8_look⟩ wM_X11_296 (gCX8 _ _ _ _ _) rfl (A_32 hw) rfl ⟨le_t rfl, le_t rfl⟩ ⟨le_t rfl, le_t rfl⟩ rfl (le_t rfl) fun μ41 T42 F43 h44 => ?_
      refine mr_iconst (pc := 63) (z := 0) dX11_withdraw_63 ?_
      exact mr_iret dX11_withdraw_64 rfl (le_t rfl) (le_t rfl) T42 (mF.call (mF.up mF.refl A37 u39 rfl) F43 rfl) ⟨(rW (c := (-2147483648)) (d := 2147483647) (rR (x := 0)) rfl), trivial⟩
    have h45 : (-1) ≤ z32 ∧ z32 ≤ (-1) := (vc_X8_look_22 h35 h34)
    refine mr_bipush (pc := 36) (z := (-2)) dX11_withdraw_36 (by decide) ?_
    exact mr_iret dX11_withdraw_38 rfl (le_t rfl) (le_t rfl) hT mF.refl ⟨(rW (c := (-2147483648)) (d := 2147483647) (rR (x := (-2))) rfl), trivial⟩
  have h46 : 0 ≤ z23 ∧ z23 ≤ 0 := (vc_X12_write_78 h24 h22.2.1 h22.2.2.1 hp2 h18 h22.1)
  have h47 : p2 < 0 ∨ z16 ≤ p2 := (h22.2.2.1 (vc_X12_write_79 h22.2.1 h22.2.2.1 h24 hp2 h18 h46))
  refine mr_iconst (pc := 16) (z := (-1)) dX11_withdraw_16 ?_
  exact mr_iret dX11_withdraw_17 rfl (le_t rfl) (le_t rfl) hT mF.refl ⟨(rW (c := (-2147483648)) (d := 2147483647) (rR (x := (-1))) rfl), trivial⟩
theorem vc_X11_go_3 {p1 : Int} (h0 : p1 ≤ 500) (h1 : 1 ≤ p1) (h2 : 1 ≤ p1 ∧ p1 ≤ 2147483647) : 1 ≤ p1 ∧ p1 ≤ 500 := by omega
theorem vc_X11_go_4 {z136 : Int} (h0 : (501 - z136) < ((0 : Nat) : Int)) (h1 : 0 ≤ z136 ∧ z136 ≤ 500) : False := by omega
theorem vc_X11_go_5 {p1 z136 : Int} (h0 : p1 ≤ z136) (h1 : 1 ≤ p1) (h2 : p1 ≤ 500) (h3 : 1 ≤ p1 ∧ p1 ≤ 500) (h4 : 0 ≤ z136 ∧ z136 ≤ 500) : 1 ≤ z136 ∧ z136 ≤ 500 := by omega
theorem vc_X11_go_6 {p1 z136 : Int} (h0 : z136 < p1) (h1 : 1 ≤ p1) (h2 : p1 ≤ 500) (h3 : 1 ≤ p1 ∧ p1 ≤ 500) (h4 : 0 ≤ z136 ∧ z136 ≤ 500) : 0 ≤ z136 ∧ z136 ≤ 499 := by omega
theorem vc_X11_go_9 {N p1 z136 : Int} (h0 : (501 - z136) < N + 1) (h1 : z136 < p1) (h2 : 1 ≤ p1) (h3 : p1 ≤ 500) (h4 : 1 ≤ p1 ∧ p1 ≤ 500) (h5 : 0 ≤ z136 ∧ z136 ≤ 499) : (501 - (z136 + 1)) < N := by omega
theorem vc_X11_go_10  : (501 - 0) < ((502 : Nat) : Int) := by omega
theorem vc_X11_go_11 {p1 : Int} (h0 : 500 < p1) (h1 : 1 ≤ p1) (h2 : 1 ≤ p1 ∧ p1 ≤ 2147483647) : 501 ≤ p1 ∧ p1 ≤ 2147483647 := by omega
set_option maxRecDepth 4000 in
set_option maxHeartbeats 4000000 in
theorem c_X11_go {l : Launch} {D : va_G} {c : Nat → ClassId} {H0 : Heap} {sa : Nat × Nat × (Nat → Int32)} {w : mW} {μ : mM} (hw : mWF w) (hT : mT w μ) {p1 : Int} (hp1 : (-2147483648) ≤ p1 ∧ p1 ≤ 2147483647) (hIPC : PC w μ) : sC (gG l D c H0 sa) mX11_go 44 0 0 [.ref 0, iv p1] (mk w μ) (qI w [21002, 21003, 21004, 21005, 21006, 21007, 32009, 32010, 32011, 32012, 33999, 34999, 66999, 200002, 200003, 200004, 200005, 200006, 200007, 200008, 200009, 200010, 200011, 201999, 202999, 213999] μ (fun z μ1 => ((-2147483648) ≤ z ∧ z ≤ 2147483647) ∧ True)) := by
  refine sC.of rfl (by decide) (le_t rfl) ?_
  refine mr_lvE (lv' := [(0, .ref 0), (1, iv p1)]) rfl ?_
  refine mr_iload_n (pc := 0) (z := p1) dX11_go_0 rfl rfl ?_
  refine mr_iconst (pc := 1) (z := 1) dX11_go_1 ?_
  refine mr_icmp_lt (pc := 2) (tgt := 12) dX11_go_2 (by decide) hp1 (r32 (rR (x := 1)) rfl) (fun h1 => ?_) (fun h1 => ?_)
  · have h2 : (-2147483648) ≤ p1 ∧ p1 ≤ 0 := (vc_X11_pace_7 h1 hp1)
    refine mr_iconst (pc := 12) (z := (-1)) dX11_go_12 ?_
    exact mr_iret dX11_go_13 rfl (le_t rfl) (le_t rfl) hT mF.refl ⟨(rW (c := (-2147483648)) (d := 2147483647) (rR (x := (-1))) rfl), trivial⟩
  have h3 : 1 ≤ p1 ∧ p1 ≤ 2147483647 := (vc_X11_pace_8 h1 hp1)
  refine mr_iload_n (pc := 5) (z := p1) dX11_go_5 rfl rfl ?_
  refine mr_sipush (pc := 6) (z := 500) dX11_go_6 (by decide) ?_
  refine mr_icmp_le (pc := 9) (tgt := 14) dX11_go_9 (by decide) (r32 h3 rfl) (r32 (rR (x := 500)) rfl) (fun h4 => ?_) (fun h4 => ?_)
  · have h5 : 1 ≤ p1 ∧ p1 ≤ 500 := (vc_X11_go_3 h4 h1 h3)
    refine mr_iconst (pc := 14) (z := 0) dX11_go_14 ?_
    refine mr_istore_n (pc := 15) (lv' := [(2, iv 0), (0, .ref 0), (1, iv p1)]) dX11_go_15 rfl (by decide) rfl ?_
    have L138 : ∀ (nL138 : Nat) (z136 : Int) (μ137 : mM), mT w μ137 → mF [21002, 21003, 21004, 21005, 21006, 21007, 32009, 32010, 32011, 32012, 33999, 34999, 66999, 200002, 200003, 200004, 200005, 200006, 200007, 200008, 200009, 200010, 200011, 201999, 202999, 213999] w μ μ137 → (0 ≤ z136 ∧ z136 ≤ 500) → PC w μ137 → (501 - z136) < (nL138 : Int) → sV (gG l D c H0 sa) mX11_go (sRm 44 0 0) (sZ (gG l D c H0 sa) 0 0 (qI w [21002, 21003, 21004, 21005, 21006, 21007, 32009, 32010, 32011, 32012, 33999, 34999, 66999, 200002, 200003, 200004, 200005, 200006, 200007, 200008, 200009, 200010, 200011, 201999, 202999, 213999] μ (fun z μ1 => ((-2147483648) ≤ z ∧ z ≤ 2147483647) ∧ True))) 16 [(0, .ref 0), (1, iv p1), (2, iv z136)] [] (mk w μ137) 0 0 := by
      intro nL138
      induction nL138 with
      | zero => intro z136 μ137 T140 F141 h139 I143 h144; exact ((vc_X11_go_4 h144 h139)).elim
      | succ nL138 ih145 =>
        intro z136 μ137 T140 F141 h139 I143 h144
        refine mr_iload_n (pc := 16) (z := z136) dX11_go_16 rfl rfl ?_
        refine mr_iload_n (pc := 17) (z := p1) dX11_go_17 rfl rfl ?_
        refine mr_icmp_ge (pc := 18) (tgt := 40) dX11_go_18 (by decide) (r32 h139 rfl) (r32 h5 rfl) (fun h155 => ?_) (fun h155 => ?_)
        · have h156 : 1 ≤ z136 ∧ z136 ≤ 500 := (vc_X11_go_5 h155 h1 h4 h5 h139)
          refine mr_iload_n (pc := 40) (z := z136) dX11_go_40 rfl rfl ?_
          exact mr_iret dX11_go_41 rfl (le_t rfl) (le_t rfl) T140 (mF.call mF.refl F141 rfl) ⟨(rW (c := (-2147483648)) (d := 2147483647) h156 rfl), trivial⟩
        have h157 : 0 ≤ z136 ∧ z136 ≤ 499 := (vc_X11_go_6 h155 h1 h4 h5 h139)
        refine sv_aload_n (pc := 21) dX11_go_21 rfl rfl ?_
        refine gf_X11_6 (pc := 22) dX11_go_22 wF_X11_51 (A_0 hw) T140 ?_
        refine mr_ldcw (pc := 25) (z := 2000000000) dX11_go_25 wG_X11_299 (by decide) ?_
        refine mr_cVI (pc := 28) (c_X8_doNext hw T140 (rW (c := (-1)) (d := 2000000000) (rR (x := 2000000000)) rfl) I143) (gOk _ _ _ _ _) dX11_go_28 (tX8_doNext _ _ _ _ _) ⟨wV_X8_doNext, wL_X8_doNext⟩ wM_X11_300 (gCX8 _ _ _ _ _) rfl (A_32 hw) rfl ⟨le_t rfl, le_t rfl⟩ ⟨le_t rfl, le_t rfl⟩ rfl (le_t rfl) fun z162 μ158 T159 F160 h161 => ?_
        refine mr_if_eq (pc := 31) (tgt := 40) dX11_go_31 (by decide) (r32 h161.1 rfl) (fun h165 => ?_) (fun h165 => ?_)
        · have h166 : 0 ≤ z162 ∧ z162 ≤ 0 := (vc_X12_ring_22 h165 h161.1)
          refine mr_iload_n (pc := 40) (z := z136) dX11_go_40 rfl rfl ?_
          exact mr_iret dX11_go_41 rfl (le_t rfl) (le_t rfl) T159 (mF.call (mF.call mF.refl F141 rfl) F160 rfl) ⟨(rW (c := (-2147483648)) (d := 2147483647) h157 rfl), trivial⟩
        have h167 : 1 ≤ z162 ∧ z162 ≤ 1 := (vc_X12_ring_24 h165 h161.1)
        refine mr_iinc (pc := 34) (lv' := [(2, iv (z136 + 1)), (0, .ref 0), (1, iv p1)]) dX11_go_34 rfl (by decide) rfl ?_
        refine sv_goto (pc := 37) (tgt := 16) dX11_go_37 (by decide) ?_
        refine mr_lvS (lv' := [(0, .ref 0), (1, iv p1), (2, iv (z136 + 1))]) (List.forall_mem_cons.mpr ⟨rfl, List.forall_mem_cons.mpr ⟨rfl, List.forall_mem_cons.mpr ⟨rfl, fun _ h => absurd h List.not_mem_nil⟩⟩⟩) ?_
        exact ih145 (z136 + 1) μ158 T159 (mF.call (mF.call mF.refl F141 rfl) F160 rfl) (rW (c := 0) (d := 500) (rAdd (e := 1) (f := 500) h157 (rR (x := 1)) rfl) rfl) (PC.keep I143 hw ((mF.call mF.refl F160 rfl) : mF [21002, 21003, 21004, 21005, 21006, 21007, 32009, 32010, 32011, 32012, 33999, 34999, 66999, 200002, 200003, 200004, 200005, 200006, 200007, 200008, 200009, 200010, 200011, 201999, 202999, 213999] w μ137 μ158) rfl) (vc_X11_go_9 (nS h144) h155 h1 h4 h5 h157)
    refine mr_lvS (lv' := [(0, .ref 0), (1, iv p1), (2, iv 0)]) (List.forall_mem_cons.mpr ⟨rfl, List.forall_mem_cons.mpr ⟨rfl, List.forall_mem_cons.mpr ⟨rfl, fun _ h => absurd h List.not_mem_nil⟩⟩⟩) ?_
    exact L138 502 0 μ hT mF.refl (rW (c := 0) (d := 500) (rR (x := 0)) rfl) hIPC vc_X11_go_10
  have h168 : 501 ≤ p1 ∧ p1 ≤ 2147483647 := (vc_X11_go_11 h4 h1 h3)
  refine mr_iconst (pc := 12) (z := (-1)) dX11_go_12 ?_
  exact mr_iret dX11_go_13 rfl (le_t rfl) (le_t rfl) hT mF.refl ⟨(rW (c := (-2147483648)) (d := 2147483647) (rR (x := (-1))) rfl), trivial⟩
theorem vc_X11_until_1 {p1 z1 : Int} (h0 : p1 < z1) (h1 : (-2147483648) ≤ p1 ∧ p1 ≤ 2147483647) (h2 : (-1) ≤ z1 ∧ z1 ≤ 2000000000) : (-2147483648) ≤ p1 ∧ p1 ≤ 1999999999 := by omega
theorem vc_X11_until_2 {p1 z1 : Int} (h0 : z1 ≤ p1) (h1 : (-2147483648) ≤ p1 ∧ p1 ≤ 2147483647) (h2 : (-1) ≤ z1 ∧ z1 ≤ 2000000000) : (-1) ≤ p1 ∧ p1 ≤ 2147483647 := by omega
theorem vc_X11_until_3 {p1 z1 : Int} (h0 : p1 ≤ 1000000000) (h1 : z1 ≤ p1) (h2 : (-1) ≤ p1 ∧ p1 ≤ 2147483647) (h3 : (-1) ≤ z1 ∧ z1 ≤ 2000000000) : (-1) ≤ p1 ∧ p1 ≤ 1000000000 := by omega
theorem vc_X11_until_9 {N z164 : Int} (h0 : (501 - z164) < N + 1) (h1 : z164 < 500) (h2 : 0 ≤ z164 ∧ z164 ≤ 499) : (501 - (z164 + 1)) < N := by omega
theorem vc_X11_until_11 {p1 z1 : Int} (h0 : 1000000000 < p1) (h1 : z1 ≤ p1) (h2 : (-1) ≤ p1 ∧ p1 ≤ 2147483647) (h3 : (-1) ≤ z1 ∧ z1 ≤ 2000000000) : 1000000001 ≤ p1 ∧ p1 ≤ 2147483647 := by omega
set_option maxRecDepth 4000 in
set_option maxHeartbeats 4000000 in
theorem c_X11_until {l : Launch} {D : va_G} {c : Nat → ClassId} {H0 : Heap} {sa : Nat × Nat × (Nat → Int32)} {w : mW} {μ : mM} (hw : mWF w) (hT : mT w μ) {p1 : Int} (hp1 : (-2147483648) ≤ p1 ∧ p1 ≤ 2147483647) (hIPC : PC w μ) : sC (gG l D c H0 sa) mX11_until 44 0 0 [.ref 0, iv p1] (mk w μ) (qI w [21002, 21003, 21004, 21005, 21006, 21007, 32009, 32010, 32011, 32012, 33999, 34999, 66999, 200002, 200003, 200004, 200005, 200006, 200007, 200008, 200009, 200010, 200011, 201999, 202999, 213999] μ (fun z μ1 => ((-2147483648) ≤ z ∧ z ≤ 2147483647) ∧ True)) := by
  refine sC.of rfl (by decide) (le_t rfl) ?_
  refine mr_lvE (lv' := [(0, .ref 0), (1, iv p1)]) rfl ?_
  refine mr_iload_n (pc := 0) (z := p1) dX11_until_0 rfl rfl ?_
  refine sv_aload_n (pc := 1) dX11_until_1 rfl rfl ?_
  refine gf_X11_6 (pc := 2) dX11_until_2 wF_X11_51 (A_0 hw) hT ?_
  refine gf_X8_11 (pc := 5) dX11_until_5 wF_X11_303 (A_32 hw) hT fun z1 q2 h3 => ?_
  refine mr_icmp_lt (pc := 8) (tgt := 18) dX11_until_8 (by decide) hp1 (r32 h3 rfl) (fun h4 => ?_) (fun h4 => ?_)
  · have h5 : (-2147483648) ≤ p1 ∧ p1 ≤ 1999999999 := (vc_X11_until_1 h4 hp1 h3)
    refine mr_iconst (pc := 18) (z := (-1)) dX11_until_18 ?_
    exact mr_iret dX11_until_19 rfl (le_t rfl) (le_t rfl) hT mF.refl ⟨(rW (c := (-2147483648)) (d := 2147483647) (rR (x := (-1))) rfl), trivial⟩
  have h6 : (-1) ≤ p1 ∧ p1 ≤ 2147483647 := (vc_X11_until_2 h4 hp1 h3)
  refine mr_iload_n (pc := 11) (z := p1) dX11_until_11 rfl rfl ?_
  refine mr_ldcw (pc := 12) (z := 1000000000) dX11_until_12 wG_X11_306 (by decide) ?_
  refine mr_icmp_le (pc := 15) (tgt := 20) dX11_until_15 (by decide) (r32 h6 rfl) (r32 (rR (x := 1000000000)) rfl) (fun h7 => ?_) (fun h7 => ?_)
  · have h8 : (-1) ≤ p1 ∧ p1 ≤ 1000000000 := (vc_X11_until_3 h7 h4 h6 h3)
    refine mr_iconst (pc := 20) (z := 0) dX11_until_20 ?_
    refine mr_istore_n (pc := 21) (lv' := [(2, iv 0), (0, .ref 0), (1, iv p1)]) dX11_until_21 rfl (by decide) rfl ?_
    have L166 : ∀ (nL166 : Nat) (z164 : Int) (μ165 : mM), mT w μ165 → mF [21002, 21003, 21004, 21005, 21006, 21007, 32009, 32010, 32011, 32012, 33999, 34999, 66999, 200002, 200003, 200004, 200005, 200006, 200007, 200008, 200009, 200010, 200011, 201999, 202999, 213999] w μ μ165 → (0 ≤ z164 ∧ z164 ≤ 500) → PC w μ165 → (501 - z164) < (nL166 : Int) → sV (gG l D c H0 sa) mX11_until (sRm 44 0 0) (sZ (gG l D c H0 sa) 0 0 (qI w [21002, 21003, 21004, 21005, 21006, 21007, 32009, 32010, 32011, 32012, 33999, 34999, 66999, 200002, 200003, 200004, 200005, 200006, 200007, 200008, 200009, 200010, 200011, 201999, 202999, 213999] μ (fun z μ1 => ((-2147483648) ≤ z ∧ z ≤ 2147483647) ∧ True))) 22 [(0, .ref 0), (1, iv p1), (2, iv z164)] [] (mk w μ165) 0 0 := by
      intro nL166
      induction nL166 with
      | zero => intro z164 μ165 T168 F169 h167 I171 h172; exact ((vc_X11_go_4 h172 h167)).elim
      | succ nL166 ih173 =>
        intro z164 μ165 T168 F169 h167 I171 h172
        refine mr_iload_n (pc := 22) (z := z164) dX11_until_22 rfl rfl ?_
        refine mr_sipush (pc := 23) (z := 500) dX11_until_23 (by decide) ?_
        refine mr_icmp_ge (pc := 26) (tgt := 46) dX11_until_26 (by decide) (r32 h167 rfl) (r32 (rR (x := 500)) rfl) (fun h183 => ?_) (fun h183 => ?_)
        · have h184 : 500 ≤ z164 ∧ z164 ≤ 500 := (vc_X1_doActs_12_35 h183 h167)
          refine sv_aload_n (pc := 46) dX11_until_46 rfl rfl ?_
          refine gf_X11_6 (pc := 47) dX11_until_47 wF_X11_51 (A_0 hw) T168 ?_
          refine mr_iload_n (pc := 50) (z := p1) dX11_until_50 rfl rfl ?_
          refine mr_cVV (pc := 51) (c_X8_passTo hw T168 (rW (c := (-1)) (d := 2000000000) h8 rfl)) (gOk _ _ _ _ _) dX11_until_51 (tX8_passTo _ _ _ _ _) ⟨wV_X8_passTo, wL_X8_passTo⟩ wM_X11_307 (gCX8 _ _ _ _ _) rfl (A_32 hw) rfl ⟨le_t rfl, le_t rfl⟩ ⟨le_t rfl, le_t rfl⟩ rfl (le_t rfl) fun μ185 T186 F187 h188 => ?_
          refine mr_iload_n (pc := 54) (z := z164) dX11_until_54 rfl rfl ?_
          exact mr_iret dX11_until_55 rfl (le_t rfl) (le_t rfl) T186 (mF.call (mF.call mF.refl F169 rfl) F187 rfl) ⟨(rW (c := (-2147483648)) (d := 2147483647) h184 rfl), trivial⟩
        have h189 : 0 ≤ z164 ∧ z164 ≤ 499 := (vc_X1_doActs_12_10 h183 h167)
        refine sv_aload_n (pc := 29) dX11_until_29 rfl rfl ?_
        refine gf_X11_6 (pc := 30) dX11_until_30 wF_X11_51 (A_0 hw) T168 ?_
        refine mr_iload_n (pc := 33) (z := p1) dX11_until_33 rfl rfl ?_
        refine mr_cVI (pc := 34) (c_X8_doNext hw T168 (rW (c := (-1)) (d := 2000000000) h8 rfl) I171) (gOk _ _ _ _ _) dX11_until_34 (tX8_doNext _ _ _ _ _) ⟨wV_X8_doNext, wL_X8_doNext⟩ wM_X11_300 (gCX8 _ _ _ _ _) rfl (A_32 hw) rfl ⟨le_t rfl, le_t rfl⟩ ⟨le_t rfl, le_t rfl⟩ rfl (le_t rfl) fun z194 μ190 T191 F192 h193 => ?_
        refine mr_if_eq (pc := 37) (tgt := 46) dX11_until_37 (by decide) (r32 h193.1 rfl) (fun h197 => ?_) (fun h197 => ?_)
        · have h198 : 0 ≤ z194 ∧ z194 ≤ 0 := (vc_X12_ring_22 h197 h193.1)
          refine sv_aload_n (pc := 46) dX11_until_46 rfl rfl ?_
          refine gf_X11_6 (pc := 47) dX11_until_47 wF_X11_51 (A_0 hw) T191 ?_
          refine mr_iload_n (pc := 50) (z := p1) dX11_until_50 rfl rfl ?_
          refine mr_cVV (pc := 51) (c_X8_passTo hw T191 (rW (c := (-1)) (d := 2000000000) h8 rfl)) (gOk _ _ _ _ _) dX11_until_51 (tX8_passTo _ _ _ _ _) ⟨wV_X8_passTo, wL_X8_passTo⟩ wM_X11_307 (gCX8 _ _ _ _ _) rfl (A_32 hw) rfl ⟨le_t rfl, le_t rfl⟩ ⟨le_t rfl, le_t rfl⟩ rfl (le_t rfl) fun μ199 T200 F201 h202 => ?_
          refine mr_iload_n (pc := 54) (z := z164) dX11_until_54 rfl rfl ?_
          exact mr_iret dX11_until_55 rfl (le_t rfl) (le_t rfl) T200 (mF.call (mF.call (mF.call mF.refl F169 rfl) F192 rfl) F201 rfl) ⟨(rW (c := (-2147483648)) (d := 2147483647) h189 rfl), trivial⟩
        have h203 : 1 ≤ z194 ∧ z194 ≤ 1 := (vc_X12_ring_24 h197 h193.1)
        refine mr_iinc (pc := 40) (lv' := [(2, iv (z164 + 1)), (0, .ref 0), (1, iv p1)]) dX11_until_40 rfl (by decide) rfl ?_
        refine sv_goto (pc := 43) (tgt := 22) dX11_until_43 (by decide) ?_
        refine mr_lvS (lv' := [(0, .ref 0), (1, iv p1), (2, iv (z164 + 1))]) (List.forall_mem_cons.mpr ⟨rfl, List.forall_mem_cons.mpr ⟨rfl, List.forall_mem_cons.mpr ⟨rfl, fun _ h => absurd h List.not_mem_nil⟩⟩⟩) ?_
        exact ih173 (z164 + 1) μ190 T191 (mF.call (mF.call mF.refl F169 rfl) F192 rfl) (rW (c := 0) (d := 500) (rAdd (e := 1) (f := 500) h189 (rR (x := 1)) rfl) rfl) (PC.keep I171 hw ((mF.call mF.refl F192 rfl) : mF [21002, 21003, 21004, 21005, 21006, 21007, 32009, 32010, 32011, 32012, 33999, 34999, 66999, 200002, 200003, 200004, 200005, 200006, 200007, 200008, 200009, 200010, 200011, 201999, 202999, 213999] w μ165 μ190) rfl) (vc_X11_until_9 (nS h172) h183 h189)
    refine mr_lvS (lv' := [(0, .ref 0), (1, iv p1), (2, iv 0)]) (List.forall_mem_cons.mpr ⟨rfl, List.forall_mem_cons.mpr ⟨rfl, List.forall_mem_cons.mpr ⟨rfl, fun _ h => absurd h List.not_mem_nil⟩⟩⟩) ?_
    exact L166 502 0 μ hT mF.refl (rW (c := 0) (d := 500) (rR (x := 0)) rfl) hIPC vc_X11_go_10
  have h204 : 1000000001 ≤ p1 ∧ p1 ≤ 2147483647 := (vc_X11_until_11 h7 h4 h6 h3)
  refine mr_iconst (pc := 18) (z := (-1)) dX11_until_18 ?_
  exact mr_iret dX11_until_19 rfl (le_t rfl) (le_t rfl) hT mF.refl ⟨(rW (c := (-2147483648)) (d := 2147483647) (rR (x := (-1))) rfl), trivial⟩
set_option maxRecDepth 4000 in
set_option maxHeartbeats 4000000 in
theorem c_X11_why {l : Launch} {D : va_G} {c : Nat → ClassId} {H0 : Heap} {sa : Nat × Nat × (Nat → Int32)} {w : mW} {μ : mM} (hw : mWF w) (hT : mT w μ) {p1 : Int} (hp1 : (-2147483648) ≤ p1 ∧ p1 ≤ 2147483647) {p2 : Int} (hp2 : (-2147483648) ≤ p2 ∧ p2 ≤ 2147483647) {p3 : Int} (hp3 : (-2147483648) ≤ p3 ∧ p3 ≤ 2147483647) (hIPC : PC w μ) : sC (gG l D c H0 sa) mX11_why 43 0 0 [.ref 0, iv p1, iv p2, iv p3] (mk w μ) (qI w [21002, 21003, 21004, 21005, 21006, 21007, 32009, 200002, 200003, 200004, 200005, 200006, 200007, 200008, 200009, 200010, 200011, 201999, 202999] μ (fun z μ1 => ((-2147483648) ≤ z ∧ z ≤ 2147483647) ∧ True)) := by
  refine sC.of rfl (by decide) (le_t rfl) ?_
  refine mr_lvE (lv' := [(0, .ref 0), (1, iv p1), (2, iv p2), (3, iv p3)]) rfl ?_
  refine sv_aload_n (pc := 0) dX11_why_0 rfl rfl ?_
  refine mr_iload_n (pc := 1) (z := p1) dX11_why_1 rfl rfl ?_
  obtain ⟨z1, q2⟩ : ∃ z, μ 6 16 = z := ⟨_, rfl⟩
  have h3 : (z1 = w.2.2.2 1 ∧ 0 ≤ z1 ∧ z1 ≤ 20) := by rw [← q2]; exact hT 6 6 (A_6 hw) 16
  refine mr_cVP (pc := 2) (c_X11_isTie hw hT hp1 q2) (gOk _ _ _ _ _) dX11_why_2 (tX11_isTie _ _ _ _ _) ⟨wV_X11_isTie, wL_X11_isTie⟩ wM_X11_119 (gCX11 _ _ _ _ _) rfl (A_0 hw) rfl ⟨le_t rfl, le_t rfl⟩ ⟨le_t rfl, le_t rfl⟩ rfl (le_t rfl) fun z8 h7 => ?_
  refine mr_if_eq (pc := 5) (tgt := 23) dX11_why_5 (by decide) (r32 h7.1 rfl) (fun h9 => ?_) (fun h9 => ?_)
  · have h10 : 0 ≤ z8 ∧ z8 ≤ 0 := (vc_X12_pace_1 h9 h7.2.1 h7.2.2.1 hp1 h3.2 h7.1)
    have h11 : p1 < 0 ∨ z1 ≤ p1 := (h7.2.2.1 (vc_X11_pace_2 h7.2.1 h7.2.2.1 h9 h3.1 hp1 h3.2 h10))
    refine mr_iconst (pc := 23) (z := (-1)) dX11_why_23 ?_
    exact mr_iret dX11_why_24 rfl (le_t rfl) (le_t rfl) hT mF.refl ⟨(rW (c := (-2147483648)) (d := 2147483647) (rR (x := (-1))) rfl), trivial⟩
  have h12 : 1 ≤ z8 ∧ z8 ≤ 1 := (vc_X12_pace_3 h9 h7.2.1 h7.2.2.1 hp1 h3.2 h7.1)
  have h13 : 0 ≤ p1 ∧ p1 < z1 := (h7.2.1 (vc_X11_pace_4 h7.2.1 h7.2.2.1 h9 h3.1 hp1 h3.2 h12))
  have h14 : 0 ≤ p1 ∧ p1 ≤ 19 := (vc_X11_pace_5 h13 h3.1 h7.2.1 h7.2.2.1 hp1 h3.2 h12)
  have h15 : 1 ≤ z1 ∧ z1 ≤ 20 := (vc_X11_pace_6 h13 h3.1 h7.2.1 h7.2.2.1 h14 h3.2 h12)
  refine mr_iload_n (pc := 8) (z := p2) dX11_why_8 rfl rfl ?_
  refine mr_cSP (pc := 9) (c_X11_isEither hw hT hp2) (gOk _ _ _ _ _) dX11_why_9 (tX11_isEither _ _ _ _ _) wS_X11_isEither wM_X11_271 ⟨le_t rfl, le_t rfl⟩ ⟨le_t rfl, le_t rfl⟩ rfl (le_t rfl) fun z20 h19 => ?_
  refine mr_if_eq (pc := 12) (tgt := 23) dX11_why_12 (by decide) (r32 h19.1 rfl) (fun h21 => ?_) (fun h21 => ?_)
  · have h22 : 0 ≤ z20 ∧ z20 ≤ 0 := (vc_X11_heard_7 h21 h19.2.1 h19.2.2.1 hp2 h19.1)
    have h23 : p2 < 0 ∨ 1 < p2 := (h19.2.2.1 (vc_X11_heard_8 h19.2.1 h19.2.2.1 h21 hp2 h22))
    refine mr_iconst (pc := 23) (z := (-1)) dX11_why_23 ?_
    exact mr_iret dX11_why_24 rfl (le_t rfl) (le_t rfl) hT mF.refl ⟨(rW (c := (-2147483648)) (d := 2147483647) (rR (x := (-1))) rfl), trivial⟩
  have h24 : 1 ≤ z20 ∧ z20 ≤ 1 := (vc_X11_heard_9 h21 h19.2.1 h19.2.2.1 hp2 h19.1)
  have h25 : 0 ≤ p2 ∧ p2 ≤ 1 := (h19.2.1 (vc_X11_heard_10 h19.2.1 h19.2.2.1 h21 hp2 h24))
  have h26 : 0 ≤ p2 ∧ p2 ≤ 1 := (vc_X11_heard_11 h25 h19.2.1 h19.2.2.1 hp2 h24)
  refine sv_aload_n (pc := 15) dX11_why_15 rfl rfl ?_
  refine mr_iload_n (pc := 16) (z := p3) dX11_why_16 rfl rfl ?_
  obtain ⟨z27, q28⟩ : ∃ z, μ 6 14 = z := ⟨_, rfl⟩
  have h29 : (0 ≤ z27 ∧ z27 ≤ 10) := by rw [← q28]; exact hT 6 6 (A_6 hw) 14
  refine mr_cVP (pc := 17) (c_X11_isPrefix hw hT hp3 q28) (gOk _ _ _ _ _) dX11_why_17 (tX11_isPrefix _ _ _ _ _) ⟨wV_X11_isPrefix, wL_X11_isPrefix⟩ wM_X11_182 (gCX11 _ _ _ _ _) rfl (A_0 hw) rfl ⟨le_t rfl, le_t rfl⟩ ⟨le_t rfl, le_t rfl⟩ rfl (le_t rfl) fun z34 h33 => ?_
  refine mr_if_ne (pc := 20) (tgt := 25) dX11_why_20 (by decide) (r32 h33.1 rfl) (fun h35 => ?_) (fun h35 => ?_)
  · have h36 : 1 ≤ z34 ∧ z34 ≤ 1 := (vc_X12_write_12 h35 h33.2.1 h33.2.2.1 hp3 h29 h33.1)
    have h37 : 0 ≤ p3 ∧ p3 < z27 := (h33.2.1 (vc_X12_write_13 h33.2.1 h33.2.2.1 h35 hp3 h29 h36))
    have h38 : 0 ≤ p3 ∧ p3 ≤ 9 := (vc_X12_write_14 h37 h33.2.1 h33.2.2.1 hp3 h29 h36)
    have h39 : 1 ≤ z27 ∧ z27 ≤ 10 := (vc_X12_write_15 h37 h33.2.1 h33.2.2.1 h38 h29 h36)
    refine sv_aload_n (pc := 25) dX11_why_25 rfl rfl ?_
    refine gf_X11_6 (pc := 26) dX11_why_26 wF_X11_51 (A_0 hw) hT ?_
    refine mr_iload_n (pc := 29) (z := p1) dX11_why_29 rfl rfl ?_
    refine mr_iload_n (pc := 30) (z := p2) dX11_why_30 rfl rfl ?_
    refine mr_iload_n (pc := 31) (z := p3) dX11_why_31 rfl rfl ?_
    refine mr_cVI (pc := 32) (c_X8_reason hw hT h14 h26 h38 (vc_X11_pace_14 h3.1 h7.2.1 h7.2.2.1 h13 h9 h14 h15 h12) hIPC) (gOk _ _ _ _ _) dX11_why_32 (tX8_reason _ _ _ _ _) ⟨wV_X8_reason, wL_X8_reason⟩ wM_X11_333 (gCX8 _ _ _ _ _) rfl (A_32 hw) rfl ⟨le_t rfl, le_t rfl⟩ ⟨le_t rfl, le_t rfl⟩ rfl (le_t rfl) fun z44 μ40 T41 F42 h43 => ?_
    exact mr_iret dX11_why_35 rfl (le_t rfl) (le_t rfl) T41 (mF.call mF.refl F42 rfl) ⟨h43.1, trivial⟩
  have h45 : 0 ≤ z34 ∧ z34 ≤ 0 := (vc_X12_write_78 h35 h33.2.1 h33.2.2.1 hp3 h29 h33.1)
  have h46 : p3 < 0 ∨ z27 ≤ p3 := (h33.2.2.1 (vc_X12_write_79 h33.2.1 h33.2.2.1 h35 hp3 h29 h45))
  refine mr_iconst (pc := 23) (z := (-1)) dX11_why_23 ?_
  exact mr_iret dX11_why_24 rfl (le_t rfl) (le_t rfl) hT mF.refl ⟨(rW (c := (-2147483648)) (d := 2147483647) (rR (x := (-1))) rfl), trivial⟩
set_option maxRecDepth 4000 in
set_option maxHeartbeats 4000000 in
theorem c_X11_three {l : Launch} {D : va_G} {c : Nat → ClassId} {H0 : Heap} {sa : Nat × Nat × (Nat → Int32)} {w : mW} {μ : mM} (hw : mWF w) (hT : mT w μ) {p1 : Int} (hp1 : (-2147483648) ≤ p1 ∧ p1 ≤ 2147483647) {p2 : Int} (hp2 : (-2147483648) ≤ p2 ∧ p2 ≤ 2147483647) {p3 : Int} (hp3 : (-2147483648) ≤ p3 ∧ p3 ≤ 2147483647) (hIPC : PC w μ) : sC (gG l D c H0 sa) mX11_three 43 0 0 [.ref 0, iv p1, iv p2, iv p3] (mk w μ) (qI w [21002, 21003, 21004, 21005, 21006, 21007, 32009, 200002, 200003, 200004, 200005, 200006, 200007, 200008, 200009, 200010, 200011, 201999, 202999] μ (fun z μ1 => ((-2147483648) ≤ z ∧ z ≤ 2147483647) ∧ True)) := by
  refine sC.of rfl (by decide) (le_t rfl) ?_
  refine mr_lvE (lv' := [(0, .ref 0), (1, iv p1), (2, iv p2), (3, iv p3)]) rfl ?_
  refine sv_aload_n (pc := 0) dX11_three_0 rfl rfl ?_
  refine mr_iload_n (pc := 1) (z := p1) dX11_three_1 rfl rfl ?_
  obtain ⟨z1, q2⟩ : ∃ z, μ 6 15 = z := ⟨_, rfl⟩
  have h3 : (z1 = w.2.2.2 0 ∧ 0 ≤ z1 ∧ z1 ≤ 10) := by rw [← q2]; exact hT 6 6 (A_6 hw) 15
  refine mr_cVP (pc := 2) (c_X11_isDomain hw hT hp1 q2) (gOk _ _ _ _ _) dX11_three_2 (tX11_isDomain _ _ _ _ _) ⟨wV_X11_isDomain, wL_X11_isDomain⟩ wM_X11_105 (gCX11 _ _ _ _ _) rfl (A_0 hw) rfl ⟨le_t rfl, le_t rfl⟩ ⟨le_t rfl, le_t rfl⟩ rfl (le_t rfl) fun z8 h7 => ?_
  refine mr_if_eq (pc := 5) (tgt := 16) dX11_three_5 (by decide) (r32 h7.1 rfl) (fun h9 => ?_) (fun h9 => ?_)
  · have h10 : 0 ≤ z8 ∧ z8 ≤ 0 := (vc_X12_write_78 h9 h7.2.1 h7.2.2.1 hp1 h3.2 h7.1)
    have h11 : p1 < 0 ∨ z1 ≤ p1 := (h7.2.2.1 (vc_X11_picked_2 h7.2.1 h7.2.2.1 h9 h3.1 hp1 h3.2 h10))
    refine mr_iconst (pc := 16) (z := (-1)) dX11_three_16 ?_
    exact mr_iret dX11_three_17 rfl (le_t rfl) (le_t rfl) hT mF.refl ⟨(rW (c := (-2147483648)) (d := 2147483647) (rR (x := (-1))) rfl), trivial⟩
  have h12 : 1 ≤ z8 ∧ z8 ≤ 1 := (vc_X12_write_12 h9 h7.2.1 h7.2.2.1 hp1 h3.2 h7.1)
  have h13 : 0 ≤ p1 ∧ p1 < z1 := (h7.2.1 (vc_X11_picked_4 h7.2.1 h7.2.2.1 h9 h3.1 hp1 h3.2 h12))
  have h14 : 0 ≤ p1 ∧ p1 ≤ 9 := (vc_X11_picked_5 h13 h3.1 h7.2.1 h7.2.2.1 hp1 h3.2 h12)
  have h15 : 1 ≤ z1 ∧ z1 ≤ 10 := (vc_X11_picked_6 h13 h3.1 h7.2.1 h7.2.2.1 h14 h3.2 h12)
  refine sv_aload_n (pc := 8) dX11_three_8 rfl rfl ?_
  refine mr_iload_n (pc := 9) (z := p2) dX11_three_9 rfl rfl ?_
  obtain ⟨z16, q17⟩ : ∃ z, μ 6 14 = z := ⟨_, rfl⟩
  have h18 : (0 ≤ z16 ∧ z16 ≤ 10) := by rw [← q17]; exact hT 6 6 (A_6 hw) 14
  refine mr_cVP (pc := 10) (c_X11_isPrefix hw hT hp2 q17) (gOk _ _ _ _ _) dX11_three_10 (tX11_isPrefix _ _ _ _ _) ⟨wV_X11_isPrefix, wL_X11_isPrefix⟩ wM_X11_182 (gCX11 _ _ _ _ _) rfl (A_0 hw) rfl ⟨le_t rfl, le_t rfl⟩ ⟨le_t rfl, le_t rfl⟩ rfl (le_t rfl) fun z23 h22 => ?_
  refine mr_if_ne (pc := 13) (tgt := 18) dX11_three_13 (by decide) (r32 h22.1 rfl) (fun h24 => ?_) (fun h24 => ?_)
  · have h25 : 1 ≤ z23 ∧ z23 ≤ 1 := (vc_X12_write_12 h24 h22.2.1 h22.2.2.1 hp2 h18 h22.1)
    have h26 : 0 ≤ p2 ∧ p2 < z16 := (h22.2.1 (vc_X12_write_13 h22.2.1 h22.2.2.1 h24 hp2 h18 h25))
    have h27 : 0 ≤ p2 ∧ p2 ≤ 9 := (vc_X12_write_14 h26 h22.2.1 h22.2.2.1 hp2 h18 h25)
    refine mr_iload_n (pc := 18) (z := p3) dX11_three_18 rfl rfl ?_
    refine mr_if_lt (pc := 19) (tgt := 27) dX11_three_19 (by decide) hp3 (fun h37 => ?_) (fun h37 => ?_)
    · have h38 : (-2147483648) ≤ p3 ∧ p3 ≤ (-1) := (vc_X12_ring_60 h37 hp3)
      refine mr_ldc (pc := 27) (z := (-99999999)) dX11_three_27 wG_X11_165 (by decide) ?_
      refine sv_goto (pc := 29) (tgt := 42) dX11_three_29 (by decide) ?_
      exact mr_iret dX11_three_42 rfl (le_t rfl) (le_t rfl) hT mF.refl ⟨(rW (c := (-2147483648)) (d := 2147483647) (rR (x := (-99999999))) rfl), trivial⟩
    have h39 : 0 ≤ p3 ∧ p3 ≤ 2147483647 := (vc_X12_ring_1 h37 hp3)
    refine mr_iload_n (pc := 22) (z := p3) dX11_three_22 rfl rfl ?_
    refine mr_iconst (pc := 23) (z := 2) dX11_three_23 ?_
    refine mr_icmp_le (pc := 24) (tgt := 32) dX11_three_24 (by decide) (r32 h39 rfl) (r32 (rR (x := 2)) rfl) (fun h47 => ?_) (fun h47 => ?_)
    · have h48 : 0 ≤ p3 ∧ p3 ≤ 2 := (vc_X11_route_13 h47 h37 h39)
      refine sv_aload_n (pc := 32) dX11_three_32 rfl rfl ?_
      refine gf_X11_6 (pc := 33) dX11_three_33 wF_X11_51 (A_0 hw) hT ?_
      refine mr_iload_n (pc := 36) (z := p1) dX11_three_36 rfl rfl ?_
      refine mr_iload_n (pc := 37) (z := p2) dX11_three_37 rfl rfl ?_
      refine mr_iload_n (pc := 38) (z := p3) dX11_three_38 rfl rfl ?_
      refine mr_cVI (pc := 39) (c_X8_threeInRing hw hT h14 h27 h48 (vc_X11_picked_10 h3.1 h7.2.1 h7.2.2.1 h13 h9 h14 h15 h12) hIPC) (gOk _ _ _ _ _) dX11_three_39 (tX8_threeInRing _ _ _ _ _) ⟨wV_X8_threeInRing, wL_X8_threeInRing⟩ wM_X11_336 (gCX8 _ _ _ _ _) rfl (A_32 hw) rfl ⟨le_t rfl, le_t rfl⟩ ⟨le_t rfl, le_t rfl⟩ rfl (le_t rfl) fun z53 μ49 T50 F51 h52 => ?_
      exact mr_iret dX11_three_42 rfl (le_t rfl) (le_t rfl) T50 (mF.call mF.refl F51 rfl) ⟨h52.1, trivial⟩
    have h54 : 3 ≤ p3 ∧ p3 ≤ 2147483647 := (vc_X11_route_12 h47 h37 h39)
    refine mr_ldc (pc := 27) (z := (-99999999)) dX11_three_27 wG_X11_165 (by decide) ?_
    refine sv_goto (pc := 29) (tgt := 42) dX11_three_29 (by decide) ?_
    exact mr_iret dX11_three_42 rfl (le_t rfl) (le_t rfl) hT mF.refl ⟨(rW (c := (-2147483648)) (d := 2147483647) (rR (x := (-99999999))) rfl), trivial⟩
  have h55 : 0 ≤ z23 ∧ z23 ≤ 0 := (vc_X12_write_78 h24 h22.2.1 h22.2.2.1 hp2 h18 h22.1)
  have h56 : p2 < 0 ∨ z16 ≤ p2 := (h22.2.2.1 (vc_X12_write_79 h22.2.1 h22.2.2.1 h24 hp2 h18 h55))
  refine mr_iconst (pc := 16) (z := (-1)) dX11_three_16 ?_
  exact mr_iret dX11_three_17 rfl (le_t rfl) (le_t rfl) hT mF.refl ⟨(rW (c := (-2147483648)) (d := 2147483647) (rR (x := (-1))) rfl), trivial⟩
theorem vc_X11_hear_11 {n1 p1 z125 z132 : Int} (h0 : z125 = n1) (h1 : (z132 = 1 → 0 ≤ p1 ∧ p1 < z125)) (h2 : (z132 = 0 → p1 < 0 ∨ z125 ≤ p1)) (h3 : 0 ≤ p1 ∧ p1 < z125) (h4 : ¬ z132 = 0) (h5 : 0 ≤ p1 ∧ p1 ≤ 19) (h6 : 0 ≤ z125 ∧ z125 ≤ 20) (h7 : 1 ≤ z132 ∧ z132 ≤ 1) : p1 < n1 := by omega
set_option maxRecDepth 4000 in
set_option maxHeartbeats 4000000 in
theorem c_X11_hear {l : Launch} {D : va_G} {c : Nat → ClassId} {H0 : Heap} {sa : Nat × Nat × (Nat → Int32)} {w : mW} {μ : mM} (hw : mWF w) (hT : mT w μ) {p1 : Int} (hp1 : (-2147483648) ≤ p1 ∧ p1 ≤ 2147483647) {p2 : Int} (hp2 : (-2147483648) ≤ p2 ∧ p2 ≤ 2147483647) {f_wd : Int} (q_f_wd : μ 76 13 = f_wd) {f_an : Int} (q_f_an : μ 76 14 = f_an) (hq0 : f_wd + f_an ≤ 1000) (hIPC : PC w μ) : sC (gG l D c H0 sa) mX11_hear 44 0 0 [.ref 0, iv p1, iv p2] (mk w μ) (qI w [21002, 21003, 21004, 21005, 21006, 21007, 32009, 32010, 33999, 34999, 66999, 200002, 200003, 200004, 200005, 200006, 200007, 200008, 200009, 200010, 200011, 201999, 202999, 213999] μ (fun z μ1 => ((-2147483648) ≤ z ∧ z ≤ 2147483647) ∧ True)) := by
  refine sC.of rfl (by decide) (le_t rfl) ?_
  have ht_f_wd : (0 ≤ f_wd ∧ f_wd ≤ 1000) := by rw [← q_f_wd]; exact hT 76 76 (A_76 hw) 13
  have ht_f_an : (0 ≤ f_an ∧ f_an ≤ 1000) := by rw [← q_f_an]; exact hT 76 76 (A_76 hw) 14
  refine mr_lvE (lv' := [(0, .ref 0), (1, iv p1), (2, iv p2)]) rfl ?_
  refine sv_aload_n (pc := 0) dX11_hear_0 rfl rfl ?_
  refine mr_iload_n (pc := 1) (z := p1) dX11_hear_1 rfl rfl ?_
  obtain ⟨z125, q126⟩ : ∃ z, μ 6 16 = z := ⟨_, rfl⟩
  have h127 : (z125 = w.2.2.2 1 ∧ 0 ≤ z125 ∧ z125 ≤ 20) := by rw [← q126]; exact hT 6 6 (A_6 hw) 16
  refine mr_cVP (pc := 2) (c_X11_isTie hw hT hp1 q126) (gOk _ _ _ _ _) dX11_hear_2 (tX11_isTie _ _ _ _ _) ⟨wV_X11_isTie, wL_X11_isTie⟩ wM_X11_119 (gCX11 _ _ _ _ _) rfl (A_0 hw) rfl ⟨le_t rfl, le_t rfl⟩ ⟨le_t rfl, le_t rfl⟩ rfl (le_t rfl) fun z132 h131 => ?_
  refine mr_if_eq (pc := 5) (tgt := 15) dX11_hear_5 (by decide) (r32 h131.1 rfl) (fun h133 => ?_) (fun h133 => ?_)
  · have h134 : 0 ≤ z132 ∧ z132 ≤ 0 := (vc_X12_pace_1 h133 h131.2.1 h131.2.2.1 hp1 h127.2 h131.1)
    have h135 : p1 < 0 ∨ z125 ≤ p1 := (h131.2.2.1 (vc_X11_pace_2 h131.2.1 h131.2.2.1 h133 h127.1 hp1 h127.2 h134))
    refine mr_iconst (pc := 15) (z := (-1)) dX11_hear_15 ?_
    exact mr_iret dX11_hear_16 rfl (le_t rfl) (le_t rfl) hT mF.refl ⟨(rW (c := (-2147483648)) (d := 2147483647) (rR (x := (-1))) rfl), trivial⟩
  have h136 : 1 ≤ z132 ∧ z132 ≤ 1 := (vc_X12_pace_3 h133 h131.2.1 h131.2.2.1 hp1 h127.2 h131.1)
  have h137 : 0 ≤ p1 ∧ p1 < z125 := (h131.2.1 (vc_X11_pace_4 h131.2.1 h131.2.2.1 h133 h127.1 hp1 h127.2 h136))
  have h138 : 0 ≤ p1 ∧ p1 ≤ 19 := (vc_X11_pace_5 h137 h127.1 h131.2.1 h131.2.2.1 hp1 h127.2 h136)
  refine mr_iload_n (pc := 8) (z := p2) dX11_hear_8 rfl rfl ?_
  refine mr_cSP (pc := 9) (c_X11_isEither hw hT hp2) (gOk _ _ _ _ _) dX11_hear_9 (tX11_isEither _ _ _ _ _) wS_X11_isEither wM_X11_271 ⟨le_t rfl, le_t rfl⟩ ⟨le_t rfl, le_t rfl⟩ rfl (le_t rfl) fun z143 h142 => ?_
  refine mr_if_ne (pc := 12) (tgt := 17) dX11_hear_12 (by decide) (r32 h142.1 rfl) (fun h144 => ?_) (fun h144 => ?_)
  · have h145 : 1 ≤ z143 ∧ z143 ≤ 1 := (vc_X11_heard_9 h144 h142.2.1 h142.2.2.1 hp2 h142.1)
    have h146 : 0 ≤ p2 ∧ p2 ≤ 1 := (h142.2.1 (vc_X11_heard_10 h142.2.1 h142.2.2.1 h144 hp2 h145))
    have h147 : 0 ≤ p2 ∧ p2 ≤ 1 := (vc_X11_heard_11 h146 h142.2.1 h142.2.2.1 hp2 h145)
    refine sv_aload_n (pc := 17) dX11_hear_17 rfl rfl ?_
    refine gf_X11_7 (pc := 18) dX11_hear_18 wF_X11_58 (A_0 hw) hT ?_
    refine gf_X3_16 (pc := 21) dX11_hear_21 wF_X11_344 (A_76 hw) hT fun z148 q149 h150 => ?_
    refine mr_if_eq (pc := 24) (tgt := 42) dX11_hear_24 (by decide) (r32 h150 rfl) (fun h151 => ?_) (fun h151 => ?_)
    · have h152 : 0 ≤ z148 ∧ z148 ≤ 0 := (vc_X12_ring_22 h151 h150)
      refine mr_bipush (pc := 42) (z := (-2)) dX11_hear_42 (by decide) ?_
      exact mr_iret dX11_hear_44 rfl (le_t rfl) (le_t rfl) hT mF.refl ⟨(rW (c := (-2147483648)) (d := 2147483647) (rR (x := (-2))) rfl), trivial⟩
    have h153 : 1 ≤ z148 ∧ z148 ≤ 1 := (vc_X12_ring_24 h151 h150)
    refine sv_aload_n (pc := 27) dX11_hear_27 rfl rfl ?_
    refine gf_X11_3 (pc := 28) dX11_hear_28 wF_X11_26 (A_0 hw) hT ?_
    refine gf_X10_4 (pc := 31) dX11_hear_31 wF_X11_122 (A_6 hw) hT ?_
    refine mr_iload_n (pc := 34) (z := p1) dX11_hear_34 rfl rfl ?_
    refine la_11 (pc := 35) dX11_hear_35 (A_11 hw) hT (rIx (n := 20) h138 rfl) (vc_X11_hear_11 h127.1 h131.2.1 h131.2.2.1 h137 h133 h138 h127.2 h136) fun b154 q155 A156 => ?_
    refine gf_X9_6 (pc := 36) dX11_hear_36 wF_X11_134 A156 hT fun z157 q158 h159 => ?_
    refine mr_if_ne (pc := 39) (tgt := 45) dX11_hear_39 (by decide) (r32 h159 rfl) (fun h160 => ?_) (fun h160 => ?_)
    · have h161 : 1 ≤ z157 ∧ z157 ≤ 1 := (vc_X12_ring_24 h160 h159)
      refine sv_aload_n (pc := 45) dX11_hear_45 rfl rfl ?_
      refine gf_X11_6 (pc := 46) dX11_hear_46 wF_X11_51 (A_0 hw) hT ?_
      refine sv_aload_n (pc := 49) dX11_hear_49 rfl rfl ?_
      refine gf_X11_7 (pc := 50) dX11_hear_50 wF_X11_58 (A_0 hw) hT ?_
      refine mr_iload_n (pc := 53) (z := p1) dX11_hear_53 rfl rfl ?_
      refine mr_iload_n (pc := 54) (z := p2) dX11_hear_54 rfl rfl ?_
      refine mr_cVI (pc := 55) (c_X8_takeIn hw hT (A_76 hw) h138 h147 q_f_wd q_f_an (vc_X11_hear_11 h127.1 h131.2.1 h131.2.2.1 h137 h133 h138 h127.2 h136) (vc_X3_told_5 hq0 ht_f_an ht_f_wd) hIPC) (gOk _ _ _ _ _) dX11_hear_55 (tX8_takeIn _ _ _ _ _) ⟨wV_X8_takeIn, wL_X8_takeIn⟩ wM_X11_347 (gCX8 _ _ _ _ _) rfl (A_32 hw) rfl ⟨le_t rfl, le_t rfl⟩ ⟨le_t rfl, le_t rfl⟩ rfl (le_t rfl) fun z166 μ162 T163 F164 h165 => ?_
      exact mr_iret dX11_hear_58 rfl (le_t rfl) (le_t rfl) T163 (mF.call mF.refl F164 rfl) ⟨h165.1, trivial⟩
    have h167 : 0 ≤ z157 ∧ z157 ≤ 0 := (vc_X12_ring_22 h160 h159)
    refine mr_bipush (pc := 42) (z := (-2)) dX11_hear_42 (by decide) ?_
    exact mr_iret dX11_hear_44 rfl (le_t rfl) (le_t rfl) hT mF.refl ⟨(rW (c := (-2147483648)) (d := 2147483647) (rR (x := (-2))) rfl), trivial⟩
  have h168 : 0 ≤ z143 ∧ z143 ≤ 0 := (vc_X11_heard_7 h144 h142.2.1 h142.2.2.1 hp2 h142.1)
  have h169 : p2 < 0 ∨ 1 < p2 := (h142.2.2.1 (vc_X11_heard_8 h142.2.1 h142.2.2.1 h144 hp2 h168))
  refine mr_iconst (pc := 15) (z := (-1)) dX11_hear_15 ?_
  exact mr_iret dX11_hear_16 rfl (le_t rfl) (le_t rfl) hT mF.refl ⟨(rW (c := (-2147483648)) (d := 2147483647) (rR (x := (-1))) rfl), trivial⟩
theorem vc_X2_partnerFor_2 {n1 z5 : Int} (h0 : 0 ≤ z5) (h1 : z5 = -99999999 ∨ z5 = -4 ∨ (0 ≤ z5 ∧ z5 ≤ 19)) (h2 : 0 ≤ z5 → z5 < n1) (h3 : (-99999999) ≤ z5 ∧ z5 ≤ 19) : 0 ≤ z5 ∧ z5 ≤ 19 := by omega
theorem vc_X2_partnerFor_3 {n1 z5 : Int} (h0 : z5 = -99999999 ∨ z5 = -4 ∨ (0 ≤ z5 ∧ z5 ≤ 19)) (h1 : 0 ≤ z5 → z5 < n1) (h2 : 0 ≤ z5) (h3 : 0 ≤ z5 ∧ z5 ≤ 19) : z5 < n1 := by omega
theorem vc_X2_partnerFor_4 {n0 p1 z20 : Int} (h0 : z20 < n0) (h1 : p1 < n0) (h2 : 0 ≤ p1 ∧ p1 ≤ 9) (h3 : 0 ≤ z20 ∧ z20 ≤ 9) : z20 = -99999999 ∨ z20 = -4 ∨ (0 ≤ z20 ∧ z20 ≤ 9) := by omega
theorem vc_X2_partnerFor_6 {n1 z5 : Int} (h0 : z5 < 0) (h1 : z5 = -99999999 ∨ z5 = -4 ∨ (0 ≤ z5 ∧ z5 ≤ 19)) (h2 : 0 ≤ z5 → z5 < n1) (h3 : (-99999999) ≤ z5 ∧ z5 ≤ 19) : (-99999999) ≤ z5 ∧ z5 ≤ (-4) := by omega
theorem vc_X2_partnerFor_7 {n1 z5 : Int} (h0 : z5 = -99999999 ∨ z5 = -4 ∨ (0 ≤ z5 ∧ z5 ≤ 19)) (h1 : 0 ≤ z5 → z5 < n1) (h2 : z5 < 0) (h3 : (-99999999) ≤ z5 ∧ z5 ≤ (-4)) : z5 = -99999999 ∨ z5 = -4 ∨ (0 ≤ z5 ∧ z5 ≤ 9) := by omega
theorem vc_X2_partnerFor_8 {n0 n1 p1 z5 : Int} (h0 : p1 < n0) (h1 : z5 = -99999999 ∨ z5 = -4 ∨ (0 ≤ z5 ∧ z5 ≤ 19)) (h2 : 0 ≤ z5 → z5 < n1) (h3 : z5 < 0) (h4 : 0 ≤ p1 ∧ p1 ≤ 9) (h5 : (-99999999) ≤ z5 ∧ z5 ≤ (-4)) : z5 < n0 := by omega
set_option maxRecDepth 4000 in
set_option maxHeartbeats 4000000 in
theorem c_X2_partnerFor {l : Launch} {D : va_G} {c : Nat → ClassId} {H0 : Heap} {sa : Nat × Nat × (Nat → Int32)} {w : mW} {μ : mM} (hw : mWF w) (hT : mT w μ) {p1 : Int} (hp1 : 0 ≤ p1 ∧ p1 ≤ 9) {p2 : Int} (hp2 : (-2147483648) ≤ p2 ∧ p2 ≤ 2147483647) (hq0 : p1 < w.2.2.2 0) : sC (gG l D c H0 sa) mX2_partnerFor 2 0 0 [.ref 87, iv p1, iv p2] (mk w μ) (qP w μ (fun z => ((-99999999) ≤ z ∧ z ≤ 9) ∧ (z = -99999999 ∨ z = -4 ∨ (0 ≤ z ∧ z ≤ 9)) ∧ (z < w.2.2.2 0) ∧ True)) := by
  refine sC.of rfl (by decide) (le_t rfl) ?_
  refine mr_lvE (lv' := [(0, .ref 87), (1, iv p1), (2, iv p2)]) rfl ?_
  refine sv_aload_n (pc := 0) dX2_partnerFor_0 rfl rfl ?_
  refine mr_iload_n (pc := 1) (z := p1) dX2_partnerFor_1 rfl rfl ?_
  refine mr_iload_n (pc := 2) (z := p2) dX2_partnerFor_2 rfl rfl ?_
  refine mr_cVP (pc := 3) (c_X2_tieFor hw hT hp1 hp2 (vc_X9_end_1 hq0 hp1)) (gOk _ _ _ _ _) dX2_partnerFor_3 (tX2_tieFor _ _ _ _ _) ⟨wV_X2_tieFor, wL_X2_tieFor⟩ wM_X2_60 (gCX2 _ _ _ _ _) rfl (A_87 hw) rfl ⟨le_t rfl, le_t rfl⟩ ⟨le_t rfl, le_t rfl⟩ rfl (le_t rfl) fun z5 h4 => ?_
  refine mr_istore_n (pc := 6) (lv' := [(3, iv z5), (0, .ref 87), (1, iv p1), (2, iv p2)]) dX2_partnerFor_6 rfl (by decide) rfl ?_
  refine mr_iload_n (pc := 7) (z := z5) dX2_partnerFor_7 rfl rfl ?_
  refine mr_if_ge (pc := 8) (tgt := 13) dX2_partnerFor_8 (by decide) (r32 h4.1 rfl) (fun h6 => ?_) (fun h6 => ?_)
  · have h7 : 0 ≤ z5 ∧ z5 ≤ 19 := (vc_X2_partnerFor_2 h6 h4.2.1 h4.2.2.1 h4.1)
    refine sv_aload_n (pc := 13) dX2_partnerFor_13 rfl rfl ?_
    refine gf_X2_0 (pc := 14) dX2_partnerFor_14 wF_X2_9 (A_87 hw) hT ?_
    refine gf_X10_4 (pc := 17) dX2_partnerFor_17 wF_X2_64 (A_6 hw) hT ?_
    refine mr_iload_n (pc := 20) (z := z5) dX2_partnerFor_20 rfl rfl ?_
    refine la_11 (pc := 21) dX2_partnerFor_21 (A_11 hw) hT (rIx (n := 20) h7 rfl) (vc_X2_partnerFor_3 h4.2.1 h4.2.2.1 h6 h7) fun b8 q9 A10 => ?_
    refine mr_astore (pc := 22) (lv' := [(4, .ref b8), (3, iv z5), (0, .ref 87), (1, iv p1), (2, iv p2)]) dX2_partnerFor_22 (by decide) rfl ?_
    refine sv_aload (pc := 24) dX2_partnerFor_24 rfl ?_
    refine mr_iconst (pc := 26) (z := 1) dX2_partnerFor_26 ?_
    refine sv_aload (pc := 27) dX2_partnerFor_27 rfl ?_
    refine mr_iload_n (pc := 29) (z := p1) dX2_partnerFor_29 rfl rfl ?_
    refine mr_cVP (pc := 30) (c_X9_sideOf hw hT A10 (rW (c := (-2147483648)) (d := 2147483647) hp1 rfl)) (gOk _ _ _ _ _) dX2_partnerFor_30 (tX9_sideOf _ _ _ _ _) ⟨wV_X9_sideOf, wL_X9_sideOf⟩ wM_X2_68 (gCX9 _ _ _ _ _) rfl A10 rfl ⟨le_t rfl, le_t rfl⟩ ⟨le_t rfl, le_t rfl⟩ rfl (le_t rfl) fun z15 h14 => ?_
    refine mr_isub (pc := 33) (x := 1) (y := z15) dX2_partnerFor_33 ?_
    refine mr_cVP (pc := 34) (c_X9_end hw hT A10 (rW (c := (-2147483648)) (d := 2147483647) (rSub (e := 0) (f := 2) (rR (x := 1)) h14.1 rfl) rfl)) (gOk _ _ _ _ _) dX2_partnerFor_34 (tX9_end _ _ _ _ _) ⟨wV_X9_end, wL_X9_end⟩ wM_X2_74 (gCX9 _ _ _ _ _) rfl A10 rfl ⟨le_t rfl, le_t rfl⟩ ⟨le_t rfl, le_t rfl⟩ rfl (le_t rfl) fun z20 h19 => ?_
    exact mr_iretP dX2_partnerFor_37 rfl (le_t rfl) (le_t rfl) ⟨(rW (c := (-99999999)) (d := 9) h19.1 rfl), (vc_X2_partnerFor_4 h19.2.1 hq0 hp1 h19.1), (vc_X11_raise_10 hq0 h19.2.1 hp1 h19.1), trivial⟩
  have h21 : (-99999999) ≤ z5 ∧ z5 ≤ (-4) := (vc_X2_partnerFor_6 h6 h4.2.1 h4.2.2.1 h4.1)
  refine mr_iload_n (pc := 11) (z := z5) dX2_partnerFor_11 rfl rfl ?_
  exact mr_iretP dX2_partnerFor_12 rfl (le_t rfl) (le_t rfl) ⟨(rW (c := (-99999999)) (d := 9) h21 rfl), (vc_X2_partnerFor_7 h4.2.1 h4.2.2.1 h6 h21), (vc_X2_partnerFor_8 hq0 h4.2.1 h4.2.2.1 h6 hp1 h21), trivial⟩
theorem vc_X2_travel_1 {n0 p1 : Int} (h0 : p1 < n0) (h1 : 0 ≤ p1 ∧ p1 ≤ 9) : 0 ≤ p1 ∧ p1 ≤ 9 ∧ (p1 = 0 ∨ p1 < n0) := by omega
theorem vc_X2_travel_2 {f_s z318 : Int} (h0 : (11 - z318) < ((0 : Nat) : Int)) (h1 : f_s = z318 + 1) (h2 : 0 ≤ z318 ∧ z318 ≤ 10) : False := by omega
theorem vc_X2_travel_3 {f_s z318 : Int} (h0 : 10 ≤ z318) (h1 : f_s = z318 + 1) (h2 : 0 ≤ f_s ∧ f_s ≤ 11) (h3 : 0 ≤ z318 ∧ z318 ≤ 10) : 10 ≤ z318 ∧ z318 ≤ 10 := by omega
theorem vc_X2_travel_4 {f_s z318 : Int} (h0 : z318 < 10) (h1 : f_s = z318 + 1) (h2 : 0 ≤ f_s ∧ f_s ≤ 11) (h3 : 0 ≤ z318 ∧ z318 ≤ 10) : 0 ≤ z318 ∧ z318 ≤ 9 := by omega
theorem vc_X2_travel_5 {n0 p1 z335 : Int} (h0 : p1 < n0) (h1 : (z335 = 0 ∨ z335 < n0)) (h2 : 0 ≤ p1 ∧ p1 ≤ 9) (h3 : 0 ≤ z335 ∧ z335 ≤ 9) : z335 < n0 := by omega
theorem vc_X2_travel_6 {n0 z343 : Int} (h0 : 0 ≤ z343) (h1 : z343 = -99999999 ∨ z343 = -4 ∨ (0 ≤ z343 ∧ z343 ≤ 9)) (h2 : z343 < n0) (h3 : (-99999999) ≤ z343 ∧ z343 ≤ 9) : 0 ≤ z343 ∧ z343 ≤ 9 := by omega
theorem vc_X2_travel_7 {f_s z318 : Int} (h0 : f_s = z318 + 1) (h1 : z318 < 10) (h2 : 0 ≤ f_s ∧ f_s ≤ 11) (h3 : 0 ≤ z318 ∧ z318 ≤ 9) : 0 ≤ f_s ∧ f_s < 11 := by omega
theorem vc_X2_travel_8 {n0 p1 z335 z343 : Int} (h0 : p1 < n0) (h1 : (z335 = 0 ∨ z335 < n0)) (h2 : z343 = -99999999 ∨ z343 = -4 ∨ (0 ≤ z343 ∧ z343 ≤ 9)) (h3 : z343 < n0) (h4 : 0 ≤ z343) (h5 : 0 ≤ p1 ∧ p1 ≤ 9) (h6 : 0 ≤ z335 ∧ z335 ≤ 9) (h7 : 0 ≤ z343 ∧ z343 ≤ 9) : 0 ≤ z343 ∧ z343 ≤ 9 ∧ (z343 = 0 ∨ z343 < n0) := by omega
theorem vc_X2_travel_9 {f_s z318 : Int} (h0 : f_s = z318 + 1) (h1 : z318 < 10) (h2 : 0 ≤ f_s ∧ f_s ≤ 11) (h3 : 0 ≤ z318 ∧ z318 ≤ 9) : 0 ≤ (f_s + 1) ∧ (f_s + 1) ≤ 11 := by omega
theorem vc_X2_travel_11 {f_s z318 : Int} (h0 : f_s = z318 + 1) (h1 : z318 < 10) (h2 : 0 ≤ f_s ∧ f_s ≤ 11) (h3 : 0 ≤ z318 ∧ z318 ≤ 9) : (f_s + 1) = (z318 + 1) + 1 := by omega
theorem vc_X2_travel_12 {N f_s z318 : Int} (h0 : (11 - z318) < N + 1) (h1 : f_s = z318 + 1) (h2 : z318 < 10) (h3 : 0 ≤ f_s ∧ f_s ≤ 11) (h4 : 0 ≤ z318 ∧ z318 ≤ 9) : (11 - (z318 + 1)) < N := by omega
theorem vc_X2_travel_14 {n0 z343 : Int} (h0 : z343 < 0) (h1 : z343 = -99999999 ∨ z343 = -4 ∨ (0 ≤ z343 ∧ z343 ≤ 9)) (h2 : z343 < n0) (h3 : (-99999999) ≤ z343 ∧ z343 ≤ 9) : (-99999999) ≤ z343 ∧ z343 ≤ (-4) := by omega
theorem vc_X2_travel_15 {n0 z343 : Int} (h0 : ¬ z343 = (-4)) (h1 : z343 = -99999999 ∨ z343 = -4 ∨ (0 ≤ z343 ∧ z343 ≤ 9)) (h2 : z343 < n0) (h3 : z343 < 0) (h4 : (-99999999) ≤ z343 ∧ z343 ≤ (-4)) : (-99999999) ≤ z343 ∧ z343 ≤ (-99999999) := by omega
theorem vc_X2_travel_16 {n0 z343 : Int} (h0 : z343 = (-4)) (h1 : z343 = -99999999 ∨ z343 = -4 ∨ (0 ≤ z343 ∧ z343 ≤ 9)) (h2 : z343 < n0) (h3 : z343 < 0) (h4 : (-99999999) ≤ z343 ∧ z343 ≤ (-4)) : (-4) ≤ z343 ∧ z343 ≤ (-4) := by omega
theorem vc_X2_travel_17  : ((1 : Int) : Int) = ((0 : Int) : Int) + (1 : Int) := by omega
set_option maxRecDepth 4000 in
set_option maxHeartbeats 4000000 in
theorem c_X2_travel {l : Launch} {D : va_G} {c : Nat → ClassId} {H0 : Heap} {sa : Nat × Nat × (Nat → Int32)} {w : mW} {μ : mM} (hw : mWF w) (hT : mT w μ) {p1 : Int} (hp1 : 0 ≤ p1 ∧ p1 ≤ 9) {p2 : Int} (hp2 : (-2147483648) ≤ p2 ∧ p2 ≤ 2147483647) (hq0 : p1 < w.2.2.2 0) : sC (gG l D c H0 sa) mX2_travel 3 0 0 [.ref 87, iv p1, iv p2] (mk w μ) (qI w [87006, 88999] μ (fun z μ1 => ((-2147483648) ≤ z ∧ z ≤ 2147483647) ∧ True)) := by
  refine sC.of rfl (by decide) (le_t rfl) ?_
  refine mr_lvE (lv' := [(0, .ref 87), (1, iv p1), (2, iv p2)]) rfl ?_
  refine sv_aload_n (pc := 0) dX2_travel_0 rfl rfl ?_
  refine gf_X2_1 (pc := 1) dX2_travel_1 wF_X2_15 (A_87 hw) hT ?_
  refine mr_iconst (pc := 4) (z := 0) dX2_travel_4 ?_
  refine mr_iload_n (pc := 5) (z := p1) dX2_travel_5 rfl rfl ?_
  refine ss_88 (pc := 6) dX2_travel_6 (A_88 hw) hT (rIx (n := 11) (rR (x := 0)) rfl) (vc_X2_travel_1 hq0 hp1) fun μ1 u2 T3 => ?_
  refine sv_aload_n (pc := 7) dX2_travel_7 rfl rfl ?_
  refine mr_iconst (pc := 8) (z := 1) dX2_travel_8 ?_
  refine pf_X2_6 (pc := 9) dX2_travel_9 wF_X2_77 (A_87 hw) T3 (rW (c := 0) (d := 11) (rR (x := 1)) rfl) fun μ4 u5 T6 => ?_
  refine mr_iconst (pc := 12) (z := 1) dX2_travel_12 ?_
  refine mr_iload_n (pc := 13) (z := p1) dX2_travel_13 rfl rfl ?_
  refine mr_ishl (pc := 14) (x := 1) (y := p1) dX2_travel_14 ?_
  refine mr_gen (P := fun z => (-2147483648) ≤ z ∧ z ≤ 2147483647) (r32i _) fun z7 q8 h9 => ?_
  refine mr_istore_n (pc := 15) (lv' := [(3, iv z7), (0, .ref 87), (1, iv p1), (2, iv p2)]) dX2_travel_15 rfl (by decide) rfl ?_
  refine mr_iconst (pc := 16) (z := 0) dX2_travel_16 ?_
  refine mr_istore (pc := 17) (lv' := [(4, iv 0), (3, iv z7), (0, .ref 87), (1, iv p1), (2, iv p2)]) dX2_travel_17 (by decide) rfl ?_
  have L321 : ∀ (nL321 : Nat) (z319 z318 : Int) (μ320 : mM) (f_s : Int), mT w μ320 → mF [87006, 88999] w μ4 μ320 → μ320 87 (6) = f_s → ((-2147483648) ≤ z319 ∧ z319 ≤ 2147483647) → (0 ≤ z318 ∧ z318 ≤ 10) → (f_s = z318 + 1) → (11 - z318) < (nL321 : Int) → sV (gG l D c H0 sa) mX2_travel (sRm 3 0 0) (sZ (gG l D c H0 sa) 0 0 (qI w [87006, 88999] μ (fun z μ1 => ((-2147483648) ≤ z ∧ z ≤ 2147483647) ∧ True))) 19 [(0, .ref 87), (2, iv p2), (3, iv z319), (4, iv z318)] [] (mk w μ320) 0 0 := by
    intro nL321
    induction nL321 with
    | zero => intro z319 z318 μ320 f_s T324 F325 q329 h322 h323 h327 h328; exact ((vc_X2_travel_2 h328 h327 h323)).elim
    | succ nL321 ih330 =>
      intro z319 z318 μ320 f_s T324 F325 q329 h322 h323 h327 h328
      have h331 : (0 ≤ f_s ∧ f_s ≤ 11) := by rw [← q329]; exact T324 87 87 (A_87 hw) (6)
      refine mr_iload (pc := 19) (z := z318) dX2_travel_19 rfl ?_
      refine mr_bipush (pc := 21) (z := 10) dX2_travel_21 (by decide) ?_
      refine mr_icmp_ge (pc := 23) (tgt := 103) dX2_travel_23 (by decide) (r32 h323 rfl) (r32 (rR (x := 10)) rfl) (fun h332 => ?_) (fun h332 => ?_)
      · have h333 : 10 ≤ z318 ∧ z318 ≤ 10 := (vc_X2_travel_3 h332 h327 h331 h323)
        refine mr_iconst (pc := 103) (z := 2) dX2_travel_103 ?_
        exact mr_iret dX2_travel_104 rfl (le_t rfl) (le_t rfl) T324 (mF.call (mF.up (mF.up mF.refl (A_88 hw) u2 rfl) (A_87 hw) u5 rfl) F325 rfl) ⟨(rW (c := (-2147483648)) (d := 2147483647) (rR (x := 2)) rfl), trivial⟩
      have h334 : 0 ≤ z318 ∧ z318 ≤ 9 := (vc_X2_travel_4 h332 h327 h331 h323)
      refine sv_aload_n (pc := 26) dX2_travel_26 rfl rfl ?_
      refine sv_aload_n (pc := 27) dX2_travel_27 rfl rfl ?_
      refine gf_X2_1 (pc := 28) dX2_travel_28 wF_X2_15 (A_87 hw) T324 ?_
      refine mr_iload (pc := 31) (z := z318) dX2_travel_31 rfl ?_
      refine la_88 (pc := 33) dX2_travel_33 (A_88 hw) T324 (rIx (n := 11) h334 rfl) fun z335 q336 h337 => ?_
      have h338 : 0 ≤ z335 ∧ z335 ≤ 9 := ⟨h337.1, h337.2.1⟩
      refine mr_iload_n (pc := 34) (z := p2) dX2_travel_34 rfl rfl ?_
      refine mr_cVP (pc := 35) (c_X2_partnerFor hw T324 h338 hp2 (vc_X2_travel_5 hq0 h337.2.2 hp1 h338)) (gOk _ _ _ _ _) dX2_travel_35 (tX2_partnerFor _ _ _ _ _) ⟨wV_X2_partnerFor, wL_X2_partnerFor⟩ wM_X2_80 (gCX2 _ _ _ _ _) rfl (A_87 hw) rfl ⟨le_t rfl, le_t rfl⟩ ⟨le_t rfl, le_t rfl⟩ rfl (le_t rfl) fun z343 h342 => ?_
      refine mr_istore (pc := 38) (lv' := [(5, iv z343), (0, .ref 87), (2, iv p2), (3, iv z319), (4, iv z318)]) dX2_travel_38 (by decide) rfl ?_
      refine mr_iload (pc := 40) (z := z343) dX2_travel_40 rfl ?_
      refine mr_if_ge (pc := 42) (tgt := 58) dX2_travel_42 (by decide) (r32 h342.1 rfl) (fun h344 => ?_) (fun h344 => ?_)
      · have h345 : 0 ≤ z343 ∧ z343 ≤ 9 := (vc_X2_travel_6 h344 h342.2.1 h342.2.2.1 h342.1)
        refine sv_aload_n (pc := 58) dX2_travel_58 rfl rfl ?_
        refine gf_X2_1 (pc := 59) dX2_travel_59 wF_X2_15 (A_87 hw) T324 ?_
        refine sv_aload_n (pc := 62) dX2_travel_62 rfl rfl ?_
        refine gk_X2_6 (pc := 63) dX2_travel_63 wF_X2_77 (A_87 hw) q329 ?_
        refine mr_iload (pc := 66) (z := z343) dX2_travel_66 rfl ?_
        refine ss_88 (pc := 68) dX2_travel_68 (A_88 hw) T324 (vc_X2_travel_7 h327 h332 h331 h334) (vc_X2_travel_8 hq0 h337.2.2 h342.2.1 h342.2.2.1 h344 hp1 h338 h345) fun μ346 u347 T348 => ?_
        refine sv_aload_n (pc := 69) dX2_travel_69 rfl rfl ?_
        refine sv_dup (pc := 70) dX2_travel_70 rfl ?_
        refine gk_X2_6 (pc := 71) dX2_travel_71 wF_X2_77 (A_87 hw) (u347.f (Or.inl (mAt.ne (A_88 hw) (A_87 hw) rfl)) q329) ?_
        refine mr_iconst (pc := 74) (z := 1) dX2_travel_74 ?_
        refine mr_iadd (pc := 75) (x := f_s) (y := 1) dX2_travel_75 ?_
        refine pf_X2_6 (pc := 76) dX2_travel_76 wF_X2_77 (A_87 hw) T348 (vc_X2_travel_9 h327 h332 h331 h334) fun μ349 u350 T351 => ?_
        refine mr_iload_n (pc := 79) (z := z319) dX2_travel_79 rfl rfl ?_
        refine mr_iload (pc := 80) (z := z343) dX2_travel_80 rfl ?_
        refine mr_ishr (pc := 82) (x := z319) (y := z343) dX2_travel_82 ?_
        refine mr_gen (P := fun z => (-2147483648) ≤ z ∧ z ≤ 2147483647) (r32i _) fun z352 q353 h354 => ?_
        refine mr_iconst (pc := 83) (z := 1) dX2_travel_83 ?_
        refine mr_iand (pc := 84) (x := z352) (y := 1) dX2_travel_84 ?_
        refine mr_gen (P := fun z => 0 ≤ z ∧ z ≤ 1) (rAndR (rR (x := 1)) rfl) fun z355 q356 h357 => ?_
        refine mr_if_eq (pc := 85) (tgt := 90) dX2_travel_85 (by decide) (r32 h357 rfl) (fun h358 => ?_) (fun h358 => ?_)
        · have h359 : 0 ≤ z355 ∧ z355 ≤ 0 := (vc_X12_ring_22 h358 h357)
          refine mr_iload_n (pc := 90) (z := z319) dX2_travel_90 rfl rfl ?_
          refine mr_iconst (pc := 91) (z := 1) dX2_travel_91 ?_
          refine mr_iload (pc := 92) (z := z343) dX2_travel_92 rfl ?_
          refine mr_ishl (pc := 94) (x := 1) (y := z343) dX2_travel_94 ?_
          refine mr_gen (P := fun z => (-2147483648) ≤ z ∧ z ≤ 2147483647) (r32i _) fun z360 q361 h362 => ?_
          refine mr_ior (pc := 95) (x := z319) (y := z360) dX2_travel_95 ?_
          refine mr_gen (P := fun z => (-2147483648) ≤ z ∧ z ≤ 2147483647) (r32i _) fun z363 q364 h365 => ?_
          refine mr_istore_n (pc := 96) (lv' := [(3, iv z363), (5, iv z343), (0, .ref 87), (2, iv p2), (4, iv z318)]) dX2_travel_96 rfl (by decide) rfl ?_
          refine mr_iinc (pc := 97) (lv' := [(4, iv (z318 + 1)), (3, iv z363), (5, iv z343), (0, .ref 87), (2, iv p2)]) dX2_travel_97 rfl (by decide) rfl ?_
          refine sv_goto (pc := 100) (tgt := 19) dX2_travel_100 (by decide) ?_
          refine mr_lvS (lv' := [(0, .ref 87), (2, iv p2), (3, iv z363), (4, iv (z318 + 1))]) (List.forall_mem_cons.mpr ⟨rfl, List.forall_mem_cons.mpr ⟨rfl, List.forall_mem_cons.mpr ⟨rfl, List.forall_mem_cons.mpr ⟨rfl, fun _ h => absurd h List.not_mem_nil⟩⟩⟩⟩) ?_
          exact ih330 z363 (z318 + 1) μ349 (f_s + 1) T351 (mF.up (mF.up (mF.call mF.refl F325 rfl) (A_88 hw) u347 rfl) (A_87 hw) u350 rfl) u350.1 h365 (rW (c := 0) (d := 10) (rAdd (e := 1) (f := 10) h334 (rR (x := 1)) rfl) rfl) (vc_X2_travel_11 h327 h332 h331 h334) (vc_X2_travel_12 (nS h328) h327 h332 h331 h334)
        have h366 : 1 ≤ z355 ∧ z355 ≤ 1 := (vc_X12_ring_24 h358 h357)
        refine mr_iconst (pc := 88) (z := 2) dX2_travel_88 ?_
        exact mr_iret dX2_travel_89 rfl (le_t rfl) (le_t rfl) T351 (mF.up (mF.up (mF.call (mF.up (mF.up mF.refl (A_88 hw) u2 rfl) (A_87 hw) u5 rfl) F325 rfl) (A_88 hw) u347 rfl) (A_87 hw) u350 rfl) ⟨(rW (c := (-2147483648)) (d := 2147483647) (rR (x := 2)) rfl), trivial⟩
      have h367 : (-99999999) ≤ z343 ∧ z343 ≤ (-4) := (vc_X2_travel_14 h344 h342.2.1 h342.2.2.1 h342.1)
      refine mr_iload (pc := 45) (z := z343) dX2_travel_45 rfl ?_
      refine mr_bipush (pc := 47) (z := (-4)) dX2_travel_47 (by decide) ?_
      refine mr_icmp_ne (pc := 49) (tgt := 56) dX2_travel_49 (by decide) (r32 h367 rfl) (r32 (rR (x := (-4))) rfl) (fun h370 => ?_) (fun h370 => ?_)
      · have h371 : (-99999999) ≤ z343 ∧ z343 ≤ (-99999999) := (vc_X2_travel_15 h370 h342.2.1 h342.2.2.1 h344 h367)
        refine mr_iconst (pc := 56) (z := 1) dX2_travel_56 ?_
        exact mr_iret dX2_travel_57 rfl (le_t rfl) (le_t rfl) T324 (mF.call (mF.up (mF.up mF.refl (A_88 hw) u2 rfl) (A_87 hw) u5 rfl) F325 rfl) ⟨(rW (c := (-2147483648)) (d := 2147483647) (rR (x := 1)) rfl), trivial⟩
      have h372 : (-4) ≤ z343 ∧ z343 ≤ (-4) := (vc_X2_travel_16 h370 h342.2.1 h342.2.2.1 h344 h367)
      refine mr_iconst (pc := 52) (z := 0) dX2_travel_52 ?_
      refine sv_goto (pc := 53) (tgt := 57) dX2_travel_53 (by decide) ?_
      exact mr_iret dX2_travel_57 rfl (le_t rfl) (le_t rfl) T324 (mF.call (mF.up (mF.up mF.refl (A_88 hw) u2 rfl) (A_87 hw) u5 rfl) F325 rfl) ⟨(rW (c := (-2147483648)) (d := 2147483647) (rR (x := 0)) rfl), trivial⟩
  refine mr_lvS (lv' := [(0, .ref 87), (2, iv p2), (3, iv z7), (4, iv 0)]) (List.forall_mem_cons.mpr ⟨rfl, List.forall_mem_cons.mpr ⟨rfl, List.forall_mem_cons.mpr ⟨rfl, List.forall_mem_cons.mpr ⟨rfl, fun _ h => absurd h List.not_mem_nil⟩⟩⟩⟩) ?_
  exact L321 12 z7 0 μ4 1 T6 mF.refl u5.1 h9 (rW (c := 0) (d := 10) (rR (x := 0)) rfl) vc_X2_travel_17 vc_X12_ring_27
theorem vc_X2_send_3 {z6 : Int} (h0 : 0 ≤ z6 ∧ z6 ≤ 11) : 0 ≤ z6 := by omega
theorem vc_X2_send_4 {z6 : Int} (h0 : 0 ≤ z6 ∧ z6 ≤ 11) : 0 + z6 ≤ ((11 : Nat) : Int) := by omega
set_option maxRecDepth 4000 in
set_option maxHeartbeats 4000000 in
theorem c_X2_send {l : Launch} {D : va_G} {c : Nat → ClassId} {H0 : Heap} {sa : Nat × Nat × (Nat → Int32)} {w : mW} {μ : mM} (hw : mWF w) (hT : mT w μ) {p1 : Int} (hp1 : 0 ≤ p1 ∧ p1 ≤ 9) {p2 : Int} (hp2 : (-2147483648) ≤ p2 ∧ p2 ≤ 2147483647) (hq0 : p1 < w.2.2.2 0) : sC (gG l D c H0 sa) mX2_send 4 0 0 [.ref 87, iv p1, iv p2] (mk w μ) (qI w [87006, 87009, 88999, 89999] μ (fun z μ1 => ((-2147483648) ≤ z ∧ z ≤ 2147483647) ∧ True)) := by
  refine sC.of rfl (by decide) (le_t rfl) ?_
  refine mr_lvE (lv' := [(0, .ref 87), (1, iv p1), (2, iv p2)]) rfl ?_
  refine sv_aload_n (pc := 0) dX2_send_0 rfl rfl ?_
  refine mr_iload_n (pc := 1) (z := p1) dX2_send_1 rfl rfl ?_
  refine mr_iload_n (pc := 2) (z := p2) dX2_send_2 rfl rfl ?_
  refine mr_cVI (pc := 3) (c_X2_travel hw hT hp1 hp2 (vc_X9_end_1 hq0 hp1)) (gOk _ _ _ _ _) dX2_send_3 (tX2_travel _ _ _ _ _) ⟨wV_X2_travel, wL_X2_travel⟩ wM_X2_83 (gCX2 _ _ _ _ _) rfl (A_87 hw) rfl ⟨le_t rfl, le_t rfl⟩ ⟨le_t rfl, le_t rfl⟩ rfl (le_t rfl) fun z5 μ1 T2 F3 h4 => ?_
  refine mr_istore_n (pc := 6) (lv' := [(3, iv z5), (0, .ref 87), (1, iv p1), (2, iv p2)]) dX2_send_6 rfl (by decide) rfl ?_
  refine sv_aload_n (pc := 7) dX2_send_7 rfl rfl ?_
  refine gf_X2_1 (pc := 8) dX2_send_8 wF_X2_15 (A_87 hw) T2 ?_
  refine mr_iconst (pc := 11) (z := 0) dX2_send_11 ?_
  refine sv_aload_n (pc := 12) dX2_send_12 rfl rfl ?_
  refine gf_X2_8 (pc := 13) dX2_send_13 wF_X2_19 (A_87 hw) T2 ?_
  refine mr_iconst (pc := 16) (z := 0) dX2_send_16 ?_
  refine sv_aload_n (pc := 17) dX2_send_17 rfl rfl ?_
  refine gf_X2_6 (pc := 18) dX2_send_18 wF_X2_77 (A_87 hw) T2 fun z6 q7 h8 => ?_
  refine mr_ac (pc := 21) (sp := 0) (dp := 0) (n := z6) dX2_send_21 wM_X2_86 wN_J_ac wS_J_ac wI_J_sys rfl (A_88 hw) rfl (A_89 hw) rfl vc_X7_become_1 vc_X7_become_1 (vc_X2_send_3 h8) (by have h := (A_88 hw).2.2.2 rfl; rw [h]; exact (vc_X2_send_4 h8)) (by have h := (A_89 hw).2.2.2 rfl; rw [h]; exact (vc_X2_send_4 h8)) (Nat.le_trans (A_88 hw).2.2.1 (le_t rfl)) (Nat.le_trans (A_89 hw).2.2.1 (le_t rfl)) (le_t rfl) (le_t rfl) (le_t rfl) T2 (fun i j _ _ => rW (a := 0) (b := 9) ⟨(T2 _ _ (A_88 hw) i).1, (T2 _ _ (A_88 hw) i).2.1⟩ rfl) fun μ9 q10 T11 => ?_
  have F12 : mF [89999] w μ1 μ9 := mF.cell q10.1 (A_89 hw) rfl
  refine sv_aload_n (pc := 24) dX2_send_24 rfl rfl ?_
  refine sv_aload_n (pc := 25) dX2_send_25 rfl rfl ?_
  refine gk_X2_6 (pc := 26) dX2_send_26 wF_X2_77 (A_87 hw) (F12.f (A_87 hw) rfl q7) ?_
  refine pf_X2_9 (pc := 29) dX2_send_29 wF_X2_92 (A_87 hw) T11 h8 fun μ13 u14 T15 => ?_
  refine mr_iload_n (pc := 32) (z := z5) dX2_send_32 rfl rfl ?_
  exact mr_iret dX2_send_33 rfl (le_t rfl) (le_t rfl) T15 (mF.up (mF.call (mF.call mF.refl F3 rfl) F12 rfl) (A_87 hw) u14 rfl) ⟨h4.1, trivial⟩
theorem vc_X2_unitsOver_1 {z651 : Int} (h0 : (17 - z651) < ((0 : Nat) : Int)) (h1 : 0 ≤ z651 ∧ z651 ≤ 16) : False := by omega
theorem vc_X2_unitsOver_2 {n0 z651 z662 : Int} (h0 : z651 < z662) (h1 : (z662 = 0 ∨ 0 < n0)) (h2 : 0 ≤ z651 ∧ z651 ≤ 16) (h3 : 0 ≤ z662 ∧ z662 ≤ 16) : 0 ≤ z651 ∧ z651 ≤ 15 := by omega
theorem vc_X2_unitsOver_3 {n0 z651 z662 : Int} (h0 : z651 < z662) (h1 : (z662 = 0 ∨ 0 < n0)) (h2 : 0 ≤ z651 ∧ z651 ≤ 15) (h3 : 0 ≤ z662 ∧ z662 ≤ 16) : 1 ≤ z662 ∧ z662 ≤ 16 := by omega
theorem vc_X2_unitsOver_4 {n0 z651 z662 z727 : Int} (h0 : (z662 = 0 ∨ 0 < n0)) (h1 : (z727 = 0 ∨ z727 < n0)) (h2 : z651 < z662) (h3 : 0 ≤ z651 ∧ z651 ≤ 15) (h4 : 1 ≤ z662 ∧ z662 ≤ 16) (h5 : 0 ≤ z727 ∧ z727 ≤ 9) : z727 < n0 := by omega
theorem vc_X2_unitsOver_6 {N n0 z651 z662 : Int} (h0 : (17 - z651) < N + 1) (h1 : z651 < z662) (h2 : (z662 = 0 ∨ 0 < n0)) (h3 : 0 ≤ z651 ∧ z651 ≤ 15) (h4 : 1 ≤ z662 ∧ z662 ≤ 16) : (17 - (z651 + 1)) < N := by omega
theorem vc_X2_unitsOver_7 {z893 z903 : Int} (h0 : (z893 + 1) < z903) (h1 : 0 ≤ z893 ∧ z893 ≤ 10) (h2 : 0 ≤ z903 ∧ z903 ≤ 11) : 0 ≤ z893 ∧ z893 ≤ 9 := by omega
theorem vc_X2_unitsOver_8 {z893 z903 : Int} (h0 : (z893 + 1) < z903) (h1 : 0 ≤ z893 ∧ z893 ≤ 9) (h2 : 0 ≤ z903 ∧ z903 ≤ 11) : 2 ≤ z903 ∧ z903 ≤ 11 := by omega
theorem vc_X2_unitsOver_9 {N z893 z903 : Int} (h0 : (11 - z893) < N + 1) (h1 : (z893 + 1) < z903) (h2 : 0 ≤ z893 ∧ z893 ≤ 9) (h3 : 2 ≤ z903 ∧ z903 ≤ 11) : (11 - (z893 + 1)) < N := by omega
theorem vc_X2_unitsOver_10 {n0 p1 z926 : Int} (h0 : z926 = p1) (h1 : (z926 = 0 ∨ z926 < n0)) (h2 : (-2147483648) ≤ p1 ∧ p1 ≤ 2147483647) (h3 : 0 ≤ z926 ∧ z926 ≤ 9) : 0 ≤ p1 ∧ p1 ≤ 9 := by omega
theorem vc_X2_unitsOver_13  : (17 - 0) < ((18 : Nat) : Int) := by omega
set_option maxRecDepth 4000 in
set_option maxHeartbeats 4000000 in
theorem c_X2_unitsOver {l : Launch} {D : va_G} {c : Nat → ClassId} {H0 : Heap} {sa : Nat × Nat × (Nat → Int32)} {w : mW} {μ : mM} (hw : mWF w) (hT : mT w μ) {p1 : Int} (hp1 : (-2147483648) ≤ p1 ∧ p1 ≤ 2147483647) {p2 : Int} (hp2 : (-2147483648) ≤ p2 ∧ p2 ≤ 2147483647) : sC (gG l D c H0 sa) mX2_unitsOver 4 0 0 [.ref 87, iv p1, iv p2] (mk w μ) (qI w [87006, 88999] μ (fun z μ1 => ((-2147483648) ≤ z ∧ z ≤ 2147483647) ∧ True)) := by
  refine sC.of rfl (by decide) (le_t rfl) ?_
  refine mr_lvE (lv' := [(0, .ref 87), (1, iv p1), (2, iv p2)]) rfl ?_
  refine mr_iconst (pc := 0) (z := 0) dX2_unitsOver_0 ?_
  refine mr_istore_n (pc := 1) (lv' := [(3, iv 0), (0, .ref 87), (1, iv p1), (2, iv p2)]) dX2_unitsOver_1 rfl (by decide) rfl ?_
  refine mr_iconst (pc := 2) (z := 0) dX2_unitsOver_2 ?_
  refine mr_istore (pc := 3) (lv' := [(4, iv 0), (3, iv 0), (0, .ref 87), (1, iv p1), (2, iv p2)]) dX2_unitsOver_3 (by decide) rfl ?_
  have L654 : ∀ (nL654 : Nat) (z652 z651 : Int) (μ653 : mM), mT w μ653 → mF [87006, 88999] w μ μ653 → ((-2147483648) ≤ z652 ∧ z652 ≤ 2147483647) → (0 ≤ z651 ∧ z651 ≤ 16) → (17 - z651) < (nL654 : Int) → sV (gG l D c H0 sa) mX2_unitsOver (sRm 4 0 0) (sZ (gG l D c H0 sa) 0 0 (qI w [87006, 88999] μ (fun z μ1 => ((-2147483648) ≤ z ∧ z ≤ 2147483647) ∧ True))) 5 [(0, .ref 87), (1, iv p1), (2, iv p2), (3, iv z652), (4, iv z651)] [] (mk w μ653) 0 0 := by
    intro nL654
    induction nL654 with
    | zero => intro z652 z651 μ653 T657 F658 h655 h656 h660; exact ((vc_X2_unitsOver_1 h660 h656)).elim
    | succ nL654 ih661 =>
      intro z652 z651 μ653 T657 F658 h655 h656 h660
      refine mr_iload (pc := 5) (z := z651) dX2_unitsOver_5 rfl ?_
      refine sv_aload_n (pc := 7) dX2_unitsOver_7 rfl rfl ?_
      refine gf_X2_10 (pc := 8) dX2_unitsOver_8 wF_X2_95 (A_87 hw) T657 fun z662 q663 h664 => ?_
      have h665 : 0 ≤ z662 ∧ z662 ≤ 16 := ⟨h664.1, h664.2.1⟩
      refine mr_icmp_ge (pc := 11) (tgt := 93) dX2_unitsOver_11 (by decide) (r32 h656 rfl) (r32 h665 rfl) (fun h724 => ?_) (fun h724 => ?_)
      · refine mr_iload_n (pc := 93) (z := z652) dX2_unitsOver_93 rfl rfl ?_
        exact mr_iret dX2_unitsOver_94 rfl (le_t rfl) (le_t rfl) T657 (mF.call mF.refl F658 rfl) ⟨h655, trivial⟩
      have h725 : 0 ≤ z651 ∧ z651 ≤ 15 := (vc_X2_unitsOver_2 h724 h664.2.2 h656 h665)
      have h726 : 1 ≤ z662 ∧ z662 ≤ 16 := (vc_X2_unitsOver_3 h724 h664.2.2 h725 h665)
      refine sv_aload_n (pc := 14) dX2_unitsOver_14 rfl rfl ?_
      refine sv_aload_n (pc := 15) dX2_unitsOver_15 rfl rfl ?_
      refine gf_X2_2 (pc := 16) dX2_unitsOver_16 wF_X2_22 (A_87 hw) T657 ?_
      refine mr_iload (pc := 19) (z := z651) dX2_unitsOver_19 rfl ?_
      refine la_90 (pc := 21) dX2_unitsOver_21 (A_90 hw) T657 (rIx (n := 16) h725 rfl) fun z727 q728 h729 => ?_
      have h730 : 0 ≤ z727 ∧ z727 ≤ 9 := ⟨h729.1, h729.2.1⟩
      refine sv_aload_n (pc := 22) dX2_unitsOver_22 rfl rfl ?_
      refine gf_X2_3 (pc := 23) dX2_unitsOver_23 wF_X2_25 (A_87 hw) T657 ?_
      refine mr_iload (pc := 26) (z := z651) dX2_unitsOver_26 rfl ?_
      refine la_91 (pc := 28) dX2_unitsOver_28 (A_91 hw) T657 (rIx (n := 16) h725 rfl) fun z731 q732 h733 => ?_
      refine mr_cVI (pc := 29) (c_X2_travel hw T657 h730 h733 (vc_X2_unitsOver_4 h664.2.2 h729.2.2 h724 h725 h726 h730)) (gOk _ _ _ _ _) dX2_unitsOver_29 (tX2_travel _ _ _ _ _) ⟨wV_X2_travel, wL_X2_travel⟩ wM_X2_83 (gCX2 _ _ _ _ _) rfl (A_87 hw) rfl ⟨le_t rfl, le_t rfl⟩ ⟨le_t rfl, le_t rfl⟩ rfl (le_t rfl) fun z738 μ734 T735 F736 h737 => ?_
      refine sv_pop (pc := 32) dX2_unitsOver_32 rfl ?_
      refine mr_iconst (pc := 33) (z := 0) dX2_unitsOver_33 ?_
      refine mr_istore (pc := 34) (lv' := [(5, iv 0), (0, .ref 87), (1, iv p1), (2, iv p2), (3, iv z652), (4, iv z651)]) dX2_unitsOver_34 (by decide) rfl ?_
      have L895 : ∀ (nL895 : Nat) (z894 z893 : Int), True → ((-2147483648) ≤ z894 ∧ z894 ≤ 2147483647) → (0 ≤ z893 ∧ z893 ≤ 10) → (11 - z893) < (nL895 : Int) → sV (gG l D c H0 sa) mX2_unitsOver (sRm 4 0 0) (sZ (gG l D c H0 sa) 0 0 (qI w [87006, 88999] μ (fun z μ1 => ((-2147483648) ≤ z ∧ z ≤ 2147483647) ∧ True))) 36 [(0, .ref 87), (1, iv p1), (2, iv p2), (3, iv z894), (4, iv z651), (5, iv z893)] [] (mk w μ734) 0 0 := by
        intro nL895
        induction nL895 with
        | zero => intro z894 z893 _ h896 h897 h901; exact ((vc_X12_ring_2 h901 h897)).elim
        | succ nL895 ih902 =>
          intro z894 z893 _ h896 h897 h901
          refine mr_iload (pc := 36) (z := z893) dX2_unitsOver_36 rfl ?_
          refine mr_iconst (pc := 38) (z := 1) dX2_unitsOver_38 ?_
          refine mr_iadd (pc := 39) (x := z893) (y := 1) dX2_unitsOver_39 ?_
          refine sv_aload_n (pc := 40) dX2_unitsOver_40 rfl rfl ?_
          refine gf_X2_6 (pc := 41) dX2_unitsOver_41 wF_X2_77 (A_87 hw) T735 fun z903 q904 h905 => ?_
          refine mr_icmp_ge (pc := 44) (tgt := 87) dX2_unitsOver_44 (by decide) (r32 (rAdd (e := 1) (f := 11) h897 (rR (x := 1)) rfl) rfl) (r32 h905 rfl) (fun h923 => ?_) (fun h923 => ?_)
          · refine mr_iinc (pc := 87) (lv' := [(4, iv (z651 + 1)), (0, .ref 87), (1, iv p1), (2, iv p2), (3, iv z894), (5, iv z893)]) dX2_unitsOver_87 rfl (by decide) rfl ?_
            refine sv_goto (pc := 90) (tgt := 5) dX2_unitsOver_90 (by decide) ?_
            refine mr_lvS (lv' := [(0, .ref 87), (1, iv p1), (2, iv p2), (3, iv z894), (4, iv (z651 + 1))]) (List.forall_mem_cons.mpr ⟨rfl, List.forall_mem_cons.mpr ⟨rfl, List.forall_mem_cons.mpr ⟨rfl, List.forall_mem_cons.mpr ⟨rfl, List.forall_mem_cons.mpr ⟨rfl, fun _ h => absurd h List.not_mem_nil⟩⟩⟩⟩⟩) ?_
            exact ih661 z894 (z651 + 1) μ734 T735 (mF.call (mF.call mF.refl F658 rfl) F736 rfl) h896 (rW (c := 0) (d := 16) (rAdd (e := 1) (f := 16) h725 (rR (x := 1)) rfl) rfl) (vc_X2_unitsOver_6 (nS h660) h724 h664.2.2 h725 h726)
          have h924 : 0 ≤ z893 ∧ z893 ≤ 9 := (vc_X2_unitsOver_7 h923 h897 h905)
          have h925 : 2 ≤ z903 ∧ z903 ≤ 11 := (vc_X2_unitsOver_8 h923 h924 h905)
          refine sv_aload_n (pc := 47) dX2_unitsOver_47 rfl rfl ?_
          refine gf_X2_1 (pc := 48) dX2_unitsOver_48 wF_X2_15 (A_87 hw) T735 ?_
          refine mr_iload (pc := 51) (z := z893) dX2_unitsOver_51 rfl ?_
          refine la_88 (pc := 53) dX2_unitsOver_53 (A_88 hw) T735 (rIx (n := 11) h924 rfl) fun z926 q927 h928 => ?_
          have h929 : 0 ≤ z926 ∧ z926 ≤ 9 := ⟨h928.1, h928.2.1⟩
          refine mr_iload_n (pc := 54) (z := p1) dX2_unitsOver_54 rfl rfl ?_
          refine mr_icmp_ne (pc := 55) (tgt := 81) dX2_unitsOver_55 (by decide) (r32 h929 rfl) hp1 (fun h941 => ?_) (fun h941 => ?_)
          · refine mr_iinc (pc := 81) (lv' := [(5, iv (z893 + 1)), (0, .ref 87), (1, iv p1), (2, iv p2), (3, iv z894), (4, iv z651)]) dX2_unitsOver_81 rfl (by decide) rfl ?_
            refine sv_goto (pc := 84) (tgt := 36) dX2_unitsOver_84 (by decide) ?_
            refine mr_lvS (lv' := [(0, .ref 87), (1, iv p1), (2, iv p2), (3, iv z894), (4, iv z651), (5, iv (z893 + 1))]) (List.forall_mem_cons.mpr ⟨rfl, List.forall_mem_cons.mpr ⟨rfl, List.forall_mem_cons.mpr ⟨rfl, List.forall_mem_cons.mpr ⟨rfl, List.forall_mem_cons.mpr ⟨rfl, List.forall_mem_cons.mpr ⟨rfl, fun _ h => absurd h List.not_mem_nil⟩⟩⟩⟩⟩⟩) ?_
            exact ih902 z894 (z893 + 1) trivial h896 (rW (c := 0) (d := 10) (rAdd (e := 1) (f := 10) h924 (rR (x := 1)) rfl) rfl) (vc_X2_unitsOver_9 (nS h901) h923 h924 h925)
          have h942 : 0 ≤ p1 ∧ p1 ≤ 9 := (vc_X2_unitsOver_10 h941 h928.2.2 hp1 h929)
          refine sv_aload_n (pc := 58) dX2_unitsOver_58 rfl rfl ?_
          refine gf_X2_1 (pc := 59) dX2_unitsOver_59 wF_X2_15 (A_87 hw) T735 ?_
          refine mr_iload (pc := 62) (z := z893) dX2_unitsOver_62 rfl ?_
          refine mr_iconst (pc := 64) (z := 1) dX2_unitsOver_64 ?_
          refine mr_iadd (pc := 65) (x := z893) (y := 1) dX2_unitsOver_65 ?_
          refine la_88 (pc := 66) dX2_unitsOver_66 (A_88 hw) T735 (rIx (n := 11) (rAdd (e := 1) (f := 10) h924 (rR (x := 1)) rfl) rfl) fun z943 q944 h945 => ?_
          have h946 : 0 ≤ z943 ∧ z943 ≤ 9 := ⟨h945.1, h945.2.1⟩
          refine mr_iload_n (pc := 67) (z := p2) dX2_unitsOver_67 rfl rfl ?_
          refine mr_icmp_ne (pc := 68) (tgt := 81) dX2_unitsOver_68 (by decide) (r32 h946 rfl) hp2 (fun h953 => ?_) (fun h953 => ?_)
          · refine mr_iinc (pc := 81) (lv' := [(5, iv (z893 + 1)), (0, .ref 87), (1, iv p1), (2, iv p2), (3, iv z894), (4, iv z651)]) dX2_unitsOver_81 rfl (by decide) rfl ?_
            refine sv_goto (pc := 84) (tgt := 36) dX2_unitsOver_84 (by decide) ?_
            refine mr_lvS (lv' := [(0, .ref 87), (1, iv p1), (2, iv p2), (3, iv z894), (4, iv z651), (5, iv (z893 + 1))]) (List.forall_mem_cons.mpr ⟨rfl, List.forall_mem_cons.mpr ⟨rfl, List.forall_mem_cons.mpr ⟨rfl, List.forall_mem_cons.mpr ⟨rfl, List.forall_mem_cons.mpr ⟨rfl, List.forall_mem_cons.mpr ⟨rfl, fun _ h => absurd h List.not_mem_nil⟩⟩⟩⟩⟩⟩) ?_
            exact ih902 z894 (z893 + 1) trivial h896 (rW (c := 0) (d := 10) (rAdd (e := 1) (f := 10) h924 (rR (x := 1)) rfl) rfl) (vc_X2_unitsOver_9 (nS h901) h923 h924 h925)
          have h954 : 0 ≤ p2 ∧ p2 ≤ 9 := (vc_X2_unitsOver_10 h953 h945.2.2 hp2 h946)
          refine mr_iload_n (pc := 71) (z := z894) dX2_unitsOver_71 rfl rfl ?_
          refine sv_aload_n (pc := 72) dX2_unitsOver_72 rfl rfl ?_
          refine gf_X2_4 (pc := 73) dX2_unitsOver_73 wF_X2_28 (A_87 hw) T735 ?_
          refine mr_iload (pc := 76) (z := z651) dX2_unitsOver_76 rfl ?_
          refine la_92 (pc := 78) dX2_unitsOver_78 (A_92 hw) T735 (rIx (n := 16) h725 rfl) fun z955 q956 h957 => ?_
          refine mr_iadd (pc := 79) (x := z894) (y := z955) dX2_unitsOver_79 ?_
          refine mr_wrap fun z958 h959 => ?_
          refine mr_istore_n (pc := 80) (lv' := [(3, iv z958), (0, .ref 87), (1, iv p1), (2, iv p2), (4, iv z651), (5, iv z893)]) dX2_unitsOver_80 rfl (by decide) rfl ?_
          refine mr_iinc (pc := 81) (lv' := [(5, iv (z893 + 1)), (3, iv z958), (0, .ref 87), (1, iv p1), (2, iv p2), (4, iv z651)]) dX2_unitsOver_81 rfl (by decide) rfl ?_
          refine sv_goto (pc := 84) (tgt := 36) dX2_unitsOver_84 (by decide) ?_
          refine mr_lvS (lv' := [(0, .ref 87), (1, iv p1), (2, iv p2), (3, iv z958), (4, iv z651), (5, iv (z893 + 1))]) (List.forall_mem_cons.mpr ⟨rfl, List.forall_mem_cons.mpr ⟨rfl, List.forall_mem_cons.mpr ⟨rfl, List.forall_mem_cons.mpr ⟨rfl, List.forall_mem_cons.mpr ⟨rfl, List.forall_mem_cons.mpr ⟨rfl, fun _ h => absurd h List.not_mem_nil⟩⟩⟩⟩⟩⟩) ?_
          exact ih902 z958 (z893 + 1) trivial h959 (rW (c := 0) (d := 10) (rAdd (e := 1) (f := 10) h924 (rR (x := 1)) rfl) rfl) (vc_X2_unitsOver_9 (nS h901) h923 h924 h925)
      refine mr_lvS (lv' := [(0, .ref 87), (1, iv p1), (2, iv p2), (3, iv z652), (4, iv z651), (5, iv 0)]) (List.forall_mem_cons.mpr ⟨rfl, List.forall_mem_cons.mpr ⟨rfl, List.forall_mem_cons.mpr ⟨rfl, List.forall_mem_cons.mpr ⟨rfl, List.forall_mem_cons.mpr ⟨rfl, List.forall_mem_cons.mpr ⟨rfl, fun _ h => absurd h List.not_mem_nil⟩⟩⟩⟩⟩⟩) ?_
      exact L895 12 z652 0 trivial h655 (rW (c := 0) (d := 10) (rR (x := 0)) rfl) vc_X12_ring_27
  refine mr_lvS (lv' := [(0, .ref 87), (1, iv p1), (2, iv p2), (3, iv 0), (4, iv 0)]) (List.forall_mem_cons.mpr ⟨rfl, List.forall_mem_cons.mpr ⟨rfl, List.forall_mem_cons.mpr ⟨rfl, List.forall_mem_cons.mpr ⟨rfl, List.forall_mem_cons.mpr ⟨rfl, fun _ h => absurd h List.not_mem_nil⟩⟩⟩⟩⟩) ?_
  exact L654 18 0 0 μ hT mF.refl (rW (c := (-2147483648)) (d := 2147483647) (rR (x := 0)) rfl) (rW (c := 0) (d := 16) (rR (x := 0)) rfl) vc_X2_unitsOver_13
end
section
set_option maxRecDepth 4000 in
set_option maxHeartbeats 4000000 in
theorem c_X2_unitsThat {l : Launch} {D : va_G} {c : Nat → ClassId} {H0 : Heap} {sa : Nat × Nat × (Nat → Int32)} {w : mW} {μ : mM} (hw : mWF w) (hT : mT w μ) {p1 : Int} (hp1 : (-2147483648) ≤ p1 ∧ p1 ≤ 2147483647) : sC (gG l D c H0 sa) mX2_unitsThat 4 0 0 [.ref 87, iv p1] (mk w μ) (qI w [87006, 88999] μ (fun z μ1 => ((-2147483648) ≤ z ∧ z ≤ 2147483647) ∧ True)) := by
  refine sC.of rfl (by decide) (le_t rfl) ?_
  refine mr_lvE (lv' := [(0, .ref 87), (1, iv p1)]) rfl ?_
  refine mr_iconst (pc := 0) (z := 0) dX2_unitsThat_0 ?_
  refine mr_istore_n (pc := 1) (lv' := [(2, iv 0), (0, .ref 87), (1, iv p1)]) dX2_unitsThat_1 rfl (by decide) rfl ?_
  refine mr_iconst (pc := 2) (z := 0) dX2_unitsThat_2 ?_
  refine mr_istore_n (pc := 3) (lv' := [(3, iv 0), (2, iv 0), (0, .ref 87), (1, iv p1)]) dX2_unitsThat_3 rfl (by decide) rfl ?_
  have L210 : ∀ (nL210 : Nat) (z208 z207 : Int) (μ209 : mM), mT w μ209 → mF [87006, 88999] w μ μ209 → ((-2147483648) ≤ z208 ∧ z208 ≤ 2147483647) → (0 ≤ z207 ∧ z207 ≤ 16) → (17 - z207) < (nL210 : Int) → sV (gG l D c H0 sa) mX2_unitsThat (sRm 4 0 0) (sZ (gG l D c H0 sa) 0 0 (qI w [87006, 88999] μ (fun z μ1 => ((-2147483648) ≤ z ∧ z ≤ 2147483647) ∧ True))) 4 [(0, .ref 87), (1, iv p1), (2, iv z208), (3, iv z207)] [] (mk w μ209) 0 0 := by
    intro nL210
    induction nL210 with
    | zero => intro z208 z207 μ209 T213 F214 h211 h212 h216; exact ((vc_X2_unitsOver_1 h216 h212)).elim
    | succ nL210 ih217 =>
      intro z208 z207 μ209 T213 F214 h211 h212 h216
      refine mr_iload_n (pc := 4) (z := z207) dX2_unitsThat_4 rfl rfl ?_
      refine sv_aload_n (pc := 5) dX2_unitsThat_5 rfl rfl ?_
      refine gf_X2_10 (pc := 6) dX2_unitsThat_6 wF_X2_95 (A_87 hw) T213 fun z218 q219 h220 => ?_
      have h221 : 0 ≤ z218 ∧ z218 ≤ 16 := ⟨h220.1, h220.2.1⟩
      refine mr_icmp_ge (pc := 9) (tgt := 47) dX2_unitsThat_9 (by decide) (r32 h212 rfl) (r32 h221 rfl) (fun h241 => ?_) (fun h241 => ?_)
      · refine mr_iload_n (pc := 47) (z := z208) dX2_unitsThat_47 rfl rfl ?_
        exact mr_iret dX2_unitsThat_48 rfl (le_t rfl) (le_t rfl) T213 (mF.call mF.refl F214 rfl) ⟨h211, trivial⟩
      have h242 : 0 ≤ z207 ∧ z207 ≤ 15 := (vc_X2_unitsOver_2 h241 h220.2.2 h212 h221)
      have h243 : 1 ≤ z218 ∧ z218 ≤ 16 := (vc_X2_unitsOver_3 h241 h220.2.2 h242 h221)
      refine sv_aload_n (pc := 12) dX2_unitsThat_12 rfl rfl ?_
      refine sv_aload_n (pc := 13) dX2_unitsThat_13 rfl rfl ?_
      refine gf_X2_2 (pc := 14) dX2_unitsThat_14 wF_X2_22 (A_87 hw) T213 ?_
      refine mr_iload_n (pc := 17) (z := z207) dX2_unitsThat_17 rfl rfl ?_
      refine la_90 (pc := 18) dX2_unitsThat_18 (A_90 hw) T213 (rIx (n := 16) h242 rfl) fun z244 q245 h246 => ?_
      have h247 : 0 ≤ z244 ∧ z244 ≤ 9 := ⟨h246.1, h246.2.1⟩
      refine sv_aload_n (pc := 19) dX2_unitsThat_19 rfl rfl ?_
      refine gf_X2_3 (pc := 20) dX2_unitsThat_20 wF_X2_25 (A_87 hw) T213 ?_
      refine mr_iload_n (pc := 23) (z := z207) dX2_unitsThat_23 rfl rfl ?_
      refine la_91 (pc := 24) dX2_unitsThat_24 (A_91 hw) T213 (rIx (n := 16) h242 rfl) fun z248 q249 h250 => ?_
      refine mr_cVI (pc := 25) (c_X2_travel hw T213 h247 h250 (vc_X2_unitsOver_4 h220.2.2 h246.2.2 h241 h242 h243 h247)) (gOk _ _ _ _ _) dX2_unitsThat_25 (tX2_travel _ _ _ _ _) ⟨wV_X2_travel, wL_X2_travel⟩ wM_X2_83 (gCX2 _ _ _ _ _) rfl (A_87 hw) rfl ⟨le_t rfl, le_t rfl⟩ ⟨le_t rfl, le_t rfl⟩ rfl (le_t rfl) fun z255 μ251 T252 F253 h254 => ?_
      refine mr_iload_n (pc := 28) (z := p1) dX2_unitsThat_28 rfl rfl ?_
      refine mr_icmp_ne (pc := 29) (tgt := 41) dX2_unitsThat_29 (by decide) h254.1 hp1 (fun h261 => ?_) (fun h261 => ?_)
      · refine mr_iinc (pc := 41) (lv' := [(3, iv (z207 + 1)), (0, .ref 87), (1, iv p1), (2, iv z208)]) dX2_unitsThat_41 rfl (by decide) rfl ?_
        refine sv_goto (pc := 44) (tgt := 4) dX2_unitsThat_44 (by decide) ?_
        refine mr_lvS (lv' := [(0, .ref 87), (1, iv p1), (2, iv z208), (3, iv (z207 + 1))]) (List.forall_mem_cons.mpr ⟨rfl, List.forall_mem_cons.mpr ⟨rfl, List.forall_mem_cons.mpr ⟨rfl, List.forall_mem_cons.mpr ⟨rfl, fun _ h => absurd h List.not_mem_nil⟩⟩⟩⟩) ?_
        exact ih217 z208 (z207 + 1) μ251 T252 (mF.call (mF.call mF.refl F214 rfl) F253 rfl) h211 (rW (c := 0) (d := 16) (rAdd (e := 1) (f := 16) h242 (rR (x := 1)) rfl) rfl) (vc_X2_unitsOver_6 (nS h216) h241 h220.2.2 h242 h243)
      refine mr_iload_n (pc := 32) (z := z208) dX2_unitsThat_32 rfl rfl ?_
      refine sv_aload_n (pc := 33) dX2_unitsThat_33 rfl rfl ?_
      refine gf_X2_4 (pc := 34) dX2_unitsThat_34 wF_X2_28 (A_87 hw) T252 ?_
      refine mr_iload_n (pc := 37) (z := z207) dX2_unitsThat_37 rfl rfl ?_
      refine la_92 (pc := 38) dX2_unitsThat_38 (A_92 hw) T252 (rIx (n := 16) h242 rfl) fun z262 q263 h264 => ?_
      refine mr_iadd (pc := 39) (x := z208) (y := z262) dX2_unitsThat_39 ?_
      refine mr_wrap fun z265 h266 => ?_
      refine mr_istore_n (pc := 40) (lv' := [(2, iv z265), (0, .ref 87), (1, iv p1), (3, iv z207)]) dX2_unitsThat_40 rfl (by decide) rfl ?_
      refine mr_iinc (pc := 41) (lv' := [(3, iv (z207 + 1)), (2, iv z265), (0, .ref 87), (1, iv p1)]) dX2_unitsThat_41 rfl (by decide) rfl ?_
      refine sv_goto (pc := 44) (tgt := 4) dX2_unitsThat_44 (by decide) ?_
      refine mr_lvS (lv' := [(0, .ref 87), (1, iv p1), (2, iv z265), (3, iv (z207 + 1))]) (List.forall_mem_cons.mpr ⟨rfl, List.forall_mem_cons.mpr ⟨rfl, List.forall_mem_cons.mpr ⟨rfl, List.forall_mem_cons.mpr ⟨rfl, fun _ h => absurd h List.not_mem_nil⟩⟩⟩⟩) ?_
      exact ih217 z265 (z207 + 1) μ251 T252 (mF.call (mF.call mF.refl F214 rfl) F253 rfl) h266 (rW (c := 0) (d := 16) (rAdd (e := 1) (f := 16) h242 (rR (x := 1)) rfl) rfl) (vc_X2_unitsOver_6 (nS h216) h241 h220.2.2 h242 h243)
  refine mr_lvS (lv' := [(0, .ref 87), (1, iv p1), (2, iv 0), (3, iv 0)]) (List.forall_mem_cons.mpr ⟨rfl, List.forall_mem_cons.mpr ⟨rfl, List.forall_mem_cons.mpr ⟨rfl, List.forall_mem_cons.mpr ⟨rfl, fun _ h => absurd h List.not_mem_nil⟩⟩⟩⟩) ?_
  exact L210 18 0 0 μ hT mF.refl (rW (c := (-2147483648)) (d := 2147483647) (rR (x := 0)) rfl) (rW (c := 0) (d := 16) (rR (x := 0)) rfl) vc_X2_unitsOver_13
theorem vc_X2_unlikeAddresses_4 {n0 p1 p2 : Int} (h0 : p1 < n0) (h1 : p2 < n0) (h2 : 0 ≤ p1 ∧ p1 ≤ 9) (h3 : 0 ≤ p2 ∧ p2 ≤ 9) : p1 < n0 := by omega
theorem vc_X2_unlikeAddresses_5 {n0 p1 p2 z288 : Int} (h0 : p1 < n0) (h1 : p2 < n0) (h2 : z288 < n0) (h3 : z288 = -99999999 ∨ z288 = -4 ∨ (0 ≤ z288 ∧ z288 ≤ 9)) (h4 : 0 ≤ p1 ∧ p1 ≤ 9) (h5 : 0 ≤ p2 ∧ p2 ≤ 9) (h6 : (-99999999) ≤ z288 ∧ z288 ≤ 9) : p2 < n0 := by omega
set_option maxRecDepth 4000 in
set_option maxHeartbeats 4000000 in
theorem c_X2_unlikeAddresses {l : Launch} {D : va_G} {c : Nat → ClassId} {H0 : Heap} {sa : Nat × Nat × (Nat → Int32)} {w : mW} {μ : mM} (hw : mWF w) (hT : mT w μ) {p1 : Int} (hp1 : 0 ≤ p1 ∧ p1 ≤ 9) {p2 : Int} (hp2 : 0 ≤ p2 ∧ p2 ≤ 9) (hq0 : p1 < w.2.2.2 0) (hq1 : p2 < w.2.2.2 0) : sC (gG l D c H0 sa) mX2_unlikeAddresses 3 0 0 [.ref 87, iv p1, iv p2] (mk w μ) (qJ w [93999] μ (fun z μ1 => ((-9223372036854775808) ≤ z ∧ z ≤ 9223372036854775807) ∧ True)) := by
  refine sC.of rfl (by decide) (le_t rfl) ?_
  refine mr_lvE (lv' := [(0, .ref 87), (1, iv p1), (2, iv p2)]) rfl ?_
  refine sv_aload_n (pc := 0) dX2_unlikeAddresses_0 rfl rfl ?_
  refine mr_cVI (pc := 1) (c_X2_layBorders hw hT) (gOk _ _ _ _ _) dX2_unlikeAddresses_1 (tX2_layBorders _ _ _ _ _) ⟨wV_X2_layBorders, wL_X2_layBorders⟩ wM_X2_117 (gCX2 _ _ _ _ _) rfl (A_87 hw) rfl ⟨le_t rfl, le_t rfl⟩ ⟨le_t rfl, le_t rfl⟩ rfl (le_t rfl) fun z5 μ1 T2 F3 h4 => ?_
  refine mr_istore_n (pc := 4) (lv' := [(3, iv z5), (0, .ref 87), (1, iv p1), (2, iv p2)]) dX2_unlikeAddresses_4 rfl (by decide) rfl ?_
  refine mr_lconst (pc := 5) (z := 0) dX2_unlikeAddresses_5 (by decide) ?_
  refine mr_lstore (pc := 6) (lv' := [(4, jv 0), (3, iv z5), (0, .ref 87), (1, iv p1), (2, iv p2)]) dX2_unlikeAddresses_6 (by decide) rfl ?_
  refine mr_iconst (pc := 8) (z := 0) dX2_unlikeAddresses_8 ?_
  refine mr_istore (pc := 9) (lv' := [(6, iv 0), (4, jv 0), (3, iv z5), (0, .ref 87), (1, iv p1), (2, iv p2)]) dX2_unlikeAddresses_9 (by decide) rfl ?_
  have L240 : ∀ (nL240 : Nat) (z239 z238 : Int), True → ((-9223372036854775808) ≤ z239 ∧ z239 ≤ 9223372036854775807) → (0 ≤ z238 ∧ z238 ≤ 19) → (20 - z238) < (nL240 : Int) → sV (gG l D c H0 sa) mX2_unlikeAddresses (sRm 3 0 0) (sZ (gG l D c H0 sa) 0 0 (qJ w [93999] μ (fun z μ1 => ((-9223372036854775808) ≤ z ∧ z ≤ 9223372036854775807) ∧ True))) 11 [(0, .ref 87), (1, iv p1), (2, iv p2), (3, iv z5), (4, jv z239), (6, iv z238)] [] (mk w μ1) 0 0 := by
    intro nL240
    induction nL240 with
    | zero => intro z239 z238 _ h241 h242 h246; exact ((vc_X12_letWay_1 h246 h242)).elim
    | succ nL240 ih247 =>
      intro z239 z238 _ h241 h242 h246
      refine mr_iload (pc := 11) (z := z238) dX2_unlikeAddresses_11 rfl ?_
      refine mr_iconst (pc := 13) (z := 1) dX2_unlikeAddresses_13 ?_
      refine mr_iadd (pc := 14) (x := z238) (y := 1) dX2_unlikeAddresses_14 ?_
      refine mr_iload_n (pc := 15) (z := z5) dX2_unlikeAddresses_15 rfl rfl ?_
      refine mr_icmp_ge (pc := 16) (tgt := 74) dX2_unlikeAddresses_16 (by decide) (r32 (rAdd (e := 1) (f := 20) h242 (rR (x := 1)) rfl) rfl) (r32 h4.1 rfl) (fun h275 => ?_) (fun h275 => ?_)
      · refine mr_lload (pc := 74) (z := z239) dX2_unlikeAddresses_74 rfl ?_
        exact mr_lret dX2_unlikeAddresses_76 rfl (le_t rfl) (le_t rfl) T2 (mF.call mF.refl F3 rfl) ⟨h241, trivial⟩
      have h276 : 0 ≤ z238 ∧ z238 ≤ 18 := (vc_X12_letWay_2 h275 h242 h4.1)
      have h277 : 2 ≤ z5 ∧ z5 ≤ 20 := (vc_X12_letWay_3 h275 h276 h4.1)
      refine sv_aload_n (pc := 19) dX2_unlikeAddresses_19 rfl rfl ?_
      refine gf_X2_5 (pc := 20) dX2_unlikeAddresses_20 wF_X2_31 (A_87 hw) T2 ?_
      refine mr_iload (pc := 23) (z := z238) dX2_unlikeAddresses_23 rfl ?_
      refine la_93 (pc := 25) dX2_unlikeAddresses_25 (A_93 hw) T2 (rIx (n := 20) h276 rfl) fun z278 q279 h280 => ?_
      refine mr_l2i (pc := 26) dX2_unlikeAddresses_26 ?_
      refine mr_gen (P := fun z => (-2147483648) ≤ z ∧ z ≤ 2147483647) (r32i _) fun z281 q282 h283 => ?_
      refine mr_istore (pc := 27) (lv' := [(7, iv z281), (0, .ref 87), (1, iv p1), (2, iv p2), (3, iv z5), (4, jv z239), (6, iv z238)]) dX2_unlikeAddresses_27 (by decide) rfl ?_
      refine sv_aload_n (pc := 29) dX2_unlikeAddresses_29 rfl rfl ?_
      refine mr_iload_n (pc := 30) (z := p1) dX2_unlikeAddresses_30 rfl rfl ?_
      refine mr_iload (pc := 31) (z := z281) dX2_unlikeAddresses_31 rfl ?_
      refine mr_cVP (pc := 33) (c_X2_partnerFor hw T2 hp1 h283 (vc_X2_unlikeAddresses_4 hq0 hq1 hp1 hp2)) (gOk _ _ _ _ _) dX2_unlikeAddresses_33 (tX2_partnerFor _ _ _ _ _) ⟨wV_X2_partnerFor, wL_X2_partnerFor⟩ wM_X2_80 (gCX2 _ _ _ _ _) rfl (A_87 hw) rfl ⟨le_t rfl, le_t rfl⟩ ⟨le_t rfl, le_t rfl⟩ rfl (le_t rfl) fun z288 h287 => ?_
      refine sv_aload_n (pc := 36) dX2_unlikeAddresses_36 rfl rfl ?_
      refine mr_iload_n (pc := 37) (z := p2) dX2_unlikeAddresses_37 rfl rfl ?_
      refine mr_iload (pc := 38) (z := z281) dX2_unlikeAddresses_38 rfl ?_
      refine mr_cVP (pc := 40) (c_X2_partnerFor hw T2 hp2 h283 (vc_X2_unlikeAddresses_5 hq0 hq1 h287.2.2.1 h287.2.1 hp1 hp2 h287.1)) (gOk _ _ _ _ _) dX2_unlikeAddresses_40 (tX2_partnerFor _ _ _ _ _) ⟨wV_X2_partnerFor, wL_X2_partnerFor⟩ wM_X2_80 (gCX2 _ _ _ _ _) rfl (A_87 hw) rfl ⟨le_t rfl, le_t rfl⟩ ⟨le_t rfl, le_t rfl⟩ rfl (le_t rfl) fun z293 h292 => ?_
      refine mr_icmp_eq (pc := 43) (tgt := 68) dX2_unlikeAddresses_43 (by decide) (r32 h287.1 rfl) (r32 h292.1 rfl) (fun h303 => ?_) (fun h303 => ?_)
      · refine mr_iinc (pc := 68) (lv' := [(6, iv (z238 + 1)), (7, iv z281), (0, .ref 87), (1, iv p1), (2, iv p2), (3, iv z5), (4, jv z239)]) dX2_unlikeAddresses_68 rfl (by decide) rfl ?_
        refine sv_goto (pc := 71) (tgt := 11) dX2_unlikeAddresses_71 (by decide) ?_
        refine mr_lvS (lv' := [(0, .ref 87), (1, iv p1), (2, iv p2), (3, iv z5), (4, jv z239), (6, iv (z238 + 1))]) (List.forall_mem_cons.mpr ⟨rfl, List.forall_mem_cons.mpr ⟨rfl, List.forall_mem_cons.mpr ⟨rfl, List.forall_mem_cons.mpr ⟨rfl, List.forall_mem_cons.mpr ⟨rfl, List.forall_mem_cons.mpr ⟨rfl, fun _ h => absurd h List.not_mem_nil⟩⟩⟩⟩⟩⟩) ?_
        exact ih247 z239 (z238 + 1) trivial h241 (rW (c := 0) (d := 19) (rAdd (e := 1) (f := 19) h276 (rR (x := 1)) rfl) rfl) (vc_X12_letWay_8 (nS h246) h275 h276 h277)
      refine mr_lload (pc := 46) (z := z239) dX2_unlikeAddresses_46 rfl ?_
      refine sv_aload_n (pc := 48) dX2_unlikeAddresses_48 rfl rfl ?_
      refine gf_X2_5 (pc := 49) dX2_unlikeAddresses_49 wF_X2_31 (A_87 hw) T2 ?_
      refine mr_iload (pc := 52) (z := z238) dX2_unlikeAddresses_52 rfl ?_
      refine mr_iconst (pc := 54) (z := 1) dX2_unlikeAddresses_54 ?_
      refine mr_iadd (pc := 55) (x := z238) (y := 1) dX2_unlikeAddresses_55 ?_
      refine la_93 (pc := 56) dX2_unlikeAddresses_56 (A_93 hw) T2 (rIx (n := 20) (rAdd (e := 1) (f := 19) h276 (rR (x := 1)) rfl) rfl) fun z304 q305 h306 => ?_
      refine sv_aload_n (pc := 57) dX2_unlikeAddresses_57 rfl rfl ?_
      refine gf_X2_5 (pc := 58) dX2_unlikeAddresses_58 wF_X2_31 (A_87 hw) T2 ?_
      refine mr_iload (pc := 61) (z := z238) dX2_unlikeAddresses_61 rfl ?_
      refine lk_93 (pc := 63) dX2_unlikeAddresses_63 (A_93 hw) (rIx (n := 20) h276 rfl) q279 ?_
      refine mr_lsub (pc := 64) dX2_unlikeAddresses_64 ?_
      refine mr_genL (r64i _) fun z307 q308 h309 => ?_
      refine mr_ladd (pc := 65) dX2_unlikeAddresses_65 ?_
      refine mr_genL (r64i _) fun z310 q311 h312 => ?_
      refine mr_lstore (pc := 66) (lv' := [(4, jv z310), (7, iv z281), (0, .ref 87), (1, iv p1), (2, iv p2), (3, iv z5), (6, iv z238)]) dX2_unlikeAddresses_66 (by decide) rfl ?_
      refine mr_iinc (pc := 68) (lv' := [(6, iv (z238 + 1)), (4, jv z310), (7, iv z281), (0, .ref 87), (1, iv p1), (2, iv p2), (3, iv z5)]) dX2_unlikeAddresses_68 rfl (by decide) rfl ?_
      refine sv_goto (pc := 71) (tgt := 11) dX2_unlikeAddresses_71 (by decide) ?_
      refine mr_lvS (lv' := [(0, .ref 87), (1, iv p1), (2, iv p2), (3, iv z5), (4, jv z310), (6, iv (z238 + 1))]) (List.forall_mem_cons.mpr ⟨rfl, List.forall_mem_cons.mpr ⟨rfl, List.forall_mem_cons.mpr ⟨rfl, List.forall_mem_cons.mpr ⟨rfl, List.forall_mem_cons.mpr ⟨rfl, List.forall_mem_cons.mpr ⟨rfl, fun _ h => absurd h List.not_mem_nil⟩⟩⟩⟩⟩⟩) ?_
      exact ih247 z310 (z238 + 1) trivial h312 (rW (c := 0) (d := 19) (rAdd (e := 1) (f := 19) h276 (rR (x := 1)) rfl) rfl) (vc_X12_letWay_8 (nS h246) h275 h276 h277)
  refine mr_lvS (lv' := [(0, .ref 87), (1, iv p1), (2, iv p2), (3, iv z5), (4, jv 0), (6, iv 0)]) (List.forall_mem_cons.mpr ⟨rfl, List.forall_mem_cons.mpr ⟨rfl, List.forall_mem_cons.mpr ⟨rfl, List.forall_mem_cons.mpr ⟨rfl, List.forall_mem_cons.mpr ⟨rfl, List.forall_mem_cons.mpr ⟨rfl, fun _ h => absurd h List.not_mem_nil⟩⟩⟩⟩⟩⟩) ?_
  exact L240 21 0 0 trivial (rW (c := -9223372036854775808) (d := 9223372036854775807) (rR (x := 0)) rfl) (rW (c := 0) (d := 19) (rR (x := 0)) rfl) vc_X12_letWay_18
set_option maxRecDepth 4000 in
set_option maxHeartbeats 4000000 in
theorem c_X11_letter {l : Launch} {D : va_G} {c : Nat → ClassId} {H0 : Heap} {sa : Nat × Nat × (Nat → Int32)} {w : mW} {μ : mM} (hw : mWF w) (hT : mT w μ) {p1 : Int} (hp1 : (-2147483648) ≤ p1 ∧ p1 ≤ 2147483647) {p2 : Int} (hp2 : (-2147483648) ≤ p2 ∧ p2 ≤ 2147483647) : sC (gG l D c H0 sa) mX11_letter 5 0 0 [.ref 0, iv p1, iv p2] (mk w μ) (qI w [87006, 87009, 88999, 89999] μ (fun z μ1 => ((-2147483648) ≤ z ∧ z ≤ 2147483647) ∧ True)) := by
  refine sC.of rfl (by decide) (le_t rfl) ?_
  refine mr_lvE (lv' := [(0, .ref 0), (1, iv p1), (2, iv p2)]) rfl ?_
  refine sv_aload_n (pc := 0) dX11_letter_0 rfl rfl ?_
  refine mr_iload_n (pc := 1) (z := p1) dX11_letter_1 rfl rfl ?_
  obtain ⟨z1, q2⟩ : ∃ z, μ 6 15 = z := ⟨_, rfl⟩
  have h3 : (z1 = w.2.2.2 0 ∧ 0 ≤ z1 ∧ z1 ≤ 10) := by rw [← q2]; exact hT 6 6 (A_6 hw) 15
  refine mr_cVP (pc := 2) (c_X11_isDomain hw hT hp1 q2) (gOk _ _ _ _ _) dX11_letter_2 (tX11_isDomain _ _ _ _ _) ⟨wV_X11_isDomain, wL_X11_isDomain⟩ wM_X11_105 (gCX11 _ _ _ _ _) rfl (A_0 hw) rfl ⟨le_t rfl, le_t rfl⟩ ⟨le_t rfl, le_t rfl⟩ rfl (le_t rfl) fun z8 h7 => ?_
  refine mr_if_eq (pc := 5) (tgt := 20) dX11_letter_5 (by decide) (r32 h7.1 rfl) (fun h20 => ?_) (fun h20 => ?_)
  · have h21 : 0 ≤ z8 ∧ z8 ≤ 0 := (vc_X12_write_78 h20 h7.2.1 h7.2.2.1 hp1 h3.2 h7.1)
    have h22 : p1 < 0 ∨ z1 ≤ p1 := (h7.2.2.1 (vc_X11_picked_2 h7.2.1 h7.2.2.1 h20 h3.1 hp1 h3.2 h21))
    refine mr_iconst (pc := 20) (z := (-1)) dX11_letter_20 ?_
    exact mr_iret dX11_letter_21 rfl (le_t rfl) (le_t rfl) hT mF.refl ⟨(rW (c := (-2147483648)) (d := 2147483647) (rR (x := (-1))) rfl), trivial⟩
  have h23 : 1 ≤ z8 ∧ z8 ≤ 1 := (vc_X12_write_12 h20 h7.2.1 h7.2.2.1 hp1 h3.2 h7.1)
  have h24 : 0 ≤ p1 ∧ p1 < z1 := (h7.2.1 (vc_X11_picked_4 h7.2.1 h7.2.2.1 h20 h3.1 hp1 h3.2 h23))
  have h25 : 0 ≤ p1 ∧ p1 ≤ 9 := (vc_X11_picked_5 h24 h3.1 h7.2.1 h7.2.2.1 hp1 h3.2 h23)
  have h26 : 1 ≤ z1 ∧ z1 ≤ 10 := (vc_X11_picked_6 h24 h3.1 h7.2.1 h7.2.2.1 h25 h3.2 h23)
  refine sv_aload_n (pc := 8) dX11_letter_8 rfl rfl ?_
  refine gf_X11_8 (pc := 9) dX11_letter_9 wF_X11_65 (A_0 hw) hT ?_
  refine mr_iload_n (pc := 12) (z := p1) dX11_letter_12 rfl rfl ?_
  refine mr_iload_n (pc := 13) (z := p2) dX11_letter_13 rfl rfl ?_
  refine mr_cVI (pc := 14) (c_X2_send hw hT h25 hp2 (vc_X11_picked_10 h3.1 h7.2.1 h7.2.2.1 h24 h20 h25 h26 h23)) (gOk _ _ _ _ _) dX11_letter_14 (tX2_send _ _ _ _ _) ⟨wV_X2_send, wL_X2_send⟩ wM_X11_364 (gCX2 _ _ _ _ _) rfl (A_87 hw) rfl ⟨le_t rfl, le_t rfl⟩ ⟨le_t rfl, le_t rfl⟩ rfl (le_t rfl) fun z31 μ27 T28 F29 h30 => ?_
  refine sv_goto (pc := 17) (tgt := 21) dX11_letter_17 (by decide) ?_
  exact mr_iret dX11_letter_21 rfl (le_t rfl) (le_t rfl) T28 (mF.call mF.refl F29 rfl) ⟨h30.1, trivial⟩
theorem vc_X11_demand_9 {p3 : Int} (h0 : p3 ≤ 1000000) (h1 : 1 ≤ p3) (h2 : 1 ≤ p3 ∧ p3 ≤ 2147483647) : 1 ≤ p3 ∧ p3 ≤ 1000000 := by omega
theorem vc_X11_demand_10 {n0 z21 : Int} (h0 : z21 < 16) (h1 : (z21 = 0 ∨ 0 < n0)) (h2 : 0 ≤ z21 ∧ z21 ≤ 16) : 0 ≤ z21 ∧ z21 ≤ 15 := by omega
theorem vc_X11_demand_11 {n0 p1 z1 z21 z8 : Int} (h0 : z1 = n0) (h1 : (z8 = 1 → 0 ≤ p1 ∧ p1 < z1)) (h2 : (z8 = 0 → p1 < 0 ∨ z1 ≤ p1)) (h3 : 0 ≤ p1 ∧ p1 < z1) (h4 : (z21 = 0 ∨ 0 < n0)) (h5 : ¬ z8 = 0) (h6 : z21 < 16) (h7 : 0 ≤ p1 ∧ p1 ≤ 9) (h8 : 1 ≤ z1 ∧ z1 ≤ 10) (h9 : 0 ≤ z21 ∧ z21 ≤ 15) (h10 : 1 ≤ z8 ∧ z8 ≤ 1) : p1 < n0 := by omega
theorem vc_X11_demand_12 {n0 z1 z21 : Int} (h0 : (z21 = 0 ∨ 0 < n0)) (h1 : z21 < 16) (h2 : z1 = n0) (h3 : 1 ≤ z1 ∧ z1 ≤ 10) (h4 : 0 ≤ z21 ∧ z21 ≤ 15) : z21 ≤ 15 := by omega
theorem vc_X11_demand_13 {n0 z21 : Int} (h0 : 16 ≤ z21) (h1 : (z21 = 0 ∨ 0 < n0)) (h2 : 0 ≤ z21 ∧ z21 ≤ 16) : 16 ≤ z21 ∧ z21 ≤ 16 := by omega
theorem vc_X11_demand_14 {p3 : Int} (h0 : 1000000 < p3) (h1 : 1 ≤ p3) (h2 : 1 ≤ p3 ∧ p3 ≤ 2147483647) : 1000001 ≤ p3 ∧ p3 ≤ 2147483647 := by omega
set_option maxRecDepth 4000 in
set_option maxHeartbeats 4000000 in
theorem c_X11_demand {l : Launch} {D : va_G} {c : Nat → ClassId} {H0 : Heap} {sa : Nat × Nat × (Nat → Int32)} {w : mW} {μ : mM} (hw : mWF w) (hT : mT w μ) {p1 : Int} (hp1 : (-2147483648) ≤ p1 ∧ p1 ≤ 2147483647) {p2 : Int} (hp2 : (-2147483648) ≤ p2 ∧ p2 ≤ 2147483647) {p3 : Int} (hp3 : (-2147483648) ≤ p3 ∧ p3 ≤ 2147483647) : sC (gG l D c H0 sa) mX11_demand 2 0 0 [.ref 0, iv p1, iv p2, iv p3] (mk w μ) (qI w [87010, 90999, 91999, 92999] μ (fun z μ1 => ((-2147483648) ≤ z ∧ z ≤ 2147483647) ∧ True)) := by
  refine sC.of rfl (by decide) (le_t rfl) ?_
  refine mr_lvE (lv' := [(0, .ref 0), (1, iv p1), (2, iv p2), (3, iv p3)]) rfl ?_
  refine sv_aload_n (pc := 0) dX11_demand_0 rfl rfl ?_
  refine mr_iload_n (pc := 1) (z := p1) dX11_demand_1 rfl rfl ?_
  obtain ⟨z1, q2⟩ : ∃ z, μ 6 15 = z := ⟨_, rfl⟩
  have h3 : (z1 = w.2.2.2 0 ∧ 0 ≤ z1 ∧ z1 ≤ 10) := by rw [← q2]; exact hT 6 6 (A_6 hw) 15
  refine mr_cVP (pc := 2) (c_X11_isDomain hw hT hp1 q2) (gOk _ _ _ _ _) dX11_demand_2 (tX11_isDomain _ _ _ _ _) ⟨wV_X11_isDomain, wL_X11_isDomain⟩ wM_X11_105 (gCX11 _ _ _ _ _) rfl (A_0 hw) rfl ⟨le_t rfl, le_t rfl⟩ ⟨le_t rfl, le_t rfl⟩ rfl (le_t rfl) fun z8 h7 => ?_
  refine mr_if_eq (pc := 5) (tgt := 19) dX11_demand_5 (by decide) (r32 h7.1 rfl) (fun h9 => ?_) (fun h9 => ?_)
  · have h10 : 0 ≤ z8 ∧ z8 ≤ 0 := (vc_X12_write_78 h9 h7.2.1 h7.2.2.1 hp1 h3.2 h7.1)
    have h11 : p1 < 0 ∨ z1 ≤ p1 := (h7.2.2.1 (vc_X11_picked_2 h7.2.1 h7.2.2.1 h9 h3.1 hp1 h3.2 h10))
    refine mr_iconst (pc := 19) (z := (-1)) dX11_demand_19 ?_
    exact mr_iret dX11_demand_20 rfl (le_t rfl) (le_t rfl) hT mF.refl ⟨(rW (c := (-2147483648)) (d := 2147483647) (rR (x := (-1))) rfl), trivial⟩
  have h12 : 1 ≤ z8 ∧ z8 ≤ 1 := (vc_X12_write_12 h9 h7.2.1 h7.2.2.1 hp1 h3.2 h7.1)
  have h13 : 0 ≤ p1 ∧ p1 < z1 := (h7.2.1 (vc_X11_picked_4 h7.2.1 h7.2.2.1 h9 h3.1 hp1 h3.2 h12))
  have h14 : 0 ≤ p1 ∧ p1 ≤ 9 := (vc_X11_picked_5 h13 h3.1 h7.2.1 h7.2.2.1 hp1 h3.2 h12)
  have h15 : 1 ≤ z1 ∧ z1 ≤ 10 := (vc_X11_picked_6 h13 h3.1 h7.2.1 h7.2.2.1 h14 h3.2 h12)
  refine mr_iload_n (pc := 8) (z := p3) dX11_demand_8 rfl rfl ?_
  refine mr_iconst (pc := 9) (z := 1) dX11_demand_9 ?_
  refine mr_icmp_lt (pc := 10) (tgt := 19) dX11_demand_10 (by decide) hp3 (r32 (rR (x := 1)) rfl) (fun h16 => ?_) (fun h16 => ?_)
  · have h17 : (-2147483648) ≤ p3 ∧ p3 ≤ 0 := (vc_X11_pace_7 h16 hp3)
    refine mr_iconst (pc := 19) (z := (-1)) dX11_demand_19 ?_
    exact mr_iret dX11_demand_20 rfl (le_t rfl) (le_t rfl) hT mF.refl ⟨(rW (c := (-2147483648)) (d := 2147483647) (rR (x := (-1))) rfl), trivial⟩
  have h18 : 1 ≤ p3 ∧ p3 ≤ 2147483647 := (vc_X11_pace_8 h16 hp3)
  refine mr_iload_n (pc := 13) (z := p3) dX11_demand_13 rfl rfl ?_
  refine mr_ldc (pc := 14) (z := 1000000) dX11_demand_14 wG_X11_226 (by decide) ?_
  refine mr_icmp_le (pc := 16) (tgt := 21) dX11_demand_16 (by decide) (r32 h18 rfl) (r32 (rR (x := 1000000)) rfl) (fun h19 => ?_) (fun h19 => ?_)
  · have h20 : 1 ≤ p3 ∧ p3 ≤ 1000000 := (vc_X11_demand_9 h19 h16 h18)
    refine sv_aload_n (pc := 21) dX11_demand_21 rfl rfl ?_
    refine gf_X11_8 (pc := 22) dX11_demand_22 wF_X11_65 (A_0 hw) hT ?_
    refine gf_X2_10 (pc := 25) dX11_demand_25 wF_X11_373 (A_87 hw) hT fun z21 q22 h23 => ?_
    have h24 : 0 ≤ z21 ∧ z21 ≤ 16 := ⟨h23.1, h23.2.1⟩
    refine mr_bipush (pc := 28) (z := 16) dX11_demand_28 (by decide) ?_
    refine mr_icmp_lt (pc := 30) (tgt := 36) dX11_demand_30 (by decide) (r32 h24 rfl) (r32 (rR (x := 16)) rfl) (fun h25 => ?_) (fun h25 => ?_)
    · have h26 : 0 ≤ z21 ∧ z21 ≤ 15 := (vc_X11_demand_10 h25 h23.2.2 h24)
      refine sv_aload_n (pc := 36) dX11_demand_36 rfl rfl ?_
      refine gf_X11_8 (pc := 37) dX11_demand_37 wF_X11_65 (A_0 hw) hT ?_
      refine mr_iload_n (pc := 40) (z := p1) dX11_demand_40 rfl rfl ?_
      refine mr_iload_n (pc := 41) (z := p2) dX11_demand_41 rfl rfl ?_
      refine mr_iload_n (pc := 42) (z := p3) dX11_demand_42 rfl rfl ?_
      refine mr_cVI (pc := 43) (c_X2_addDemand hw hT h14 hp2 (rW (c := (-2147483648)) (d := 2147483647) h20 rfl) q22 (vc_X11_demand_11 h3.1 h7.2.1 h7.2.2.1 h13 h23.2.2 h9 h25 h14 h15 h26 h12) (vc_X11_demand_12 h23.2.2 h25 h3.1 h15 h26)) (gOk _ _ _ _ _) dX11_demand_43 (tX2_addDemand _ _ _ _ _) ⟨wV_X2_addDemand, wL_X2_addDemand⟩ wM_X11_376 (gCX2 _ _ _ _ _) rfl (A_87 hw) rfl ⟨le_t rfl, le_t rfl⟩ ⟨le_t rfl, le_t rfl⟩ rfl (le_t rfl) fun z31 μ27 T28 F29 h30 => ?_
      exact mr_iret dX11_demand_46 rfl (le_t rfl) (le_t rfl) T28 (mF.call mF.refl F29 rfl) ⟨h30.1, trivial⟩
    have h32 : 16 ≤ z21 ∧ z21 ≤ 16 := (vc_X11_demand_13 h25 h23.2.2 h24)
    refine mr_bipush (pc := 33) (z := (-3)) dX11_demand_33 (by decide) ?_
    exact mr_iret dX11_demand_35 rfl (le_t rfl) (le_t rfl) hT mF.refl ⟨(rW (c := (-2147483648)) (d := 2147483647) (rR (x := (-3))) rfl), trivial⟩
  have h33 : 1000001 ≤ p3 ∧ p3 ≤ 2147483647 := (vc_X11_demand_14 h19 h16 h18)
  refine mr_iconst (pc := 19) (z := (-1)) dX11_demand_19 ?_
  exact mr_iret dX11_demand_20 rfl (le_t rfl) (le_t rfl) hT mF.refl ⟨(rW (c := (-2147483648)) (d := 2147483647) (rR (x := (-1))) rfl), trivial⟩
set_option maxRecDepth 4000 in
set_option maxHeartbeats 4000000 in
theorem c_X11_load {l : Launch} {D : va_G} {c : Nat → ClassId} {H0 : Heap} {sa : Nat × Nat × (Nat → Int32)} {w : mW} {μ : mM} (hw : mWF w) (hT : mT w μ) {p1 : Int} (hp1 : (-2147483648) ≤ p1 ∧ p1 ≤ 2147483647) {p2 : Int} (hp2 : (-2147483648) ≤ p2 ∧ p2 ≤ 2147483647) : sC (gG l D c H0 sa) mX11_load 5 0 0 [.ref 0, iv p1, iv p2] (mk w μ) (qI w [87006, 88999] μ (fun z μ1 => ((-2147483648) ≤ z ∧ z ≤ 2147483647) ∧ True)) := by
  refine sC.of rfl (by decide) (le_t rfl) ?_
  refine mr_lvE (lv' := [(0, .ref 0), (1, iv p1), (2, iv p2)]) rfl ?_
  refine sv_aload_n (pc := 0) dX11_load_0 rfl rfl ?_
  refine mr_iload_n (pc := 1) (z := p1) dX11_load_1 rfl rfl ?_
  obtain ⟨z1, q2⟩ : ∃ z, μ 6 16 = z := ⟨_, rfl⟩
  have h3 : (z1 = w.2.2.2 1 ∧ 0 ≤ z1 ∧ z1 ≤ 20) := by rw [← q2]; exact hT 6 6 (A_6 hw) 16
  refine mr_cVP (pc := 2) (c_X11_isTie hw hT hp1 q2) (gOk _ _ _ _ _) dX11_load_2 (tX11_isTie _ _ _ _ _) ⟨wV_X11_isTie, wL_X11_isTie⟩ wM_X11_119 (gCX11 _ _ _ _ _) rfl (A_0 hw) rfl ⟨le_t rfl, le_t rfl⟩ ⟨le_t rfl, le_t rfl⟩ rfl (le_t rfl) fun z8 h7 => ?_
  refine mr_if_eq (pc := 5) (tgt := 15) dX11_load_5 (by decide) (r32 h7.1 rfl) (fun h9 => ?_) (fun h9 => ?_)
  · have h10 : 0 ≤ z8 ∧ z8 ≤ 0 := (vc_X12_pace_1 h9 h7.2.1 h7.2.2.1 hp1 h3.2 h7.1)
    have h11 : p1 < 0 ∨ z1 ≤ p1 := (h7.2.2.1 (vc_X11_pace_2 h7.2.1 h7.2.2.1 h9 h3.1 hp1 h3.2 h10))
    refine mr_iconst (pc := 15) (z := (-1)) dX11_load_15 ?_
    exact mr_iret dX11_load_16 rfl (le_t rfl) (le_t rfl) hT mF.refl ⟨(rW (c := (-2147483648)) (d := 2147483647) (rR (x := (-1))) rfl), trivial⟩
  have h12 : 1 ≤ z8 ∧ z8 ≤ 1 := (vc_X12_pace_3 h9 h7.2.1 h7.2.2.1 hp1 h3.2 h7.1)
  have h13 : 0 ≤ p1 ∧ p1 < z1 := (h7.2.1 (vc_X11_pace_4 h7.2.1 h7.2.2.1 h9 h3.1 hp1 h3.2 h12))
  have h14 : 0 ≤ p1 ∧ p1 ≤ 19 := (vc_X11_pace_5 h13 h3.1 h7.2.1 h7.2.2.1 hp1 h3.2 h12)
  have h15 : 1 ≤ z1 ∧ z1 ≤ 20 := (vc_X11_pace_6 h13 h3.1 h7.2.1 h7.2.2.1 h14 h3.2 h12)
  refine mr_iload_n (pc := 8) (z := p2) dX11_load_8 rfl rfl ?_
  refine mr_cSP (pc := 9) (c_X11_isEither hw hT hp2) (gOk _ _ _ _ _) dX11_load_9 (tX11_isEither _ _ _ _ _) wS_X11_isEither wM_X11_271 ⟨le_t rfl, le_t rfl⟩ ⟨le_t rfl, le_t rfl⟩ rfl (le_t rfl) fun z20 h19 => ?_
  refine mr_if_ne (pc := 12) (tgt := 17) dX11_load_12 (by decide) (r32 h19.1 rfl) (fun h21 => ?_) (fun h21 => ?_)
  · have h22 : 1 ≤ z20 ∧ z20 ≤ 1 := (vc_X11_heard_9 h21 h19.2.1 h19.2.2.1 hp2 h19.1)
    have h23 : 0 ≤ p2 ∧ p2 ≤ 1 := (h19.2.1 (vc_X11_heard_10 h19.2.1 h19.2.2.1 h21 hp2 h22))
    have h24 : 0 ≤ p2 ∧ p2 ≤ 1 := (vc_X11_heard_11 h23 h19.2.1 h19.2.2.1 hp2 h22)
    refine sv_aload_n (pc := 17) dX11_load_17 rfl rfl ?_
    refine gf_X11_3 (pc := 18) dX11_load_18 wF_X11_26 (A_0 hw) hT ?_
    refine gf_X10_4 (pc := 21) dX11_load_21 wF_X11_122 (A_6 hw) hT ?_
    refine mr_iload_n (pc := 24) (z := p1) dX11_load_24 rfl rfl ?_
    refine la_11 (pc := 25) dX11_load_25 (A_11 hw) hT (rIx (n := 20) h14 rfl) (vc_X11_pace_14 h3.1 h7.2.1 h7.2.2.1 h13 h9 h14 h15 h12) fun b25 q26 A27 => ?_
    refine mr_astore_n (pc := 26) (lv' := [(3, .ref b25), (0, .ref 0), (1, iv p1), (2, iv p2)]) dX11_load_26 rfl (by decide) rfl ?_
    refine sv_aload_n (pc := 27) dX11_load_27 rfl rfl ?_
    refine gf_X11_8 (pc := 28) dX11_load_28 wF_X11_65 (A_0 hw) hT ?_
    refine sv_aload_n (pc := 31) dX11_load_31 rfl rfl ?_
    refine mr_iload_n (pc := 32) (z := p2) dX11_load_32 rfl rfl ?_
    refine mr_cVP (pc := 33) (c_X9_end hw hT A27 (rW (c := (-2147483648)) (d := 2147483647) h24 rfl)) (gOk _ _ _ _ _) dX11_load_33 (tX9_end _ _ _ _ _) ⟨wV_X9_end, wL_X9_end⟩ wM_X11_277 (gCX9 _ _ _ _ _) rfl A27 rfl ⟨le_t rfl, le_t rfl⟩ ⟨le_t rfl, le_t rfl⟩ rfl (le_t rfl) fun z32 h31 => ?_
    refine sv_aload_n (pc := 36) dX11_load_36 rfl rfl ?_
    refine mr_iconst (pc := 37) (z := 1) dX11_load_37 ?_
    refine mr_iload_n (pc := 38) (z := p2) dX11_load_38 rfl rfl ?_
    refine mr_isub (pc := 39) (x := 1) (y := p2) dX11_load_39 ?_
    refine mr_cVP (pc := 40) (c_X9_end hw hT A27 (rW (c := (-2147483648)) (d := 2147483647) (rSub (e := 0) (f := 1) (rR (x := 1)) h24 rfl) rfl)) (gOk _ _ _ _ _) dX11_load_40 (tX9_end _ _ _ _ _) ⟨wV_X9_end, wL_X9_end⟩ wM_X11_277 (gCX9 _ _ _ _ _) rfl A27 rfl ⟨le_t rfl, le_t rfl⟩ ⟨le_t rfl, le_t rfl⟩ rfl (le_t rfl) fun z37 h36 => ?_
    refine mr_cVI (pc := 43) (c_X2_unitsOver hw hT (rW (c := (-2147483648)) (d := 2147483647) h31.1 rfl) (rW (c := (-2147483648)) (d := 2147483647) h36.1 rfl)) (gOk _ _ _ _ _) dX11_load_43 (tX2_unitsOver _ _ _ _ _) ⟨wV_X2_unitsOver, wL_X2_unitsOver⟩ wM_X11_379 (gCX2 _ _ _ _ _) rfl (A_87 hw) rfl ⟨le_t rfl, le_t rfl⟩ ⟨le_t rfl, le_t rfl⟩ rfl (le_t rfl) fun z42 μ38 T39 F40 h41 => ?_
    exact mr_iret dX11_load_46 rfl (le_t rfl) (le_t rfl) T39 (mF.call mF.refl F40 rfl) ⟨h41.1, trivial⟩
  have h43 : 0 ≤ z20 ∧ z20 ≤ 0 := (vc_X11_heard_7 h21 h19.2.1 h19.2.2.1 hp2 h19.1)
  have h44 : p2 < 0 ∨ 1 < p2 := (h19.2.2.1 (vc_X11_heard_8 h19.2.1 h19.2.2.1 h21 hp2 h43))
  refine mr_iconst (pc := 15) (z := (-1)) dX11_load_15 ?_
  exact mr_iret dX11_load_16 rfl (le_t rfl) (le_t rfl) hT mF.refl ⟨(rW (c := (-2147483648)) (d := 2147483647) (rR (x := (-1))) rfl), trivial⟩
set_option maxRecDepth 4000 in
set_option maxHeartbeats 4000000 in
theorem c_X11_units {l : Launch} {D : va_G} {c : Nat → ClassId} {H0 : Heap} {sa : Nat × Nat × (Nat → Int32)} {w : mW} {μ : mM} (hw : mWF w) (hT : mT w μ) {p1 : Int} (hp1 : (-2147483648) ≤ p1 ∧ p1 ≤ 2147483647) : sC (gG l D c H0 sa) mX11_units 5 0 0 [.ref 0, iv p1] (mk w μ) (qI w [87006, 88999] μ (fun z μ1 => ((-2147483648) ≤ z ∧ z ≤ 2147483647) ∧ True)) := by
  refine sC.of rfl (by decide) (le_t rfl) ?_
  refine mr_lvE (lv' := [(0, .ref 0), (1, iv p1)]) rfl ?_
  refine mr_iload_n (pc := 0) (z := p1) dX11_units_0 rfl rfl ?_
  refine mr_if_lt (pc := 1) (tgt := 9) dX11_units_1 (by decide) hp1 (fun h10 => ?_) (fun h10 => ?_)
  · have h11 : (-2147483648) ≤ p1 ∧ p1 ≤ (-1) := (vc_X12_ring_60 h10 hp1)
    refine mr_iconst (pc := 9) (z := (-1)) dX11_units_9 ?_
    refine sv_goto (pc := 10) (tgt := 21) dX11_units_10 (by decide) ?_
    exact mr_iret dX11_units_21 rfl (le_t rfl) (le_t rfl) hT mF.refl ⟨(rW (c := (-2147483648)) (d := 2147483647) (rR (x := (-1))) rfl), trivial⟩
  have h12 : 0 ≤ p1 ∧ p1 ≤ 2147483647 := (vc_X12_ring_1 h10 hp1)
  refine mr_iload_n (pc := 4) (z := p1) dX11_units_4 rfl rfl ?_
  refine mr_iconst (pc := 5) (z := 2) dX11_units_5 ?_
  refine mr_icmp_le (pc := 6) (tgt := 13) dX11_units_6 (by decide) (r32 h12 rfl) (r32 (rR (x := 2)) rfl) (fun h20 => ?_) (fun h20 => ?_)
  · have h21 : 0 ≤ p1 ∧ p1 ≤ 2 := (vc_X11_route_13 h20 h10 h12)
    refine sv_aload_n (pc := 13) dX11_units_13 rfl rfl ?_
    refine gf_X11_8 (pc := 14) dX11_units_14 wF_X11_65 (A_0 hw) hT ?_
    refine mr_iload_n (pc := 17) (z := p1) dX11_units_17 rfl rfl ?_
    refine mr_cVI (pc := 18) (c_X2_unitsThat hw hT (rW (c := (-2147483648)) (d := 2147483647) h21 rfl)) (gOk _ _ _ _ _) dX11_units_18 (tX2_unitsThat _ _ _ _ _) ⟨wV_X2_unitsThat, wL_X2_unitsThat⟩ wM_X11_382 (gCX2 _ _ _ _ _) rfl (A_87 hw) rfl ⟨le_t rfl, le_t rfl⟩ ⟨le_t rfl, le_t rfl⟩ rfl (le_t rfl) fun z26 μ22 T23 F24 h25 => ?_
    exact mr_iret dX11_units_21 rfl (le_t rfl) (le_t rfl) T23 (mF.call mF.refl F24 rfl) ⟨h25.1, trivial⟩
  have h27 : 3 ≤ p1 ∧ p1 ≤ 2147483647 := (vc_X11_route_12 h20 h10 h12)
  refine mr_iconst (pc := 9) (z := (-1)) dX11_units_9 ?_
  refine sv_goto (pc := 10) (tgt := 21) dX11_units_10 (by decide) ?_
  exact mr_iret dX11_units_21 rfl (le_t rfl) (le_t rfl) hT mF.refl ⟨(rW (c := (-2147483648)) (d := 2147483647) (rR (x := (-1))) rfl), trivial⟩
theorem vc_X11_differ_8 {n0 p1 p2 z1 z41 z8 : Int} (h0 : (z41 = 1 → 0 ≤ p2 ∧ p2 < z1)) (h1 : (z41 = 0 → p2 < 0 ∨ z1 ≤ p2)) (h2 : z41 = 0) (h3 : z1 = n0) (h4 : (z8 = 1 → 0 ≤ p1 ∧ p1 < z1)) (h5 : (z8 = 0 → p1 < 0 ∨ z1 ≤ p1)) (h6 : 0 ≤ p1 ∧ p1 < z1) (h7 : 0 ≤ p1 ∧ p1 ≤ 9) (h8 : (-2147483648) ≤ p2 ∧ p2 ≤ 2147483647) (h9 : 1 ≤ z1 ∧ z1 ≤ 10) (h10 : 0 ≤ z41 ∧ z41 ≤ 0) (h11 : 1 ≤ z8 ∧ z8 ≤ 1) : z41 = 0 := by omega
theorem vc_X11_differ_10 {n0 p1 p2 z1 z41 z8 : Int} (h0 : (z41 = 1 → 0 ≤ p2 ∧ p2 < z1)) (h1 : (z41 = 0 → p2 < 0 ∨ z1 ≤ p2)) (h2 : ¬ z41 = 0) (h3 : z1 = n0) (h4 : (z8 = 1 → 0 ≤ p1 ∧ p1 < z1)) (h5 : (z8 = 0 → p1 < 0 ∨ z1 ≤ p1)) (h6 : 0 ≤ p1 ∧ p1 < z1) (h7 : 0 ≤ p1 ∧ p1 ≤ 9) (h8 : (-2147483648) ≤ p2 ∧ p2 ≤ 2147483647) (h9 : 1 ≤ z1 ∧ z1 ≤ 10) (h10 : 1 ≤ z41 ∧ z41 ≤ 1) (h11 : 1 ≤ z8 ∧ z8 ≤ 1) : z41 = 1 := by omega
theorem vc_X11_differ_11 {n0 p1 p2 z1 z41 z8 : Int} (h0 : 0 ≤ p2 ∧ p2 < z1) (h1 : z1 = n0) (h2 : (z8 = 1 → 0 ≤ p1 ∧ p1 < z1)) (h3 : (z8 = 0 → p1 < 0 ∨ z1 ≤ p1)) (h4 : 0 ≤ p1 ∧ p1 < z1) (h5 : (z41 = 1 → 0 ≤ p2 ∧ p2 < z1)) (h6 : (z41 = 0 → p2 < 0 ∨ z1 ≤ p2)) (h7 : 0 ≤ p1 ∧ p1 ≤ 9) (h8 : (-2147483648) ≤ p2 ∧ p2 ≤ 2147483647) (h9 : 1 ≤ z1 ∧ z1 ≤ 10) (h10 : 1 ≤ z41 ∧ z41 ≤ 1) (h11 : 1 ≤ z8 ∧ z8 ≤ 1) : 0 ≤ p2 ∧ p2 ≤ 9 := by omega
theorem vc_X11_differ_12 {n0 p1 p2 z1 z41 z8 : Int} (h0 : z1 = n0) (h1 : (z8 = 1 → 0 ≤ p1 ∧ p1 < z1)) (h2 : (z8 = 0 → p1 < 0 ∨ z1 ≤ p1)) (h3 : 0 ≤ p1 ∧ p1 < z1) (h4 : ¬ z8 = 0) (h5 : (z41 = 1 → 0 ≤ p2 ∧ p2 < z1)) (h6 : (z41 = 0 → p2 < 0 ∨ z1 ≤ p2)) (h7 : 0 ≤ p2 ∧ p2 < z1) (h8 : 0 ≤ p1 ∧ p1 ≤ 9) (h9 : 0 ≤ p2 ∧ p2 ≤ 9) (h10 : 1 ≤ z1 ∧ z1 ≤ 10) (h11 : 1 ≤ z41 ∧ z41 ≤ 1) (h12 : 1 ≤ z8 ∧ z8 ≤ 1) : p1 < n0 := by omega
theorem vc_X11_differ_13 {n0 p1 p2 z1 z41 z8 : Int} (h0 : z1 = n0) (h1 : (z41 = 1 → 0 ≤ p2 ∧ p2 < z1)) (h2 : (z41 = 0 → p2 < 0 ∨ z1 ≤ p2)) (h3 : 0 ≤ p2 ∧ p2 < z1) (h4 : (z8 = 1 → 0 ≤ p1 ∧ p1 < z1)) (h5 : (z8 = 0 → p1 < 0 ∨ z1 ≤ p1)) (h6 : 0 ≤ p1 ∧ p1 < z1) (h7 : ¬ z41 = 0) (h8 : 0 ≤ p1 ∧ p1 ≤ 9) (h9 : 0 ≤ p2 ∧ p2 ≤ 9) (h10 : 1 ≤ z1 ∧ z1 ≤ 10) (h11 : 1 ≤ z41 ∧ z41 ≤ 1) (h12 : 1 ≤ z8 ∧ z8 ≤ 1) : p2 < n0 := by omega
set_option maxRecDepth 4000 in
set_option maxHeartbeats 4000000 in
theorem c_X11_differ {l : Launch} {D : va_G} {c : Nat → ClassId} {H0 : Heap} {sa : Nat × Nat × (Nat → Int32)} {w : mW} {μ : mM} (hw : mWF w) (hT : mT w μ) {p1 : Int} (hp1 : (-2147483648) ≤ p1 ∧ p1 ≤ 2147483647) {p2 : Int} (hp2 : (-2147483648) ≤ p2 ∧ p2 ≤ 2147483647) : sC (gG l D c H0 sa) mX11_differ 4 0 0 [.ref 0, iv p1, iv p2] (mk w μ) (qJ w [93999] μ (fun z μ1 => ((-9223372036854775808) ≤ z ∧ z ≤ 9223372036854775807) ∧ True)) := by
  refine sC.of rfl (by decide) (le_t rfl) ?_
  refine mr_lvE (lv' := [(0, .ref 0), (1, iv p1), (2, iv p2)]) rfl ?_
  refine sv_aload_n (pc := 0) dX11_differ_0 rfl rfl ?_
  refine mr_iload_n (pc := 1) (z := p1) dX11_differ_1 rfl rfl ?_
  obtain ⟨z1, q2⟩ : ∃ z, μ 6 15 = z := ⟨_, rfl⟩
  have h3 : (z1 = w.2.2.2 0 ∧ 0 ≤ z1 ∧ z1 ≤ 10) := by rw [← q2]; exact hT 6 6 (A_6 hw) 15
  refine mr_cVP (pc := 2) (c_X11_isDomain hw hT hp1 q2) (gOk _ _ _ _ _) dX11_differ_2 (tX11_isDomain _ _ _ _ _) ⟨wV_X11_isDomain, wL_X11_isDomain⟩ wM_X11_105 (gCX11 _ _ _ _ _) rfl (A_0 hw) rfl ⟨le_t rfl, le_t rfl⟩ ⟨le_t rfl, le_t rfl⟩ rfl (le_t rfl) fun z8 h7 => ?_
  refine mr_if_eq (pc := 5) (tgt := 28) dX11_differ_5 (by decide) (r32 h7.1 rfl) (fun h30 => ?_) (fun h30 => ?_)
  · have h31 : 0 ≤ z8 ∧ z8 ≤ 0 := (vc_X12_write_78 h30 h7.2.1 h7.2.2.1 hp1 h3.2 h7.1)
    have h32 : p1 < 0 ∨ z1 ≤ p1 := (h7.2.2.1 (vc_X11_picked_2 h7.2.1 h7.2.2.1 h30 h3.1 hp1 h3.2 h31))
    refine mr_ldc2 (pc := 28) (z := (-1)) dX11_differ_28 wH_X11_392 (by decide) ?_
    exact mr_lret dX11_differ_31 rfl (le_t rfl) (le_t rfl) hT mF.refl ⟨(rW (c := -9223372036854775808) (d := 9223372036854775807) (rR (x := (-1))) rfl), trivial⟩
  have h33 : 1 ≤ z8 ∧ z8 ≤ 1 := (vc_X12_write_12 h30 h7.2.1 h7.2.2.1 hp1 h3.2 h7.1)
  have h34 : 0 ≤ p1 ∧ p1 < z1 := (h7.2.1 (vc_X11_picked_4 h7.2.1 h7.2.2.1 h30 h3.1 hp1 h3.2 h33))
  have h35 : 0 ≤ p1 ∧ p1 ≤ 9 := (vc_X11_picked_5 h34 h3.1 h7.2.1 h7.2.2.1 hp1 h3.2 h33)
  have h36 : 1 ≤ z1 ∧ z1 ≤ 10 := (vc_X11_picked_6 h34 h3.1 h7.2.1 h7.2.2.1 h35 h3.2 h33)
  refine sv_aload_n (pc := 8) dX11_differ_8 rfl rfl ?_
  refine mr_iload_n (pc := 9) (z := p2) dX11_differ_9 rfl rfl ?_
  refine mr_cVP (pc := 10) (c_X11_isDomain hw hT hp2 q2) (gOk _ _ _ _ _) dX11_differ_10 (tX11_isDomain _ _ _ _ _) ⟨wV_X11_isDomain, wL_X11_isDomain⟩ wM_X11_105 (gCX11 _ _ _ _ _) rfl (A_0 hw) rfl ⟨le_t rfl, le_t rfl⟩ ⟨le_t rfl, le_t rfl⟩ rfl (le_t rfl) fun z41 h40 => ?_
  refine mr_if_eq (pc := 13) (tgt := 28) dX11_differ_13 (by decide) (r32 h40.1 rfl) (fun h52 => ?_) (fun h52 => ?_)
  · have h53 : 0 ≤ z41 ∧ z41 ≤ 0 := (vc_X12_differ_44 h52 h40.2.1 h40.2.2.1 hp2 h36 h40.1)
    have h54 : p2 < 0 ∨ z1 ≤ p2 := (h40.2.2.1 (vc_X11_differ_8 h40.2.1 h40.2.2.1 h52 h3.1 h7.2.1 h7.2.2.1 h34 h35 hp2 h36 h53 h33))
    refine mr_ldc2 (pc := 28) (z := (-1)) dX11_differ_28 wH_X11_392 (by decide) ?_
    exact mr_lret dX11_differ_31 rfl (le_t rfl) (le_t rfl) hT mF.refl ⟨(rW (c := -9223372036854775808) (d := 9223372036854775807) (rR (x := (-1))) rfl), trivial⟩
  have h55 : 1 ≤ z41 ∧ z41 ≤ 1 := (vc_X12_differ_7 h52 h40.2.1 h40.2.2.1 hp2 h36 h40.1)
  have h56 : 0 ≤ p2 ∧ p2 < z1 := (h40.2.1 (vc_X11_differ_10 h40.2.1 h40.2.2.1 h52 h3.1 h7.2.1 h7.2.2.1 h34 h35 hp2 h36 h55 h33))
  have h57 : 0 ≤ p2 ∧ p2 ≤ 9 := (vc_X11_differ_11 h56 h3.1 h7.2.1 h7.2.2.1 h34 h40.2.1 h40.2.2.1 h35 hp2 h36 h55 h33)
  refine sv_aload_n (pc := 16) dX11_differ_16 rfl rfl ?_
  refine gf_X11_8 (pc := 17) dX11_differ_17 wF_X11_65 (A_0 hw) hT ?_
  refine mr_iload_n (pc := 20) (z := p1) dX11_differ_20 rfl rfl ?_
  refine mr_iload_n (pc := 21) (z := p2) dX11_differ_21 rfl rfl ?_
  refine mr_cVJ (pc := 22) (c_X2_unlikeAddresses hw hT h35 h57 (vc_X11_differ_12 h3.1 h7.2.1 h7.2.2.1 h34 h30 h40.2.1 h40.2.2.1 h56 h35 h57 h36 h55 h33) (vc_X11_differ_13 h3.1 h40.2.1 h40.2.2.1 h56 h7.2.1 h7.2.2.1 h34 h52 h35 h57 h36 h55 h33)) (gOk _ _ _ _ _) dX11_differ_22 (tX2_unlikeAddresses _ _ _ _ _) ⟨wV_X2_unlikeAddresses, wL_X2_unlikeAddresses⟩ wM_X11_388 (gCX2 _ _ _ _ _) rfl (A_87 hw) rfl ⟨le_t rfl, le_t rfl⟩ ⟨le_t rfl, le_t rfl⟩ rfl (le_t rfl) fun z62 μ58 T59 F60 h61 => ?_
  refine sv_goto (pc := 25) (tgt := 31) dX11_differ_25 (by decide) ?_
  exact mr_lret dX11_differ_31 rfl (le_t rfl) (le_t rfl) T59 (mF.call mF.refl F60 rfl) ⟨h61.1, trivial⟩
set_option maxRecDepth 4000 in
set_option maxHeartbeats 4000000 in
theorem c_X3_pairAt {l : Launch} {D : va_G} {c : Nat → ClassId} {H0 : Heap} {sa : Nat × Nat × (Nat → Int32)} {w : mW} {μ : mM} (hw : mWF w) (hT : mT w μ) {p1 : Int} (hp1 : 0 ≤ p1 ∧ p1 ≤ 998) (hIOC : OC μ) : sC (gG l D c H0 sa) mX3_pairAt 1 0 0 [.ref 76, iv p1] (mk w μ) (qP w μ (fun z => (0 ≤ z ∧ z ≤ 65535) ∧ True)) := by
  refine sC.of rfl (by decide) (le_t rfl) ?_
  refine mr_lvE (lv' := [(0, .ref 76), (1, iv p1)]) rfl ?_
  refine sv_aload_n (pc := 0) dX3_pairAt_0 rfl rfl ?_
  refine gf_X3_4 (pc := 1) dX3_pairAt_1 wF_X3_41 (A_76 hw) hT hIOC fun b1 q2 A3 => ?_
  refine mr_iload_n (pc := 4) (z := p1) dX3_pairAt_4 rfl rfl ?_
  refine la_1 (pc := 5) dX3_pairAt_5 A3 hT (rIx (n := 1000) hp1 rfl) fun z4 q5 h6 => ?_
  refine mr_bipush (pc := 6) (z := 8) dX3_pairAt_6 (by decide) ?_
  refine mr_ishl (pc := 8) (x := z4) (y := 8) dX3_pairAt_8 ?_
  refine mr_gen (P := fun z => 0 ≤ z ∧ z ≤ 65280) (rShl (k := 8) h6 rfl) fun z7 q8 h9 => ?_
  refine sv_aload_n (pc := 9) dX3_pairAt_9 rfl rfl ?_
  refine gk_X3_4 (pc := 10) dX3_pairAt_10 wF_X3_41 (A_76 hw) q2 ?_
  refine mr_iload_n (pc := 13) (z := p1) dX3_pairAt_13 rfl rfl ?_
  refine mr_iconst (pc := 14) (z := 1) dX3_pairAt_14 ?_
  refine mr_iadd (pc := 15) (x := p1) (y := 1) dX3_pairAt_15 ?_
  refine la_1 (pc := 16) dX3_pairAt_16 A3 hT (rIx (n := 1000) (rAdd (e := 1) (f := 999) hp1 (rR (x := 1)) rfl) rfl) fun z10 q11 h12 => ?_
  refine mr_ior (pc := 17) (x := z7) (y := z10) dX3_pairAt_17 ?_
  refine mr_gen (P := fun z => 0 ≤ z ∧ z ≤ 65535) (rOr 16 h9 h12 rfl) fun z13 q14 h15 => ?_
  exact mr_iretP dX3_pairAt_18 rfl (le_t rfl) (le_t rfl) ⟨h15, trivial⟩
set_option maxRecDepth 4000 in
set_option maxHeartbeats 4000000 in
theorem c_X3_fourAt {l : Launch} {D : va_G} {c : Nat → ClassId} {H0 : Heap} {sa : Nat × Nat × (Nat → Int32)} {w : mW} {μ : mM} (hw : mWF w) (hT : mT w μ) {p1 : Int} (hp1 : 0 ≤ p1 ∧ p1 ≤ 996) (hIOC : OC μ) : sC (gG l D c H0 sa) mX3_fourAt 2 0 0 [.ref 76, iv p1] (mk w μ) (qP w μ (fun z => ((-2147483648) ≤ z ∧ z ≤ 2147483647) ∧ True)) := by
  refine sC.of rfl (by decide) (le_t rfl) ?_
  refine mr_lvE (lv' := [(0, .ref 76), (1, iv p1)]) rfl ?_
  refine sv_aload_n (pc := 0) dX3_fourAt_0 rfl rfl ?_
  refine mr_iload_n (pc := 1) (z := p1) dX3_fourAt_1 rfl rfl ?_
  refine mr_cVP (pc := 2) (c_X3_pairAt hw hT (rW (c := 0) (d := 998) hp1 rfl) hIOC) (gOk _ _ _ _ _) dX3_fourAt_2 (tX3_pairAt _ _ _ _ _) ⟨wV_X3_pairAt, wL_X3_pairAt⟩ wM_X3_88 (gCX3 _ _ _ _ _) rfl (A_76 hw) rfl ⟨le_t rfl, le_t rfl⟩ ⟨le_t rfl, le_t rfl⟩ rfl (le_t rfl) fun z5 h4 => ?_
  refine mr_bipush (pc := 5) (z := 16) dX3_fourAt_5 (by decide) ?_
  refine mr_ishl (pc := 7) (x := z5) (y := 16) dX3_fourAt_7 ?_
  refine mr_gen (P := fun z => (-2147483648) ≤ z ∧ z ≤ 2147483647) (r32i _) fun z6 q7 h8 => ?_
  refine sv_aload_n (pc := 8) dX3_fourAt_8 rfl rfl ?_
  refine mr_iload_n (pc := 9) (z := p1) dX3_fourAt_9 rfl rfl ?_
  refine mr_iconst (pc := 10) (z := 2) dX3_fourAt_10 ?_
  refine mr_iadd (pc := 11) (x := p1) (y := 2) dX3_fourAt_11 ?_
  refine mr_cVP (pc := 12) (c_X3_pairAt hw hT (rW (c := 0) (d := 998) (rAdd (e := 2) (f := 998) hp1 (rR (x := 2)) rfl) rfl) hIOC) (gOk _ _ _ _ _) dX3_fourAt_12 (tX3_pairAt _ _ _ _ _) ⟨wV_X3_pairAt, wL_X3_pairAt⟩ wM_X3_88 (gCX3 _ _ _ _ _) rfl (A_76 hw) rfl ⟨le_t rfl, le_t rfl⟩ ⟨le_t rfl, le_t rfl⟩ rfl (le_t rfl) fun z13 h12 => ?_
  refine mr_ior (pc := 15) (x := z6) (y := z13) dX3_fourAt_15 ?_
  refine mr_gen (P := fun z => (-2147483648) ≤ z ∧ z ≤ 2147483647) (r32i _) fun z14 q15 h16 => ?_
  exact mr_iretP dX3_fourAt_16 rfl (le_t rfl) (le_t rfl) ⟨h16, trivial⟩
theorem vc_X3_readPrefixes_3 {p2 z1702 : Int} (h0 : z1702 < p2) (h1 : 0 ≤ p2 ∧ p2 ≤ 1000) (h2 : 0 ≤ z1702 ∧ z1702 ≤ 1000) : 0 ≤ z1702 ∧ z1702 ≤ 999 := by omega
theorem vc_X3_readPrefixes_8 {p3 z1701 : Int} (h0 : (p3 + z1701) < 1000) (h1 : z1701 + p3 ≤ 1000) (h2 : 0 ≤ p3 ∧ p3 ≤ 1000) (h3 : 0 ≤ z1701 ∧ z1701 ≤ 1000) : 0 ≤ p3 ∧ p3 ≤ 999 := by omega
theorem vc_X3_readPrefixes_9 {p3 z1701 : Int} (h0 : (p3 + z1701) < 1000) (h1 : z1701 + p3 ≤ 1000) (h2 : 0 ≤ p3 ∧ p3 ≤ 999) (h3 : 0 ≤ z1701 ∧ z1701 ≤ 1000) : 0 ≤ z1701 ∧ z1701 ≤ 999 := by omega
theorem vc_X3_readPrefixes_10 {z2173 : Int} (h0 : (33 - z2173) < ((0 : Nat) : Int)) (h1 : 0 ≤ z2173 ∧ z2173 ≤ 32) : False := by omega
theorem vc_X3_readPrefixes_11 {p3 z1701 : Int} (h0 : z1701 + p3 ≤ 1000) (h1 : (p3 + z1701) < 1000) (h2 : 0 ≤ p3 ∧ p3 ≤ 999) (h3 : 0 ≤ z1701 ∧ z1701 ≤ 999) : 0 ≤ (p3 + z1701) ∧ (p3 + z1701) < 1000 := by omega
theorem vc_X3_readPrefixes_12 {p2 z1702 z1720 z1723 z2173 : Int} (h0 : z1702 < p2) (h1 : (z1720 + 7) / 8 = z1723) (h2 : ((z1702 + 1) + z1723) ≤ p2) (h3 : z1723 ≤ z2173) (h4 : z1720 ≤ 32) (h5 : 1 ≤ p2 ∧ p2 ≤ 1000) (h6 : 0 ≤ z1702 ∧ z1702 ≤ 999) (h7 : 0 ≤ z1720 ∧ z1720 ≤ 32) (h8 : 0 ≤ z1723 ∧ z1723 ≤ 32) (h9 : 0 ≤ z2173 ∧ z2173 ≤ 32) : 0 ≤ (z1702 + (1 + z1723)) ∧ (z1702 + (1 + z1723)) ≤ 1000 := by omega
theorem vc_X3_readPrefixes_13 {p3 z1701 : Int} (h0 : z1701 + p3 ≤ 1000) (h1 : (p3 + z1701) < 1000) (h2 : 0 ≤ p3 ∧ p3 ≤ 999) (h3 : 0 ≤ z1701 ∧ z1701 ≤ 999) : (z1701 + 1) + p3 ≤ 1000 := by omega
theorem vc_X3_readPrefixes_14 {N p2 z1702 z1720 z1723 z2173 : Int} (h0 : (1001 - z1702) < N + 1) (h1 : z1702 < p2) (h2 : (z1720 + 7) / 8 = z1723) (h3 : ((z1702 + 1) + z1723) ≤ p2) (h4 : z1723 ≤ z2173) (h5 : z1720 ≤ 32) (h6 : 1 ≤ p2 ∧ p2 ≤ 1000) (h7 : 0 ≤ z1702 ∧ z1702 ≤ 999) (h8 : 0 ≤ z1720 ∧ z1720 ≤ 32) (h9 : 0 ≤ z1723 ∧ z1723 ≤ 32) (h10 : 0 ≤ z2173 ∧ z2173 ≤ 32) : (1001 - (z1702 + (1 + z1723))) < N := by omega
theorem vc_X3_readPrefixes_15 {p2 z1702 z1720 z1723 z2173 : Int} (h0 : z2173 < z1723) (h1 : (z1720 + 7) / 8 = z1723) (h2 : ((z1702 + 1) + z1723) ≤ p2) (h3 : 1 ≤ p2 ∧ p2 ≤ 1000) (h4 : 0 ≤ z1702 ∧ z1702 ≤ 999) (h5 : 0 ≤ z1720 ∧ z1720 ≤ 32) (h6 : 0 ≤ z1723 ∧ z1723 ≤ 32) (h7 : 0 ≤ z2173 ∧ z2173 ≤ 32) : 0 ≤ z2173 ∧ z2173 ≤ 31 := by omega
theorem vc_X3_readPrefixes_16 {p2 z1702 z1720 z1723 z2173 : Int} (h0 : z2173 < z1723) (h1 : (z1720 + 7) / 8 = z1723) (h2 : ((z1702 + 1) + z1723) ≤ p2) (h3 : 1 ≤ p2 ∧ p2 ≤ 1000) (h4 : 0 ≤ z1702 ∧ z1702 ≤ 999) (h5 : 0 ≤ z1720 ∧ z1720 ≤ 32) (h6 : 0 ≤ z1723 ∧ z1723 ≤ 32) (h7 : 0 ≤ z2173 ∧ z2173 ≤ 31) : 1 ≤ z1723 ∧ z1723 ≤ 32 := by omega
theorem vc_X3_readPrefixes_17 {p2 z1702 z1720 z1723 z2173 : Int} (h0 : z1702 < p2) (h1 : ((z1702 + 1) + z1723) ≤ p2) (h2 : z2173 < z1723) (h3 : (z1720 + 7) / 8 = z1723) (h4 : 1 ≤ p2 ∧ p2 ≤ 1000) (h5 : 0 ≤ z1702 ∧ z1702 ≤ 999) (h6 : 0 ≤ z1720 ∧ z1720 ≤ 32) (h7 : 1 ≤ z1723 ∧ z1723 ≤ 32) (h8 : 0 ≤ z2173 ∧ z2173 ≤ 31) : 0 ≤ ((z1702 + 1) + z2173) ∧ ((z1702 + 1) + z2173) < 1000 := by omega
theorem vc_X3_readPrefixes_18 {N p2 z1702 z1720 z1723 z2173 : Int} (h0 : (33 - z2173) < N + 1) (h1 : z2173 < z1723) (h2 : (z1720 + 7) / 8 = z1723) (h3 : ((z1702 + 1) + z1723) ≤ p2) (h4 : 1 ≤ p2 ∧ p2 ≤ 1000) (h5 : 0 ≤ z1702 ∧ z1702 ≤ 999) (h6 : 0 ≤ z1720 ∧ z1720 ≤ 32) (h7 : 1 ≤ z1723 ∧ z1723 ≤ 32) (h8 : 0 ≤ z2173 ∧ z2173 ≤ 31) : (33 - (z2173 + 1)) < N := by omega
theorem vc_X3_readPrefixes_19  : (33 - 0) < ((34 : Nat) : Int) := by omega
theorem vc_X3_readPrefixes_20 {p3 z1701 : Int} (h0 : z1701 + p3 ≤ 1000) (h1 : 1000 ≤ (p3 + z1701)) (h2 : 0 ≤ p3 ∧ p3 ≤ 1000) (h3 : 0 ≤ z1701 ∧ z1701 ≤ 1000) : z1701 + p3 ≤ 1000 := by omega
theorem vc_X3_readPrefixes_21 {p3 : Int} (h0 : 0 ≤ p3 ∧ p3 ≤ 1000) : (0 : Int) + p3 ≤ 1000 := by omega
theorem vc_X3_readPrefixes_22 {p1 : Int} (h0 : 0 ≤ p1 ∧ p1 ≤ 1000) : (1001 - p1) < ((1002 : Nat) : Int) := by omega
set_option maxRecDepth 4000 in
set_option maxHeartbeats 4000000 in
theorem c_X3_readPrefixes {l : Launch} {D : va_G} {c : Nat → ClassId} {H0 : Heap} {sa : Nat × Nat × (Nat → Int32)} {w : mW} {μ : mM} (hw : mWF w) (hT : mT w μ) {p1 : Int} (hp1 : 0 ≤ p1 ∧ p1 ≤ 1000) {p2 : Int} (hp2 : 0 ≤ p2 ∧ p2 ≤ 1000) {p3 : Int} (hp3 : 0 ≤ p3 ∧ p3 ≤ 1000) (hIOC : OC μ) : sC (gG l D c H0 sa) mX3_readPrefixes 2 0 0 [.ref 76, iv p1, iv p2, iv p3] (mk w μ) (qI w [80999, 84999, 85999] μ (fun z μ1 => (0 ≤ z ∧ z ≤ 1000) ∧ (z + p3 ≤ 1000) ∧ True)) := by
  refine sC.of rfl (by decide) (le_t rfl) ?_
  refine mr_lvE (lv' := [(0, .ref 76), (1, iv p1), (2, iv p2), (3, iv p3)]) rfl ?_
  refine mr_iload_n (pc := 0) (z := p1) dX3_readPrefixes_0 rfl rfl ?_
  refine mr_istore (pc := 1) (lv' := [(4, iv p1), (0, .ref 76), (1, iv p1), (2, iv p2), (3, iv p3)]) dX3_readPrefixes_1 (by decide) rfl ?_
  refine mr_iconst (pc := 3) (z := 0) dX3_readPrefixes_3 ?_
  refine mr_istore (pc := 4) (lv' := [(5, iv 0), (4, iv p1), (0, .ref 76), (1, iv p1), (2, iv p2), (3, iv p3)]) dX3_readPrefixes_4 (by decide) rfl ?_
  have L1704 : ∀ (nL1704 : Nat) (z1702 z1701 : Int) (μ1703 : mM), mT w μ1703 → mF [84999, 85999] w μ μ1703 → (0 ≤ z1702 ∧ z1702 ≤ 1000) → (0 ≤ z1701 ∧ z1701 ≤ 1000) → (z1701 + p3 ≤ 1000) → OC μ1703 → (1001 - z1702) < (nL1704 : Int) → sV (gG l D c H0 sa) mX3_readPrefixes (sRm 2 0 0) (sZ (gG l D c H0 sa) 0 0 (qI w [80999, 84999, 85999] μ (fun z μ1 => (0 ≤ z ∧ z ≤ 1000) ∧ (z + p3 ≤ 1000) ∧ True))) 6 [(0, .ref 76), (2, iv p2), (3, iv p3), (4, iv z1702), (5, iv z1701)] [] (mk w μ1703) 0 0 := by
    intro nL1704
    induction nL1704 with
    | zero => intro z1702 z1701 μ1703 T1707 F1708 h1705 h1706 h1710 I1711 h1712; exact ((vc_X1_doActs_12_1 h1712 h1705)).elim
    | succ nL1704 ih1713 =>
      intro z1702 z1701 μ1703 T1707 F1708 h1705 h1706 h1710 I1711 h1712
      refine mr_iload (pc := 6) (z := z1702) dX3_readPrefixes_6 rfl ?_
      refine mr_iload_n (pc := 8) (z := p2) dX3_readPrefixes_8 rfl rfl ?_
      refine mr_icmp_ge (pc := 9) (tgt := 157) dX3_readPrefixes_9 (by decide) (r32 h1705 rfl) (r32 hp2 rfl) (fun h1714 => ?_) (fun h1714 => ?_)
      · refine mr_iload (pc := 157) (z := z1701) dX3_readPrefixes_157 rfl ?_
        exact mr_iret dX3_readPrefixes_159 rfl (le_t rfl) (le_t rfl) T1707 (mF.call mF.refl F1708 rfl) ⟨h1706, (vc_X3_told_5 h1710 hp3 h1706), trivial⟩
      have h1715 : 0 ≤ z1702 ∧ z1702 ≤ 999 := (vc_X3_readPrefixes_3 h1714 hp2 h1705)
      have h1716 : 1 ≤ p2 ∧ p2 ≤ 1000 := (vc_X12_byteAt_4 h1714 hp2 h1715)
      refine sv_aload_n (pc := 12) dX3_readPrefixes_12 rfl rfl ?_
      refine gf_X3_4 (pc := 13) dX3_readPrefixes_13 wF_X3_41 (A_76 hw) T1707 I1711 fun b1717 q1718 A1719 => ?_
      refine mr_iload (pc := 16) (z := z1702) dX3_readPrefixes_16 rfl ?_
      refine la_1 (pc := 18) dX3_readPrefixes_18 A1719 T1707 (rIx (n := 1000) h1715 rfl) fun z1720 q1721 h1722 => ?_
      refine mr_istore (pc := 19) (lv' := [(6, iv z1720), (0, .ref 76), (2, iv p2), (3, iv p3), (4, iv z1702), (5, iv z1701)]) dX3_readPrefixes_19 (by decide) rfl ?_
      refine mr_iload (pc := 21) (z := z1720) dX3_readPrefixes_21 rfl ?_
      refine mr_bipush (pc := 23) (z := 7) dX3_readPrefixes_23 (by decide) ?_
      refine mr_iadd (pc := 25) (x := z1720) (y := 7) dX3_readPrefixes_25 ?_
      refine mr_bipush (pc := 26) (z := 8) dX3_readPrefixes_26 (by decide) ?_
      refine mr_idiv (pc := 28) (x := (z1720 + 7)) (y := 8) dX3_readPrefixes_28 (rW (c := 0) (d := 2147483647) (rAdd (e := 7) (f := 262) h1722 (rR (x := 7)) rfl) rfl) vc_X12_prefixOut_4 ?_
      refine mr_gen (P := fun z => 0 ≤ z ∧ z ≤ 32) (rDiv (rAdd (e := 7) (f := 262) h1722 (rR (x := 7)) rfl) rfl) fun z1723 q1724 h1725 => ?_
      refine mr_istore (pc := 29) (lv' := [(7, iv z1723), (6, iv z1720), (0, .ref 76), (2, iv p2), (3, iv p3), (4, iv z1702), (5, iv z1701)]) dX3_readPrefixes_29 (by decide) rfl ?_
      refine mr_iload (pc := 31) (z := z1720) dX3_readPrefixes_31 rfl ?_
      refine mr_bipush (pc := 33) (z := 32) dX3_readPrefixes_33 (by decide) ?_
      refine mr_icmp_gt (pc := 35) (tgt := 59) dX3_readPrefixes_35 (by decide) (r32 h1722 rfl) (r32 (rR (x := 32)) rfl) (fun h1726 => ?_) (fun h1726 => ?_)
      · have h1727 : 33 ≤ z1720 ∧ z1720 ≤ 255 := (vc_X12_partOf_7 h1726 q1724 h1722 h1725)
        refine sv_aload_n (pc := 59) dX3_readPrefixes_59 rfl rfl ?_
        refine mr_iconst (pc := 60) (z := 1) dX3_readPrefixes_60 ?_
        refine mr_iload (pc := 61) (z := z1702) dX3_readPrefixes_61 rfl ?_
        refine mr_cVV (pc := 63) (c_X3_note hw T1707 (rW (c := 0) (d := 3) (rR (x := 1)) rfl) (rW (c := (-2147483648)) (d := 2147483647) h1715 rfl)) (gOk _ _ _ _ _) dX3_readPrefixes_63 (tX3_note _ _ _ _ _) ⟨wV_X3_note, wL_X3_note⟩ wM_X3_92 (gCX3 _ _ _ _ _) rfl (A_76 hw) rfl ⟨le_t rfl, le_t rfl⟩ ⟨le_t rfl, le_t rfl⟩ rfl (le_t rfl) fun μ1728 T1729 F1730 h1731 => ?_
        refine mr_iload (pc := 66) (z := z1701) dX3_readPrefixes_66 rfl ?_
        exact mr_iret dX3_readPrefixes_68 rfl (le_t rfl) (le_t rfl) T1729 (mF.call (mF.call mF.refl F1708 rfl) F1730 rfl) ⟨h1706, (vc_X3_told_5 h1710 hp3 h1706), trivial⟩
      have h1732 : 0 ≤ z1720 ∧ z1720 ≤ 32 := (vc_X12_partOf_9 h1726 q1724 h1722 h1725)
      refine mr_iload (pc := 38) (z := z1702) dX3_readPrefixes_38 rfl ?_
      refine mr_iconst (pc := 40) (z := 1) dX3_readPrefixes_40 ?_
      refine mr_iadd (pc := 41) (x := z1702) (y := 1) dX3_readPrefixes_41 ?_
      refine mr_iload (pc := 42) (z := z1723) dX3_readPrefixes_42 rfl ?_
      refine mr_iadd (pc := 44) (x := (z1702 + 1)) (y := z1723) dX3_readPrefixes_44 ?_
      refine mr_iload_n (pc := 45) (z := p2) dX3_readPrefixes_45 rfl rfl ?_
      refine mr_icmp_gt (pc := 46) (tgt := 59) dX3_readPrefixes_46 (by decide) (r32 (rAdd (e := 1) (f := 1032) (rAdd (e := 1) (f := 1000) h1715 (rR (x := 1)) rfl) h1725 rfl) rfl) (r32 h1716 rfl) (fun h1733 => ?_) (fun h1733 => ?_)
      · refine sv_aload_n (pc := 59) dX3_readPrefixes_59 rfl rfl ?_
        refine mr_iconst (pc := 60) (z := 1) dX3_readPrefixes_60 ?_
        refine mr_iload (pc := 61) (z := z1702) dX3_readPrefixes_61 rfl ?_
        refine mr_cVV (pc := 63) (c_X3_note hw T1707 (rW (c := 0) (d := 3) (rR (x := 1)) rfl) (rW (c := (-2147483648)) (d := 2147483647) h1715 rfl)) (gOk _ _ _ _ _) dX3_readPrefixes_63 (tX3_note _ _ _ _ _) ⟨wV_X3_note, wL_X3_note⟩ wM_X3_92 (gCX3 _ _ _ _ _) rfl (A_76 hw) rfl ⟨le_t rfl, le_t rfl⟩ ⟨le_t rfl, le_t rfl⟩ rfl (le_t rfl) fun μ1734 T1735 F1736 h1737 => ?_
        refine mr_iload (pc := 66) (z := z1701) dX3_readPrefixes_66 rfl ?_
        exact mr_iret dX3_readPrefixes_68 rfl (le_t rfl) (le_t rfl) T1735 (mF.call (mF.call mF.refl F1708 rfl) F1736 rfl) ⟨h1706, (vc_X3_told_5 h1710 hp3 h1706), trivial⟩
      refine mr_iload_n (pc := 49) (z := p3) dX3_readPrefixes_49 rfl rfl ?_
      refine mr_iload (pc := 50) (z := z1701) dX3_readPrefixes_50 rfl ?_
      refine mr_iadd (pc := 52) (x := p3) (y := z1701) dX3_readPrefixes_52 ?_
      refine mr_sipush (pc := 53) (z := 1000) dX3_readPrefixes_53 (by decide) ?_
      refine mr_icmp_lt (pc := 56) (tgt := 69) dX3_readPrefixes_56 (by decide) (r32 (rAdd (e := 0) (f := 2000) hp3 h1706 rfl) rfl) (r32 (rR (x := 1000)) rfl) (fun h1738 => ?_) (fun h1738 => ?_)
      · have h1739 : 0 ≤ p3 ∧ p3 ≤ 999 := (vc_X3_readPrefixes_8 h1738 h1710 hp3 h1706)
        have h1740 : 0 ≤ z1701 ∧ z1701 ≤ 999 := (vc_X3_readPrefixes_9 h1738 h1710 h1739 h1706)
        refine mr_iconst (pc := 69) (z := 0) dX3_readPrefixes_69 ?_
        refine mr_istore (pc := 70) (lv' := [(8, iv 0), (7, iv z1723), (6, iv z1720), (0, .ref 76), (2, iv p2), (3, iv p3), (4, iv z1702), (5, iv z1701)]) dX3_readPrefixes_70 (by decide) rfl ?_
        refine mr_iconst (pc := 72) (z := 0) dX3_readPrefixes_72 ?_
        refine mr_istore (pc := 73) (lv' := [(9, iv 0), (8, iv 0), (7, iv z1723), (6, iv z1720), (0, .ref 76), (2, iv p2), (3, iv p3), (4, iv z1702), (5, iv z1701)]) dX3_readPrefixes_73 (by decide) rfl ?_
        have L2175 : ∀ (nL2175 : Nat) (z2174 z2173 : Int), True → ((-2147483648) ≤ z2174 ∧ z2174 ≤ 2147483647) → (0 ≤ z2173 ∧ z2173 ≤ 32) → (33 - z2173) < (nL2175 : Int) → sV (gG l D c H0 sa) mX3_readPrefixes (sRm 2 0 0) (sZ (gG l D c H0 sa) 0 0 (qI w [80999, 84999, 85999] μ (fun z μ1 => (0 ≤ z ∧ z ≤ 1000) ∧ (z + p3 ≤ 1000) ∧ True))) 75 [(0, .ref 76), (2, iv p2), (3, iv p3), (4, iv z1702), (5, iv z1701), (6, iv z1720), (7, iv z1723), (8, iv z2174), (9, iv z2173)] [] (mk w μ1703) 0 0 := by
          intro nL2175
          induction nL2175 with
          | zero => intro z2174 z2173 _ h2176 h2177 h2181; exact ((vc_X3_readPrefixes_10 h2181 h2177)).elim
          | succ nL2175 ih2182 =>
            intro z2174 z2173 _ h2176 h2177 h2181
            refine mr_iload (pc := 75) (z := z2173) dX3_readPrefixes_75 rfl ?_
            refine mr_iload (pc := 77) (z := z1723) dX3_readPrefixes_77 rfl ?_
            refine mr_icmp_ge (pc := 79) (tgt := 114) dX3_readPrefixes_79 (by decide) (r32 h2177 rfl) (r32 h1725 rfl) (fun h2194 => ?_) (fun h2194 => ?_)
            · refine sv_aload_n (pc := 114) dX3_readPrefixes_114 rfl rfl ?_
              refine gf_X3_10 (pc := 115) dX3_readPrefixes_115 wF_X3_32 (A_76 hw) T1707 ?_
              refine mr_iload_n (pc := 118) (z := p3) dX3_readPrefixes_118 rfl rfl ?_
              refine mr_iload (pc := 119) (z := z1701) dX3_readPrefixes_119 rfl ?_
              refine mr_iadd (pc := 121) (x := p3) (y := z1701) dX3_readPrefixes_121 ?_
              refine mr_iload (pc := 122) (z := z2174) dX3_readPrefixes_122 rfl ?_
              refine mr_iload (pc := 124) (z := z1720) dX3_readPrefixes_124 rfl ?_
              refine mr_cSP (pc := 126) (c_X10_maskOf hw T1707 (rW (c := (-2147483648)) (d := 2147483647) h1732 rfl)) (gOk _ _ _ _ _) dX3_readPrefixes_126 (tX10_maskOf _ _ _ _ _) wS_X10_maskOf wM_X3_102 ⟨le_t rfl, le_t rfl⟩ ⟨le_t rfl, le_t rfl⟩ rfl (le_t rfl) fun z2199 h2198 => ?_
              refine mr_iand (pc := 129) (x := z2174) (y := z2199) dX3_readPrefixes_129 ?_
              refine mr_gen (P := fun z => (-2147483648) ≤ z ∧ z ≤ 2147483647) (r32i _) fun z2200 q2201 h2202 => ?_
              refine ss_84 (pc := 130) dX3_readPrefixes_130 (A_84 hw) T1707 (vc_X3_readPrefixes_11 h1710 h1738 h1739 h1740) h2202 fun μ2203 u2204 T2205 => ?_
              refine sv_aload_n (pc := 131) dX3_readPrefixes_131 rfl rfl ?_
              refine gf_X3_11 (pc := 132) dX3_readPrefixes_132 wF_X3_35 (A_76 hw) T2205 ?_
              refine mr_iload_n (pc := 135) (z := p3) dX3_readPrefixes_135 rfl rfl ?_
              refine mr_iload (pc := 136) (z := z1701) dX3_readPrefixes_136 rfl ?_
              refine mr_iadd (pc := 138) (x := p3) (y := z1701) dX3_readPrefixes_138 ?_
              refine mr_iload (pc := 139) (z := z1720) dX3_readPrefixes_139 rfl ?_
              refine ss_85 (pc := 141) dX3_readPrefixes_141 (A_85 hw) T2205 (vc_X3_readPrefixes_11 h1710 h1738 h1739 h1740) (rW (c := (-2147483648)) (d := 2147483647) h1732 rfl) fun μ2206 u2207 T2208 => ?_
              refine mr_iinc (pc := 142) (lv' := [(5, iv (z1701 + 1)), (0, .ref 76), (2, iv p2), (3, iv p3), (4, iv z1702), (6, iv z1720), (7, iv z1723), (8, iv z2174), (9, iv z2173)]) dX3_readPrefixes_142 rfl (by decide) rfl ?_
              refine mr_iload (pc := 145) (z := z1702) dX3_readPrefixes_145 rfl ?_
              refine mr_iconst (pc := 147) (z := 1) dX3_readPrefixes_147 ?_
              refine mr_iload (pc := 148) (z := z1723) dX3_readPrefixes_148 rfl ?_
              refine mr_iadd (pc := 150) (x := 1) (y := z1723) dX3_readPrefixes_150 ?_
              refine mr_iadd (pc := 151) (x := z1702) (y := (1 + z1723)) dX3_readPrefixes_151 ?_
              refine mr_istore (pc := 152) (lv' := [(4, iv (z1702 + (1 + z1723))), (5, iv (z1701 + 1)), (0, .ref 76), (2, iv p2), (3, iv p3), (6, iv z1720), (7, iv z1723), (8, iv z2174), (9, iv z2173)]) dX3_readPrefixes_152 (by decide) rfl ?_
              refine sv_goto (pc := 154) (tgt := 6) dX3_readPrefixes_154 (by decide) ?_
              refine mr_lvS (lv' := [(0, .ref 76), (2, iv p2), (3, iv p3), (4, iv (z1702 + (1 + z1723))), (5, iv (z1701 + 1))]) (List.forall_mem_cons.mpr ⟨rfl, List.forall_mem_cons.mpr ⟨rfl, List.forall_mem_cons.mpr ⟨rfl, List.forall_mem_cons.mpr ⟨rfl, List.forall_mem_cons.mpr ⟨rfl, fun _ h => absurd h List.not_mem_nil⟩⟩⟩⟩⟩) ?_
              exact ih1713 (z1702 + (1 + z1723)) (z1701 + 1) μ2206 T2208 (mF.up (mF.up (mF.call mF.refl F1708 rfl) (A_84 hw) u2204 rfl) (A_85 hw) u2207 rfl) (vc_X3_readPrefixes_12 h1714 q1724 h1733 h2194 h1726 h1716 h1715 h1732 h1725 h2177) (rW (c := 0) (d := 1000) (rAdd (e := 1) (f := 1000) h1740 (rR (x := 1)) rfl) rfl) (vc_X3_readPrefixes_13 h1710 h1738 h1739 h1740) (OC.keep I1711 hw ((mF.up (mF.up mF.refl (A_84 hw) u2204 rfl) (A_85 hw) u2207 rfl) : mF [84999, 85999] w μ1703 μ2206) rfl) (vc_X3_readPrefixes_14 (nS h1712) h1714 q1724 h1733 h2194 h1726 h1716 h1715 h1732 h1725 h2177)
            have h2209 : 0 ≤ z2173 ∧ z2173 ≤ 31 := (vc_X3_readPrefixes_15 h2194 q1724 h1733 h1716 h1715 h1732 h1725 h2177)
            have h2210 : 1 ≤ z1723 ∧ z1723 ≤ 32 := (vc_X3_readPrefixes_16 h2194 q1724 h1733 h1716 h1715 h1732 h1725 h2209)
            refine mr_iload (pc := 82) (z := z2174) dX3_readPrefixes_82 rfl ?_
            refine sv_aload_n (pc := 84) dX3_readPrefixes_84 rfl rfl ?_
            refine gk_X3_4 (pc := 85) dX3_readPrefixes_85 wF_X3_41 (A_76 hw) q1718 ?_
            refine mr_iload (pc := 88) (z := z1702) dX3_readPrefixes_88 rfl ?_
            refine mr_iconst (pc := 90) (z := 1) dX3_readPrefixes_90 ?_
            refine mr_iadd (pc := 91) (x := z1702) (y := 1) dX3_readPrefixes_91 ?_
            refine mr_iload (pc := 92) (z := z2173) dX3_readPrefixes_92 rfl ?_
            refine mr_iadd (pc := 94) (x := (z1702 + 1)) (y := z2173) dX3_readPrefixes_94 ?_
            refine la_1 (pc := 95) dX3_readPrefixes_95 A1719 T1707 (vc_X3_readPrefixes_17 h1714 h1733 h2194 q1724 h1716 h1715 h1732 h2210 h2209) fun z2211 q2212 h2213 => ?_
            refine mr_bipush (pc := 96) (z := 24) dX3_readPrefixes_96 (by decide) ?_
            refine mr_bipush (pc := 98) (z := 8) dX3_readPrefixes_98 (by decide) ?_
            refine mr_iload (pc := 100) (z := z2173) dX3_readPrefixes_100 rfl ?_
            refine mr_imul (pc := 102) (x := 8) (y := z2173) dX3_readPrefixes_102 ?_
            refine mr_isub (pc := 103) (x := 24) (y := (8 * z2173)) dX3_readPrefixes_103 ?_
            refine mr_ishl (pc := 104) (x := z2211) (y := (24 - (8 * z2173))) dX3_readPrefixes_104 ?_
            refine mr_gen (P := fun z => (-2147483648) ≤ z ∧ z ≤ 2147483647) (r32i _) fun z2214 q2215 h2216 => ?_
            refine mr_ior (pc := 105) (x := z2174) (y := z2214) dX3_readPrefixes_105 ?_
            refine mr_gen (P := fun z => (-2147483648) ≤ z ∧ z ≤ 2147483647) (r32i _) fun z2217 q2218 h2219 => ?_
            refine mr_istore (pc := 106) (lv' := [(8, iv z2217), (0, .ref 76), (2, iv p2), (3, iv p3), (4, iv z1702), (5, iv z1701), (6, iv z1720), (7, iv z1723), (9, iv z2173)]) dX3_readPrefixes_106 (by decide) rfl ?_
            refine mr_iinc (pc := 108) (lv' := [(9, iv (z2173 + 1)), (8, iv z2217), (0, .ref 76), (2, iv p2), (3, iv p3), (4, iv z1702), (5, iv z1701), (6, iv z1720), (7, iv z1723)]) dX3_readPrefixes_108 rfl (by decide) rfl ?_
            refine sv_goto (pc := 111) (tgt := 75) dX3_readPrefixes_111 (by decide) ?_
            refine mr_lvS (lv' := [(0, .ref 76), (2, iv p2), (3, iv p3), (4, iv z1702), (5, iv z1701), (6, iv z1720), (7, iv z1723), (8, iv z2217), (9, iv (z2173 + 1))]) (List.forall_mem_cons.mpr ⟨rfl, List.forall_mem_cons.mpr ⟨rfl, List.forall_mem_cons.mpr ⟨rfl, List.forall_mem_cons.mpr ⟨rfl, List.forall_mem_cons.mpr ⟨rfl, List.forall_mem_cons.mpr ⟨rfl, List.forall_mem_cons.mpr ⟨rfl, List.forall_mem_cons.mpr ⟨rfl, List.forall_mem_cons.mpr ⟨rfl, fun _ h => absurd h List.not_mem_nil⟩⟩⟩⟩⟩⟩⟩⟩⟩) ?_
            exact ih2182 z2217 (z2173 + 1) trivial h2219 (rW (c := 0) (d := 32) (rAdd (e := 1) (f := 32) h2209 (rR (x := 1)) rfl) rfl) (vc_X3_readPrefixes_18 (nS h2181) h2194 q1724 h1733 h1716 h1715 h1732 h2210 h2209)
        refine mr_lvS (lv' := [(0, .ref 76), (2, iv p2), (3, iv p3), (4, iv z1702), (5, iv z1701), (6, iv z1720), (7, iv z1723), (8, iv 0), (9, iv 0)]) (List.forall_mem_cons.mpr ⟨rfl, List.forall_mem_cons.mpr ⟨rfl, List.forall_mem_cons.mpr ⟨rfl, List.forall_mem_cons.mpr ⟨rfl, List.forall_mem_cons.mpr ⟨rfl, List.forall_mem_cons.mpr ⟨rfl, List.forall_mem_cons.mpr ⟨rfl, List.forall_mem_cons.mpr ⟨rfl, List.forall_mem_cons.mpr ⟨rfl, fun _ h => absurd h List.not_mem_nil⟩⟩⟩⟩⟩⟩⟩⟩⟩) ?_
        exact L2175 34 0 0 trivial (rW (c := (-2147483648)) (d := 2147483647) (rR (x := 0)) rfl) (rW (c := 0) (d := 32) (rR (x := 0)) rfl) vc_X3_readPrefixes_19
      refine sv_aload_n (pc := 59) dX3_readPrefixes_59 rfl rfl ?_
      refine mr_iconst (pc := 60) (z := 1) dX3_readPrefixes_60 ?_
      refine mr_iload (pc := 61) (z := z1702) dX3_readPrefixes_61 rfl ?_
      refine mr_cVV (pc := 63) (c_X3_note hw T1707 (rW (c := 0) (d := 3) (rR (x := 1)) rfl) (rW (c := (-2147483648)) (d := 2147483647) h1715 rfl)) (gOk _ _ _ _ _) dX3_readPrefixes_63 (tX3_note _ _ _ _ _) ⟨wV_X3_note, wL_X3_note⟩ wM_X3_92 (gCX3 _ _ _ _ _) rfl (A_76 hw) rfl ⟨le_t rfl, le_t rfl⟩ ⟨le_t rfl, le_t rfl⟩ rfl (le_t rfl) fun μ2220 T2221 F2222 h2223 => ?_
      refine mr_iload (pc := 66) (z := z1701) dX3_readPrefixes_66 rfl ?_
      exact mr_iret dX3_readPrefixes_68 rfl (le_t rfl) (le_t rfl) T2221 (mF.call (mF.call mF.refl F1708 rfl) F2222 rfl) ⟨h1706, (vc_X3_readPrefixes_20 h1710 h1738 hp3 h1706), trivial⟩
  refine mr_lvS (lv' := [(0, .ref 76), (2, iv p2), (3, iv p3), (4, iv p1), (5, iv 0)]) (List.forall_mem_cons.mpr ⟨rfl, List.forall_mem_cons.mpr ⟨rfl, List.forall_mem_cons.mpr ⟨rfl, List.forall_mem_cons.mpr ⟨rfl, List.forall_mem_cons.mpr ⟨rfl, fun _ h => absurd h List.not_mem_nil⟩⟩⟩⟩⟩) ?_
  exact L1704 1002 p1 0 μ hT mF.refl hp1 (rW (c := 0) (d := 1000) (rR (x := 0)) rfl) (vc_X3_readPrefixes_21 hp3) hIOC (vc_X3_readPrefixes_22 hp1)
theorem vc_X3_readOrigin_1 {p1 p2 : Int} (h0 : p2 = 1) (h1 : p1 + p2 ≤ 1000) (h2 : 0 ≤ p1 ∧ p1 ≤ 1000) (h3 : (-2147483648) ≤ p2 ∧ p2 ≤ 2147483647) : 1 ≤ p2 ∧ p2 ≤ 1 := by omega
theorem vc_X3_readOrigin_2 {p1 p2 : Int} (h0 : p1 + p2 ≤ 1000) (h1 : p2 = 1) (h2 : 0 ≤ p1 ∧ p1 ≤ 1000) (h3 : 1 ≤ p2 ∧ p2 ≤ 1) : 0 ≤ p1 ∧ p1 < 1000 := by omega
theorem vc_X3_readOrigin_3 {z6 : Int} (h0 : z6 ≤ 2) (h1 : 0 ≤ z6 ∧ z6 ≤ 255) : 0 ≤ z6 ∧ z6 ≤ 2 := by omega
theorem vc_X3_readOrigin_4 {z6 : Int} (h0 : 2 < z6) (h1 : 0 ≤ z6 ∧ z6 ≤ 255) : 3 ≤ z6 ∧ z6 ≤ 255 := by omega
set_option maxRecDepth 4000 in
set_option maxHeartbeats 4000000 in
theorem c_X3_readOrigin {l : Launch} {D : va_G} {c : Nat → ClassId} {H0 : Heap} {sa : Nat × Nat × (Nat → Int32)} {w : mW} {μ : mM} (hw : mWF w) (hT : mT w μ) {p1 : Int} (hp1 : 0 ≤ p1 ∧ p1 ≤ 1000) {p2 : Int} (hp2 : (-2147483648) ≤ p2 ∧ p2 ≤ 2147483647) (hq0 : p1 + p2 ≤ 1000) (hIOC : OC μ) : sC (gG l D c H0 sa) mX3_readOrigin 1 0 0 [.ref 76, iv p1, iv p2] (mk w μ) (qI w [200005] μ (fun z μ1 => (0 ≤ z ∧ z ≤ 1) ∧ True)) := by
  refine sC.of rfl (by decide) (le_t rfl) ?_
  refine mr_lvE (lv' := [(0, .ref 76), (1, iv p1), (2, iv p2)]) rfl ?_
  refine mr_iload_n (pc := 0) (z := p2) dX3_readOrigin_0 rfl rfl ?_
  refine mr_iconst (pc := 1) (z := 1) dX3_readOrigin_1 ?_
  refine mr_icmp_ne (pc := 2) (tgt := 15) dX3_readOrigin_2 (by decide) hp2 (r32 (rR (x := 1)) rfl) (fun h1 => ?_) (fun h1 => ?_)
  · refine mr_iconst (pc := 15) (z := 0) dX3_readOrigin_15 ?_
    exact mr_zret dX3_readOrigin_16 rfl (rW (c := 0) (d := 1) (rR (x := 0)) rfl) (le_t rfl) (le_t rfl) hT mF.refl ⟨(rW (c := 0) (d := 1) (rR (x := 0)) rfl), trivial⟩
  have h2 : 1 ≤ p2 ∧ p2 ≤ 1 := (vc_X3_readOrigin_1 h1 hq0 hp1 hp2)
  refine sv_aload_n (pc := 5) dX3_readOrigin_5 rfl rfl ?_
  refine gf_X3_4 (pc := 6) dX3_readOrigin_6 wF_X3_41 (A_76 hw) hT hIOC fun b3 q4 A5 => ?_
  refine mr_iload_n (pc := 9) (z := p1) dX3_readOrigin_9 rfl rfl ?_
  refine la_1 (pc := 10) dX3_readOrigin_10 A5 hT (vc_X3_readOrigin_2 hq0 h1 hp1 h2) fun z6 q7 h8 => ?_
  refine mr_iconst (pc := 11) (z := 2) dX3_readOrigin_11 ?_
  refine mr_icmp_le (pc := 12) (tgt := 17) dX3_readOrigin_12 (by decide) (r32 h8 rfl) (r32 (rR (x := 2)) rfl) (fun h9 => ?_) (fun h9 => ?_)
  · have h10 : 0 ≤ z6 ∧ z6 ≤ 2 := (vc_X3_readOrigin_3 h9 h8)
    refine sv_aload_n (pc := 17) dX3_readOrigin_17 rfl rfl ?_
    refine gf_X3_9 (pc := 18) dX3_readOrigin_18 wF_X3_28 (A_76 hw) hT ?_
    refine sv_aload_n (pc := 21) dX3_readOrigin_21 rfl rfl ?_
    refine gk_X3_4 (pc := 22) dX3_readOrigin_22 wF_X3_41 (A_76 hw) q4 ?_
    refine mr_iload_n (pc := 25) (z := p1) dX3_readOrigin_25 rfl rfl ?_
    refine lk_1 (pc := 26) dX3_readOrigin_26 A5 (vc_X3_readOrigin_2 hq0 h1 hp1 h2) q7 ?_
    refine pf_X7_5 (pc := 27) dX3_readOrigin_27 wF_X3_127 (A_81 hw) hT (rW (c := (-2147483648)) (d := 2147483647) h10 rfl) fun μ11 u12 T13 => ?_
    refine mr_iconst (pc := 30) (z := 1) dX3_readOrigin_30 ?_
    exact mr_zret dX3_readOrigin_31 rfl (rW (c := 0) (d := 1) (rR (x := 1)) rfl) (le_t rfl) (le_t rfl) T13 (mF.up mF.refl (A_81 hw) u12 rfl) ⟨(rW (c := 0) (d := 1) (rR (x := 1)) rfl), trivial⟩
  have h14 : 3 ≤ z6 ∧ z6 ≤ 255 := (vc_X3_readOrigin_4 h9 h8)
  refine mr_iconst (pc := 15) (z := 0) dX3_readOrigin_15 ?_
  exact mr_zret dX3_readOrigin_16 rfl (rW (c := 0) (d := 1) (rR (x := 0)) rfl) (le_t rfl) (le_t rfl) hT mF.refl ⟨(rW (c := 0) (d := 1) (rR (x := 0)) rfl), trivial⟩
theorem vc_X3_readCost_1 {p1 p2 : Int} (h0 : p2 = 4) (h1 : p1 + p2 ≤ 1000) (h2 : 0 ≤ p1 ∧ p1 ≤ 1000) (h3 : (-2147483648) ≤ p2 ∧ p2 ≤ 2147483647) : 4 ≤ p2 ∧ p2 ≤ 4 := by omega
theorem vc_X3_readCost_2 {p1 p2 : Int} (h0 : p1 + p2 ≤ 1000) (h1 : p2 = 4) (h2 : 0 ≤ p1 ∧ p1 ≤ 1000) (h3 : 4 ≤ p2 ∧ p2 ≤ 4) : 0 ≤ p1 ∧ p1 ≤ 996 := by omega
set_option maxRecDepth 4000 in
set_option maxHeartbeats 4000000 in
theorem c_X3_readCost {l : Launch} {D : va_G} {c : Nat → ClassId} {H0 : Heap} {sa : Nat × Nat × (Nat → Int32)} {w : mW} {μ : mM} (hw : mWF w) (hT : mT w μ) {p1 : Int} (hp1 : 0 ≤ p1 ∧ p1 ≤ 1000) {p2 : Int} (hp2 : (-2147483648) ≤ p2 ∧ p2 ≤ 2147483647) (hq0 : p1 + p2 ≤ 1000) (hIOC : OC μ) : sC (gG l D c H0 sa) mX3_readCost 3 0 0 [.ref 76, iv p1, iv p2] (mk w μ) (qI w [200006] μ (fun z μ1 => (0 ≤ z ∧ z ≤ 1) ∧ True)) := by
  refine sC.of rfl (by decide) (le_t rfl) ?_
  refine mr_lvE (lv' := [(0, .ref 76), (1, iv p1), (2, iv p2)]) rfl ?_
  refine mr_iload_n (pc := 0) (z := p2) dX3_readCost_0 rfl rfl ?_
  refine mr_iconst (pc := 1) (z := 4) dX3_readCost_1 ?_
  refine mr_icmp_eq (pc := 2) (tgt := 7) dX3_readCost_2 (by decide) hp2 (r32 (rR (x := 4)) rfl) (fun h1 => ?_) (fun h1 => ?_)
  · have h2 : 4 ≤ p2 ∧ p2 ≤ 4 := (vc_X3_readCost_1 h1 hq0 hp1 hp2)
    refine sv_aload_n (pc := 7) dX3_readCost_7 rfl rfl ?_
    refine mr_iload_n (pc := 8) (z := p1) dX3_readCost_8 rfl rfl ?_
    refine mr_cVP (pc := 9) (c_X3_fourAt hw hT (vc_X3_readCost_2 hq0 h1 hp1 h2) hIOC) (gOk _ _ _ _ _) dX3_readCost_9 (tX3_fourAt _ _ _ _ _) ⟨wV_X3_fourAt, wL_X3_fourAt⟩ wM_X3_130 (gCX3 _ _ _ _ _) rfl (A_76 hw) rfl ⟨le_t rfl, le_t rfl⟩ ⟨le_t rfl, le_t rfl⟩ rfl (le_t rfl) fun z7 h6 => ?_
    refine mr_istore_n (pc := 12) (lv' := [(3, iv z7), (0, .ref 76), (1, iv p1), (2, iv p2)]) dX3_readCost_12 rfl (by decide) rfl ?_
    refine sv_aload_n (pc := 13) dX3_readCost_13 rfl rfl ?_
    refine gf_X3_9 (pc := 14) dX3_readCost_14 wF_X3_28 (A_76 hw) hT ?_
    refine mr_iload_n (pc := 17) (z := z7) dX3_readCost_17 rfl rfl ?_
    refine mr_if_lt (pc := 18) (tgt := 27) dX3_readCost_18 (by decide) h6.1 (fun h12 => ?_) (fun h12 => ?_)
    · have h13 : (-2147483648) ≤ z7 ∧ z7 ≤ (-1) := (vc_X12_ring_60 h12 h6.1)
      refine mr_ldc (pc := 27) (z := 1000000) dX3_readCost_27 wG_X3_133 (by decide) ?_
      refine sv_goto (pc := 29) (tgt := 33) dX3_readCost_29 (by decide) ?_
      refine pf_X7_6 (pc := 33) dX3_readCost_33 wF_X3_134 (A_81 hw) hT (rW (c := (-2147483648)) (d := 2147483647) (rR (x := 1000000)) rfl) fun μ14 u15 T16 => ?_
      refine mr_iconst (pc := 36) (z := 1) dX3_readCost_36 ?_
      exact mr_zret dX3_readCost_37 rfl (rW (c := 0) (d := 1) (rR (x := 1)) rfl) (le_t rfl) (le_t rfl) T16 (mF.up mF.refl (A_81 hw) u15 rfl) ⟨(rW (c := 0) (d := 1) (rR (x := 1)) rfl), trivial⟩
    have h17 : 0 ≤ z7 ∧ z7 ≤ 2147483647 := (vc_X12_ring_1 h12 h6.1)
    refine mr_iload_n (pc := 21) (z := z7) dX3_readCost_21 rfl rfl ?_
    refine mr_ldc (pc := 22) (z := 1000000) dX3_readCost_22 wG_X3_133 (by decide) ?_
    refine mr_icmp_le (pc := 24) (tgt := 32) dX3_readCost_24 (by decide) (r32 h17 rfl) (r32 (rR (x := 1000000)) rfl) (fun h20 => ?_) (fun h20 => ?_)
    · have h21 : 0 ≤ z7 ∧ z7 ≤ 1000000 := (vc_X11_route_16 h20 h12 h17)
      refine mr_iload_n (pc := 32) (z := z7) dX3_readCost_32 rfl rfl ?_
      refine pf_X7_6 (pc := 33) dX3_readCost_33 wF_X3_134 (A_81 hw) hT (rW (c := (-2147483648)) (d := 2147483647) h21 rfl) fun μ22 u23 T24 => ?_
      refine mr_iconst (pc := 36) (z := 1) dX3_readCost_36 ?_
      exact mr_zret dX3_readCost_37 rfl (rW (c := 0) (d := 1) (rR (x := 1)) rfl) (le_t rfl) (le_t rfl) T24 (mF.up mF.refl (A_81 hw) u23 rfl) ⟨(rW (c := 0) (d := 1) (rR (x := 1)) rfl), trivial⟩
    have h25 : 1000001 ≤ z7 ∧ z7 ≤ 2147483647 := (vc_X11_route_20 h20 h12 h17)
    refine mr_ldc (pc := 27) (z := 1000000) dX3_readCost_27 wG_X3_133 (by decide) ?_
    refine sv_goto (pc := 29) (tgt := 33) dX3_readCost_29 (by decide) ?_
    refine pf_X7_6 (pc := 33) dX3_readCost_33 wF_X3_134 (A_81 hw) hT (rW (c := (-2147483648)) (d := 2147483647) (rR (x := 1000000)) rfl) fun μ26 u27 T28 => ?_
    refine mr_iconst (pc := 36) (z := 1) dX3_readCost_36 ?_
    exact mr_zret dX3_readCost_37 rfl (rW (c := 0) (d := 1) (rR (x := 1)) rfl) (le_t rfl) (le_t rfl) T28 (mF.up mF.refl (A_81 hw) u27 rfl) ⟨(rW (c := 0) (d := 1) (rR (x := 1)) rfl), trivial⟩
  refine mr_iconst (pc := 5) (z := 0) dX3_readCost_5 ?_
  exact mr_zret dX3_readCost_6 rfl (rW (c := 0) (d := 1) (rR (x := 0)) rfl) (le_t rfl) (le_t rfl) hT mF.refl ⟨(rW (c := 0) (d := 1) (rR (x := 0)) rfl), trivial⟩
theorem vc_X3_readMarks_1  : (0 : Int) < (4 : Int) ∧ (4 : Int) ≤ (2147483647 : Int) := by omega
theorem vc_X3_readMarks_2 {p2 z1 : Int} (h0 : z1 = 0) (h1 : p2 % 4 = z1) (h2 : 0 ≤ p2 ∧ p2 ≤ 1000) (h3 : 0 ≤ z1 ∧ z1 ≤ 3) : 0 ≤ z1 ∧ z1 ≤ 0 := by omega
theorem vc_X3_readMarks_3 {p1 p2 z32 : Int} (h0 : (1001 - z32) < ((0 : Nat) : Int)) (h1 : (z32 - p1) % 4 = 0) (h2 : p1 ≤ z32) (h3 : p1 + p2 ≤ 1000) (h4 : 0 ≤ p1 ∧ p1 ≤ 1000) (h5 : 0 ≤ p2 ∧ p2 ≤ 1000) (h6 : 0 ≤ z32 ∧ z32 ≤ 1000) : False := by omega
theorem vc_X3_readMarks_4 {p1 p2 z1 z32 : Int} (h0 : (z32 - p1) % 4 = 0) (h1 : p1 ≤ z32) (h2 : z32 < (p1 + p2)) (h3 : p1 + p2 ≤ 1000) (h4 : p2 % 4 = z1) (h5 : 0 ≤ p1 ∧ p1 ≤ 1000) (h6 : 0 ≤ p2 ∧ p2 ≤ 1000) (h7 : 0 ≤ z1 ∧ z1 ≤ 0) (h8 : 0 ≤ z32 ∧ z32 ≤ 1000) : 0 ≤ (z32 + 2) ∧ (z32 + 2) ≤ 998 := by omega
theorem vc_X3_readMarks_5 {p1 p2 z1 z32 : Int} (h0 : (z32 - p1) % 4 = 0) (h1 : p1 ≤ z32) (h2 : z32 < (p1 + p2)) (h3 : p1 + p2 ≤ 1000) (h4 : p2 % 4 = z1) (h5 : 0 ≤ p1 ∧ p1 ≤ 1000) (h6 : 0 ≤ p2 ∧ p2 ≤ 1000) (h7 : 0 ≤ z1 ∧ z1 ≤ 0) (h8 : 0 ≤ z32 ∧ z32 ≤ 1000) : 0 ≤ (z32 + 4) ∧ (z32 + 4) ≤ 1000 := by omega
theorem vc_X3_readMarks_6 {p1 p2 z1 z32 : Int} (h0 : p1 + p2 ≤ 1000) (h1 : (z32 - p1) % 4 = 0) (h2 : p1 ≤ z32) (h3 : z32 < (p1 + p2)) (h4 : p2 % 4 = z1) (h5 : 0 ≤ p1 ∧ p1 ≤ 1000) (h6 : 0 ≤ p2 ∧ p2 ≤ 1000) (h7 : 0 ≤ z1 ∧ z1 ≤ 0) (h8 : 0 ≤ z32 ∧ z32 ≤ 1000) : ((z32 + 4) - p1) % 4 = 0 := by omega
theorem vc_X3_readMarks_7 {p1 p2 z1 z32 : Int} (h0 : p1 + p2 ≤ 1000) (h1 : (z32 - p1) % 4 = 0) (h2 : p1 ≤ z32) (h3 : z32 < (p1 + p2)) (h4 : p2 % 4 = z1) (h5 : 0 ≤ p1 ∧ p1 ≤ 1000) (h6 : 0 ≤ p2 ∧ p2 ≤ 1000) (h7 : 0 ≤ z1 ∧ z1 ≤ 0) (h8 : 0 ≤ z32 ∧ z32 ≤ 1000) : p1 ≤ (z32 + 4) := by omega
theorem vc_X3_readMarks_8 {N p1 p2 z1 z32 : Int} (h0 : (1001 - z32) < N + 1) (h1 : (z32 - p1) % 4 = 0) (h2 : p1 ≤ z32) (h3 : z32 < (p1 + p2)) (h4 : p1 + p2 ≤ 1000) (h5 : p2 % 4 = z1) (h6 : 0 ≤ p1 ∧ p1 ≤ 1000) (h7 : 0 ≤ p2 ∧ p2 ≤ 1000) (h8 : 0 ≤ z1 ∧ z1 ≤ 0) (h9 : 0 ≤ z32 ∧ z32 ≤ 1000) : (1001 - (z32 + 4)) < N := by omega
theorem vc_X3_readMarks_9 {p1 p2 z1 : Int} (h0 : p1 + p2 ≤ 1000) (h1 : p2 % 4 = z1) (h2 : 0 ≤ p1 ∧ p1 ≤ 1000) (h3 : 0 ≤ p2 ∧ p2 ≤ 1000) (h4 : 0 ≤ z1 ∧ z1 ≤ 0) : (p1 - p1) % 4 = 0 := by omega
theorem vc_X3_readMarks_10 {p1 p2 z1 : Int} (h0 : p1 + p2 ≤ 1000) (h1 : p2 % 4 = z1) (h2 : 0 ≤ p1 ∧ p1 ≤ 1000) (h3 : 0 ≤ p2 ∧ p2 ≤ 1000) (h4 : 0 ≤ z1 ∧ z1 ≤ 0) : p1 ≤ p1 := by omega
theorem vc_X3_readMarks_11 {p1 p2 z1 : Int} (h0 : p1 + p2 ≤ 1000) (h1 : p2 % 4 = z1) (h2 : 0 ≤ p1 ∧ p1 ≤ 1000) (h3 : 0 ≤ p2 ∧ p2 ≤ 1000) (h4 : 0 ≤ z1 ∧ z1 ≤ 0) : (1001 - p1) < ((1002 : Nat) : Int) := by omega
theorem vc_X3_readMarks_12 {p2 z1 : Int} (h0 : ¬ z1 = 0) (h1 : p2 % 4 = z1) (h2 : 0 ≤ p2 ∧ p2 ≤ 1000) (h3 : 0 ≤ z1 ∧ z1 ≤ 3) : 1 ≤ z1 ∧ z1 ≤ 3 := by omega
set_option maxRecDepth 4000 in
set_option maxHeartbeats 4000000 in
theorem c_X3_readMarks {l : Launch} {D : va_G} {c : Nat → ClassId} {H0 : Heap} {sa : Nat × Nat × (Nat → Int32)} {w : mW} {μ : mM} (hw : mWF w) (hT : mT w μ) {p1 : Int} (hp1 : 0 ≤ p1 ∧ p1 ≤ 1000) {p2 : Int} (hp2 : 0 ≤ p2 ∧ p2 ≤ 1000) (hq0 : p1 + p2 ≤ 1000) (hIOC : OC μ) : sC (gG l D c H0 sa) mX3_readMarks 2 0 0 [.ref 76, iv p1, iv p2] (mk w μ) (qI w [76006, 79999] μ (fun z μ1 => (0 ≤ z ∧ z ≤ 1) ∧ True)) := by
  refine sC.of rfl (by decide) (le_t rfl) ?_
  refine mr_lvE (lv' := [(0, .ref 76), (1, iv p1), (2, iv p2)]) rfl ?_
  refine mr_iload_n (pc := 0) (z := p2) dX3_readMarks_0 rfl rfl ?_
  refine mr_iconst (pc := 1) (z := 4) dX3_readMarks_1 ?_
  refine mr_irem (pc := 2) (x := p2) (y := 4) dX3_readMarks_2 (rW (c := 0) (d := 2147483647) hp2 rfl) vc_X3_readMarks_1 ?_
  refine mr_gen (P := fun z => 0 ≤ z ∧ z ≤ 3) (rMod hp2 rfl) fun z1 q2 h3 => ?_
  refine mr_if_eq (pc := 3) (tgt := 8) dX3_readMarks_3 (by decide) (r32 h3 rfl) (fun h4 => ?_) (fun h4 => ?_)
  · have h5 : 0 ≤ z1 ∧ z1 ≤ 0 := (vc_X3_readMarks_2 h4 q2 hp2 h3)
    refine mr_iload_n (pc := 8) (z := p1) dX3_readMarks_8 rfl rfl ?_
    refine mr_istore_n (pc := 9) (lv' := [(3, iv p1), (0, .ref 76), (1, iv p1), (2, iv p2)]) dX3_readMarks_9 rfl (by decide) rfl ?_
    have L34 : ∀ (nL34 : Nat) (z32 : Int) (μ33 : mM), mT w μ33 → mF [76006, 79999] w μ μ33 → (0 ≤ z32 ∧ z32 ≤ 1000) → ((z32 - p1) % 4 = 0) → (p1 ≤ z32) → OC μ33 → (1001 - z32) < (nL34 : Int) → sV (gG l D c H0 sa) mX3_readMarks (sRm 2 0 0) (sZ (gG l D c H0 sa) 0 0 (qI w [76006, 79999] μ (fun z μ1 => (0 ≤ z ∧ z ≤ 1) ∧ True))) 10 [(0, .ref 76), (1, iv p1), (2, iv p2), (3, iv z32)] [] (mk w μ33) 0 0 := by
      intro nL34
      induction nL34 with
      | zero => intro z32 μ33 T36 F37 h35 h39 h40 I41 h42; exact ((vc_X3_readMarks_3 h42 h39 h40 hq0 hp1 hp2 h35)).elim
      | succ nL34 ih43 =>
        intro z32 μ33 T36 F37 h35 h39 h40 I41 h42
        refine mr_iload_n (pc := 10) (z := z32) dX3_readMarks_10 rfl rfl ?_
        refine mr_iload_n (pc := 11) (z := p1) dX3_readMarks_11 rfl rfl ?_
        refine mr_iload_n (pc := 12) (z := p2) dX3_readMarks_12 rfl rfl ?_
        refine mr_iadd (pc := 13) (x := p1) (y := p2) dX3_readMarks_13 ?_
        refine mr_icmp_ge (pc := 14) (tgt := 34) dX3_readMarks_14 (by decide) (r32 h35 rfl) (r32 (rAdd (e := 0) (f := 2000) hp1 hp2 rfl) rfl) (fun h53 => ?_) (fun h53 => ?_)
        · refine mr_iconst (pc := 34) (z := 1) dX3_readMarks_34 ?_
          exact mr_zret dX3_readMarks_35 rfl (rW (c := 0) (d := 1) (rR (x := 1)) rfl) (le_t rfl) (le_t rfl) T36 (mF.call mF.refl F37 rfl) ⟨(rW (c := 0) (d := 1) (rR (x := 1)) rfl), trivial⟩
        refine sv_aload_n (pc := 17) dX3_readMarks_17 rfl rfl ?_
        refine sv_aload_n (pc := 18) dX3_readMarks_18 rfl rfl ?_
        refine mr_iload_n (pc := 19) (z := z32) dX3_readMarks_19 rfl rfl ?_
        refine mr_iconst (pc := 20) (z := 2) dX3_readMarks_20 ?_
        refine mr_iadd (pc := 21) (x := z32) (y := 2) dX3_readMarks_21 ?_
        refine mr_cVP (pc := 22) (c_X3_pairAt hw T36 (vc_X3_readMarks_4 h39 h40 h53 hq0 q2 hp1 hp2 h5 h35) I41) (gOk _ _ _ _ _) dX3_readMarks_22 (tX3_pairAt _ _ _ _ _) ⟨wV_X3_pairAt, wL_X3_pairAt⟩ wM_X3_88 (gCX3 _ _ _ _ _) rfl (A_76 hw) rfl ⟨le_t rfl, le_t rfl⟩ ⟨le_t rfl, le_t rfl⟩ rfl (le_t rfl) fun z58 h57 => ?_
        refine mr_cVV (pc := 25) (c_X3_keepMark hw T36 (rW (c := (-2147483648)) (d := 2147483647) h57.1 rfl)) (gOk _ _ _ _ _) dX3_readMarks_25 (tX3_keepMark _ _ _ _ _) ⟨wV_X3_keepMark, wL_X3_keepMark⟩ wM_X3_137 (gCX3 _ _ _ _ _) rfl (A_76 hw) rfl ⟨le_t rfl, le_t rfl⟩ ⟨le_t rfl, le_t rfl⟩ rfl (le_t rfl) fun μ59 T60 F61 h62 => ?_
        refine mr_iinc (pc := 28) (lv' := [(3, iv (z32 + 4)), (0, .ref 76), (1, iv p1), (2, iv p2)]) dX3_readMarks_28 rfl (by decide) rfl ?_
        refine sv_goto (pc := 31) (tgt := 10) dX3_readMarks_31 (by decide) ?_
        refine mr_lvS (lv' := [(0, .ref 76), (1, iv p1), (2, iv p2), (3, iv (z32 + 4))]) (List.forall_mem_cons.mpr ⟨rfl, List.forall_mem_cons.mpr ⟨rfl, List.forall_mem_cons.mpr ⟨rfl, List.forall_mem_cons.mpr ⟨rfl, fun _ h => absurd h List.not_mem_nil⟩⟩⟩⟩) ?_
        exact ih43 (z32 + 4) μ59 T60 (mF.call (mF.call mF.refl F37 rfl) F61 rfl) (vc_X3_readMarks_5 h39 h40 h53 hq0 q2 hp1 hp2 h5 h35) (vc_X3_readMarks_6 hq0 h39 h40 h53 q2 hp1 hp2 h5 h35) (vc_X3_readMarks_7 hq0 h39 h40 h53 q2 hp1 hp2 h5 h35) (OC.keep I41 hw ((mF.call mF.refl F61 rfl) : mF [76006, 79999] w μ33 μ59) rfl) (vc_X3_readMarks_8 (nS h42) h39 h40 h53 hq0 q2 hp1 hp2 h5 h35)
    refine mr_lvS (lv' := [(0, .ref 76), (1, iv p1), (2, iv p2), (3, iv p1)]) (List.forall_mem_cons.mpr ⟨rfl, List.forall_mem_cons.mpr ⟨rfl, List.forall_mem_cons.mpr ⟨rfl, List.forall_mem_cons.mpr ⟨rfl, fun _ h => absurd h List.not_mem_nil⟩⟩⟩⟩) ?_
    exact L34 1002 p1 μ hT mF.refl hp1 (vc_X3_readMarks_9 hq0 q2 hp1 hp2 h5) (vc_X3_readMarks_10 hq0 q2 hp1 hp2 h5) hIOC (vc_X3_readMarks_11 hq0 q2 hp1 hp2 h5)
  have h63 : 1 ≤ z1 ∧ z1 ≤ 3 := (vc_X3_readMarks_12 h4 q2 hp2 h3)
  refine mr_iconst (pc := 6) (z := 0) dX3_readMarks_6 ?_
  exact mr_zret dX3_readMarks_7 rfl (rW (c := 0) (d := 1) (rR (x := 0)) rfl) (le_t rfl) (le_t rfl) hT mF.refl ⟨(rW (c := 0) (d := 1) (rR (x := 0)) rfl), trivial⟩
theorem vc_X3_readWay_2 {p1 p2 z221 : Int} (h0 : z221 < (p1 + p2)) (h1 : (z221 + 2) ≤ (p1 + p2)) (h2 : p1 + p2 ≤ 1000) (h3 : 0 ≤ p1 ∧ p1 ≤ 1000) (h4 : 0 ≤ p2 ∧ p2 ≤ 1000) (h5 : 0 ≤ z221 ∧ z221 ≤ 1000) : 0 ≤ z221 ∧ z221 < 1000 := by omega
theorem vc_X3_readWay_3 {p1 p2 z221 : Int} (h0 : z221 < (p1 + p2)) (h1 : (z221 + 2) ≤ (p1 + p2)) (h2 : p1 + p2 ≤ 1000) (h3 : 0 ≤ p1 ∧ p1 ≤ 1000) (h4 : 0 ≤ p2 ∧ p2 ≤ 1000) (h5 : 0 ≤ z221 ∧ z221 ≤ 1000) : 0 ≤ (z221 + 1) ∧ (z221 + 1) < 1000 := by omega
theorem vc_X3_readWay_4 {z240 : Int} (h0 : z240 < 1) (h1 : 0 ≤ z240 ∧ z240 ≤ 255) : 0 ≤ z240 ∧ z240 ≤ 0 := by omega
theorem vc_X3_readWay_5 {z240 : Int} (h0 : 1 ≤ z240) (h1 : 0 ≤ z240 ∧ z240 ≤ 255) : 1 ≤ z240 ∧ z240 ≤ 255 := by omega
theorem vc_X3_readWay_6 {z240 : Int} (h0 : 2 < z240) (h1 : 1 ≤ z240) (h2 : 1 ≤ z240 ∧ z240 ≤ 255) : 3 ≤ z240 ∧ z240 ≤ 255 := by omega
theorem vc_X3_readWay_7 {z240 : Int} (h0 : z240 ≤ 2) (h1 : 1 ≤ z240) (h2 : 1 ≤ z240 ∧ z240 ≤ 255) : 1 ≤ z240 ∧ z240 ≤ 2 := by omega
theorem vc_X3_readWay_9 {p1 p2 z220 z221 z243 : Int} (h0 : (z220 + z243) ≤ 20) (h1 : 1 ≤ z243) (h2 : ((z221 + 2) + (4 * z243)) ≤ (p1 + p2)) (h3 : 0 ≤ p1 ∧ p1 ≤ 1000) (h4 : 0 ≤ p2 ∧ p2 ≤ 1000) (h5 : 0 ≤ z220 ∧ z220 ≤ 20) (h6 : 0 ≤ z221 ∧ z221 ≤ 1000) (h7 : 1 ≤ z243 ∧ z243 ≤ 255) : 0 ≤ z220 ∧ z220 ≤ 19 := by omega
theorem vc_X3_readWay_10 {p1 p2 z220 z221 z243 : Int} (h0 : (z220 + z243) ≤ 20) (h1 : 1 ≤ z243) (h2 : ((z221 + 2) + (4 * z243)) ≤ (p1 + p2)) (h3 : 0 ≤ p1 ∧ p1 ≤ 1000) (h4 : 0 ≤ p2 ∧ p2 ≤ 1000) (h5 : 0 ≤ z220 ∧ z220 ≤ 19) (h6 : 0 ≤ z221 ∧ z221 ≤ 1000) (h7 : 1 ≤ z243 ∧ z243 ≤ 255) : 1 ≤ z243 ∧ z243 ≤ 20 := by omega
theorem vc_X3_readWay_12 {p1 p2 z220 z221 z243 z544 : Int} (h0 : z243 ≤ z544) (h1 : 1 ≤ z243) (h2 : ((z221 + 2) + (4 * z243)) ≤ (p1 + p2)) (h3 : (z220 + z243) ≤ 20) (h4 : 0 ≤ p1 ∧ p1 ≤ 1000) (h5 : 0 ≤ p2 ∧ p2 ≤ 1000) (h6 : 0 ≤ z220 ∧ z220 ≤ 19) (h7 : 0 ≤ z221 ∧ z221 ≤ 1000) (h8 : 1 ≤ z243 ∧ z243 ≤ 20) (h9 : 0 ≤ z544 ∧ z544 ≤ 20) : 1 ≤ z544 ∧ z544 ≤ 20 := by omega
theorem vc_X3_readWay_13 {p1 p2 z220 z221 z243 z544 : Int} (h0 : z221 < (p1 + p2)) (h1 : (z221 + 2) ≤ (p1 + p2)) (h2 : 1 ≤ z243) (h3 : ((z221 + 2) + (4 * z243)) ≤ (p1 + p2)) (h4 : (z220 + z243) ≤ 20) (h5 : z243 ≤ z544) (h6 : p1 + p2 ≤ 1000) (h7 : 0 ≤ p1 ∧ p1 ≤ 1000) (h8 : 0 ≤ p2 ∧ p2 ≤ 1000) (h9 : 0 ≤ z220 ∧ z220 ≤ 19) (h10 : 0 ≤ z221 ∧ z221 ≤ 1000) (h11 : 1 ≤ z243 ∧ z243 ≤ 20) (h12 : 1 ≤ z544 ∧ z544 ≤ 20) : 0 ≤ (z221 + (2 + (4 * z243))) ∧ (z221 + (2 + (4 * z243))) ≤ 1000 := by omega
theorem vc_X3_readWay_14 {p1 p2 z220 z221 z243 z544 : Int} (h0 : 1 ≤ z243) (h1 : ((z221 + 2) + (4 * z243)) ≤ (p1 + p2)) (h2 : (z220 + z243) ≤ 20) (h3 : z243 ≤ z544) (h4 : p1 + p2 ≤ 1000) (h5 : z221 < (p1 + p2)) (h6 : (z221 + 2) ≤ (p1 + p2)) (h7 : 0 ≤ p1 ∧ p1 ≤ 1000) (h8 : 0 ≤ p2 ∧ p2 ≤ 1000) (h9 : 0 ≤ z220 ∧ z220 ≤ 19) (h10 : 0 ≤ z221 ∧ z221 ≤ 1000) (h11 : 1 ≤ z243 ∧ z243 ≤ 20) (h12 : 1 ≤ z544 ∧ z544 ≤ 20) : 0 ≤ (z220 + z243) ∧ (z220 + z243) ≤ 20 := by omega
theorem vc_X3_readWay_15 {N p1 p2 z220 z221 z243 z544 : Int} (h0 : (1001 - z221) < N + 1) (h1 : z221 < (p1 + p2)) (h2 : (z221 + 2) ≤ (p1 + p2)) (h3 : 1 ≤ z243) (h4 : ((z221 + 2) + (4 * z243)) ≤ (p1 + p2)) (h5 : (z220 + z243) ≤ 20) (h6 : z243 ≤ z544) (h7 : p1 + p2 ≤ 1000) (h8 : 0 ≤ p1 ∧ p1 ≤ 1000) (h9 : 0 ≤ p2 ∧ p2 ≤ 1000) (h10 : 0 ≤ z220 ∧ z220 ≤ 19) (h11 : 0 ≤ z221 ∧ z221 ≤ 1000) (h12 : 1 ≤ z243 ∧ z243 ≤ 20) (h13 : 1 ≤ z544 ∧ z544 ≤ 20) : (1001 - (z221 + (2 + (4 * z243)))) < N := by omega
theorem vc_X3_readWay_16 {z240 : Int} (h0 : ¬ z240 = 1) (h1 : 1 ≤ z240) (h2 : z240 ≤ 2) (h3 : 1 ≤ z240 ∧ z240 ≤ 2) : 2 ≤ z240 ∧ z240 ≤ 2 := by omega
theorem vc_X3_readWay_17 {z240 : Int} (h0 : z240 = 1) (h1 : 1 ≤ z240) (h2 : z240 ≤ 2) (h3 : 1 ≤ z240 ∧ z240 ≤ 2) : 1 ≤ z240 ∧ z240 ≤ 1 := by omega
theorem vc_X3_readWay_18 {p1 p2 z220 z221 z243 z544 : Int} (h0 : z544 < z243) (h1 : 1 ≤ z243) (h2 : ((z221 + 2) + (4 * z243)) ≤ (p1 + p2)) (h3 : (z220 + z243) ≤ 20) (h4 : 0 ≤ p1 ∧ p1 ≤ 1000) (h5 : 0 ≤ p2 ∧ p2 ≤ 1000) (h6 : 0 ≤ z220 ∧ z220 ≤ 19) (h7 : 0 ≤ z221 ∧ z221 ≤ 1000) (h8 : 1 ≤ z243 ∧ z243 ≤ 20) (h9 : 0 ≤ z544 ∧ z544 ≤ 20) : 0 ≤ z544 ∧ z544 ≤ 19 := by omega
theorem vc_X3_readWay_19 {p1 p2 z220 z221 z243 z544 : Int} (h0 : z221 < (p1 + p2)) (h1 : (z221 + 2) ≤ (p1 + p2)) (h2 : ((z221 + 2) + (4 * z243)) ≤ (p1 + p2)) (h3 : z544 < z243) (h4 : p1 + p2 ≤ 1000) (h5 : 1 ≤ z243) (h6 : (z220 + z243) ≤ 20) (h7 : 0 ≤ p1 ∧ p1 ≤ 1000) (h8 : 0 ≤ p2 ∧ p2 ≤ 1000) (h9 : 0 ≤ z220 ∧ z220 ≤ 19) (h10 : 0 ≤ z221 ∧ z221 ≤ 1000) (h11 : 1 ≤ z243 ∧ z243 ≤ 20) (h12 : 0 ≤ z544 ∧ z544 ≤ 19) : 0 ≤ ((z221 + 2) + (4 * z544)) ∧ ((z221 + 2) + (4 * z544)) ≤ 996 := by omega
theorem vc_X3_readWay_20 {p1 p2 z220 z221 z243 z544 : Int} (h0 : (z220 + z243) ≤ 20) (h1 : z544 < z243) (h2 : 1 ≤ z243) (h3 : ((z221 + 2) + (4 * z243)) ≤ (p1 + p2)) (h4 : 0 ≤ p1 ∧ p1 ≤ 1000) (h5 : 0 ≤ p2 ∧ p2 ≤ 1000) (h6 : 0 ≤ z220 ∧ z220 ≤ 19) (h7 : 0 ≤ z221 ∧ z221 ≤ 1000) (h8 : 1 ≤ z243 ∧ z243 ≤ 20) (h9 : 0 ≤ z544 ∧ z544 ≤ 19) : 0 ≤ (z220 + z544) ∧ (z220 + z544) < 20 := by omega
theorem vc_X3_readWay_21 {N p1 p2 z220 z221 z243 z544 : Int} (h0 : (21 - z544) < N + 1) (h1 : z544 < z243) (h2 : 1 ≤ z243) (h3 : ((z221 + 2) + (4 * z243)) ≤ (p1 + p2)) (h4 : (z220 + z243) ≤ 20) (h5 : 0 ≤ p1 ∧ p1 ≤ 1000) (h6 : 0 ≤ p2 ∧ p2 ≤ 1000) (h7 : 0 ≤ z220 ∧ z220 ≤ 19) (h8 : 0 ≤ z221 ∧ z221 ≤ 1000) (h9 : 1 ≤ z243 ∧ z243 ≤ 20) (h10 : 0 ≤ z544 ∧ z544 ≤ 19) : (21 - (z544 + 1)) < N := by omega
theorem vc_X3_readWay_24 {p1 p2 : Int} (h0 : p1 + p2 ≤ 1000) (h1 : 0 ≤ p1 ∧ p1 ≤ 1000) (h2 : 0 ≤ p2 ∧ p2 ≤ 1000) : (1001 - p1) < ((1002 : Nat) : Int) := by omega
set_option maxRecDepth 4000 in
set_option maxHeartbeats 4000000 in
theorem c_X3_readWay {l : Launch} {D : va_G} {c : Nat → ClassId} {H0 : Heap} {sa : Nat × Nat × (Nat → Int32)} {w : mW} {μ : mM} (hw : mWF w) (hT : mT w μ) {p1 : Int} (hp1 : 0 ≤ p1 ∧ p1 ≤ 1000) {p2 : Int} (hp2 : 0 ≤ p2 ∧ p2 ≤ 1000) (hq0 : p1 + p2 ≤ 1000) (hIOC : OC μ) : sC (gG l D c H0 sa) mX3_readWay 3 0 0 [.ref 76, iv p1, iv p2] (mk w μ) (qI w [200007, 201999] μ (fun z μ1 => (0 ≤ z ∧ z ≤ 1) ∧ True)) := by
  refine sC.of rfl (by decide) (le_t rfl) ?_
  refine mr_lvE (lv' := [(0, .ref 76), (1, iv p1), (2, iv p2)]) rfl ?_
  refine mr_iload_n (pc := 0) (z := p1) dX3_readWay_0 rfl rfl ?_
  refine mr_iload_n (pc := 1) (z := p2) dX3_readWay_1 rfl rfl ?_
  refine mr_iadd (pc := 2) (x := p1) (y := p2) dX3_readWay_2 ?_
  refine mr_istore_n (pc := 3) (lv' := [(3, iv (p1 + p2)), (0, .ref 76), (1, iv p1), (2, iv p2)]) dX3_readWay_3 rfl (by decide) rfl ?_
  refine mr_iload_n (pc := 4) (z := p1) dX3_readWay_4 rfl rfl ?_
  refine mr_istore (pc := 5) (lv' := [(4, iv p1), (3, iv (p1 + p2)), (0, .ref 76), (1, iv p1), (2, iv p2)]) dX3_readWay_5 (by decide) rfl ?_
  refine mr_iconst (pc := 7) (z := 0) dX3_readWay_7 ?_
  refine mr_istore (pc := 8) (lv' := [(5, iv 0), (4, iv p1), (3, iv (p1 + p2)), (0, .ref 76), (1, iv p1), (2, iv p2)]) dX3_readWay_8 (by decide) rfl ?_
  have L223 : ∀ (nL223 : Nat) (z221 z220 : Int) (μ222 : mM), mT w μ222 → mF [201999] w μ μ222 → (0 ≤ z221 ∧ z221 ≤ 1000) → (0 ≤ z220 ∧ z220 ≤ 20) → OC μ222 → (1001 - z221) < (nL223 : Int) → sV (gG l D c H0 sa) mX3_readWay (sRm 3 0 0) (sZ (gG l D c H0 sa) 0 0 (qI w [200007, 201999] μ (fun z μ1 => (0 ≤ z ∧ z ≤ 1) ∧ True))) 10 [(0, .ref 76), (3, iv (p1 + p2)), (4, iv z221), (5, iv z220)] [] (mk w μ222) 0 0 := by
    intro nL223
    induction nL223 with
    | zero => intro z221 z220 μ222 T226 F227 h224 h225 I229 h230; exact ((vc_X1_doActs_12_1 h230 h224)).elim
    | succ nL223 ih231 =>
      intro z221 z220 μ222 T226 F227 h224 h225 I229 h230
      refine mr_iload (pc := 10) (z := z221) dX3_readWay_10 rfl ?_
      refine mr_iload_n (pc := 12) (z := (p1 + p2)) dX3_readWay_12 rfl rfl ?_
      refine mr_icmp_ge (pc := 13) (tgt := 177) dX3_readWay_13 (by decide) (r32 h224 rfl) (r32 (rAdd (e := 0) (f := 2000) hp1 hp2 rfl) rfl) (fun h232 => ?_) (fun h232 => ?_)
      · refine sv_aload_n (pc := 177) dX3_readWay_177 rfl rfl ?_
        refine gf_X3_9 (pc := 178) dX3_readWay_178 wF_X3_28 (A_76 hw) T226 ?_
        refine mr_iload (pc := 181) (z := z220) dX3_readWay_181 rfl ?_
        refine pf_X7_7 (pc := 183) dX3_readWay_183 wF_X3_147 (A_81 hw) T226 h225 fun μ233 u234 T235 => ?_
        refine mr_iconst (pc := 186) (z := 1) dX3_readWay_186 ?_
        exact mr_zret dX3_readWay_187 rfl (rW (c := 0) (d := 1) (rR (x := 1)) rfl) (le_t rfl) (le_t rfl) T235 (mF.up (mF.call mF.refl F227 rfl) (A_81 hw) u234 rfl) ⟨(rW (c := 0) (d := 1) (rR (x := 1)) rfl), trivial⟩
      refine mr_iload (pc := 16) (z := z221) dX3_readWay_16 rfl ?_
      refine mr_iconst (pc := 18) (z := 2) dX3_readWay_18 ?_
      refine mr_iadd (pc := 19) (x := z221) (y := 2) dX3_readWay_19 ?_
      refine mr_iload_n (pc := 20) (z := (p1 + p2)) dX3_readWay_20 rfl rfl ?_
      refine mr_icmp_le (pc := 21) (tgt := 26) dX3_readWay_21 (by decide) (r32 (rAdd (e := 2) (f := 1002) h224 (rR (x := 2)) rfl) rfl) (r32 (rAdd (e := 0) (f := 2000) hp1 hp2 rfl) rfl) (fun h236 => ?_) (fun h236 => ?_)
      · refine sv_aload_n (pc := 26) dX3_readWay_26 rfl rfl ?_
        refine gf_X3_4 (pc := 27) dX3_readWay_27 wF_X3_41 (A_76 hw) T226 I229 fun b237 q238 A239 => ?_
        refine mr_iload (pc := 30) (z := z221) dX3_readWay_30 rfl ?_
        refine la_1 (pc := 32) dX3_readWay_32 A239 T226 (vc_X3_readWay_2 h232 h236 hq0 hp1 hp2 h224) fun z240 q241 h242 => ?_
        refine mr_istore (pc := 33) (lv' := [(6, iv z240), (0, .ref 76), (3, iv (p1 + p2)), (4, iv z221), (5, iv z220)]) dX3_readWay_33 (by decide) rfl ?_
        refine sv_aload_n (pc := 35) dX3_readWay_35 rfl rfl ?_
        refine gk_X3_4 (pc := 36) dX3_readWay_36 wF_X3_41 (A_76 hw) q238 ?_
        refine mr_iload (pc := 39) (z := z221) dX3_readWay_39 rfl ?_
        refine mr_iconst (pc := 41) (z := 1) dX3_readWay_41 ?_
        refine mr_iadd (pc := 42) (x := z221) (y := 1) dX3_readWay_42 ?_
        refine la_1 (pc := 43) dX3_readWay_43 A239 T226 (vc_X3_readWay_3 h232 h236 hq0 hp1 hp2 h224) fun z243 q244 h245 => ?_
        refine mr_istore (pc := 44) (lv' := [(7, iv z243), (6, iv z240), (0, .ref 76), (3, iv (p1 + p2)), (4, iv z221), (5, iv z220)]) dX3_readWay_44 (by decide) rfl ?_
        refine mr_iload (pc := 46) (z := z240) dX3_readWay_46 rfl ?_
        refine mr_iconst (pc := 48) (z := 1) dX3_readWay_48 ?_
        refine mr_icmp_lt (pc := 49) (tgt := 64) dX3_readWay_49 (by decide) (r32 h242 rfl) (r32 (rR (x := 1)) rfl) (fun h246 => ?_) (fun h246 => ?_)
        · have h247 : 0 ≤ z240 ∧ z240 ≤ 0 := (vc_X3_readWay_4 h246 h242)
          refine mr_iconst (pc := 64) (z := 0) dX3_readWay_64 ?_
          exact mr_zret dX3_readWay_65 rfl (rW (c := 0) (d := 1) (rR (x := 0)) rfl) (le_t rfl) (le_t rfl) T226 (mF.call mF.refl F227 rfl) ⟨(rW (c := 0) (d := 1) (rR (x := 0)) rfl), trivial⟩
        have h248 : 1 ≤ z240 ∧ z240 ≤ 255 := (vc_X3_readWay_5 h246 h242)
        refine mr_iload (pc := 52) (z := z240) dX3_readWay_52 rfl ?_
        refine mr_iconst (pc := 54) (z := 2) dX3_readWay_54 ?_
        refine mr_icmp_gt (pc := 55) (tgt := 64) dX3_readWay_55 (by decide) (r32 h248 rfl) (r32 (rR (x := 2)) rfl) (fun h249 => ?_) (fun h249 => ?_)
        · have h250 : 3 ≤ z240 ∧ z240 ≤ 255 := (vc_X3_readWay_6 h249 h246 h248)
          refine mr_iconst (pc := 64) (z := 0) dX3_readWay_64 ?_
          exact mr_zret dX3_readWay_65 rfl (rW (c := 0) (d := 1) (rR (x := 0)) rfl) (le_t rfl) (le_t rfl) T226 (mF.call mF.refl F227 rfl) ⟨(rW (c := 0) (d := 1) (rR (x := 0)) rfl), trivial⟩
        have h251 : 1 ≤ z240 ∧ z240 ≤ 2 := (vc_X3_readWay_7 h249 h246 h248)
        refine mr_iload (pc := 58) (z := z243) dX3_readWay_58 rfl ?_
        refine mr_iconst (pc := 60) (z := 1) dX3_readWay_60 ?_
        refine mr_icmp_ge (pc := 61) (tgt := 66) dX3_readWay_61 (by decide) (r32 h245 rfl) (r32 (rR (x := 1)) rfl) (fun h252 => ?_) (fun h252 => ?_)
        · have h253 : 1 ≤ z243 ∧ z243 ≤ 255 := (vc_X3_readWay_5 h252 h245)
          refine mr_iload (pc := 66) (z := z221) dX3_readWay_66 rfl ?_
          refine mr_iconst (pc := 68) (z := 2) dX3_readWay_68 ?_
          refine mr_iadd (pc := 69) (x := z221) (y := 2) dX3_readWay_69 ?_
          refine mr_iconst (pc := 70) (z := 4) dX3_readWay_70 ?_
          refine mr_iload (pc := 71) (z := z243) dX3_readWay_71 rfl ?_
          refine mr_imul (pc := 73) (x := 4) (y := z243) dX3_readWay_73 ?_
          refine mr_iadd (pc := 74) (x := (z221 + 2)) (y := (4 * z243)) dX3_readWay_74 ?_
          refine mr_iload_n (pc := 75) (z := (p1 + p2)) dX3_readWay_75 rfl rfl ?_
          refine mr_icmp_gt (pc := 76) (tgt := 89) dX3_readWay_76 (by decide) (r32 (rAdd (e := 6) (f := 2022) (rAdd (e := 2) (f := 1002) h224 (rR (x := 2)) rfl) (rMulL (n := 4) (e := 4) (f := 1020) h253 rfl) rfl) rfl) (r32 (rAdd (e := 0) (f := 2000) hp1 hp2 rfl) rfl) (fun h254 => ?_) (fun h254 => ?_)
          · refine mr_iconst (pc := 89) (z := 0) dX3_readWay_89 ?_
            exact mr_zret dX3_readWay_90 rfl (rW (c := 0) (d := 1) (rR (x := 0)) rfl) (le_t rfl) (le_t rfl) T226 (mF.call mF.refl F227 rfl) ⟨(rW (c := 0) (d := 1) (rR (x := 0)) rfl), trivial⟩
          refine mr_iload (pc := 79) (z := z220) dX3_readWay_79 rfl ?_
          refine mr_iload (pc := 81) (z := z243) dX3_readWay_81 rfl ?_
          refine mr_iadd (pc := 83) (x := z220) (y := z243) dX3_readWay_83 ?_
          refine mr_bipush (pc := 84) (z := 20) dX3_readWay_84 (by decide) ?_
          refine mr_icmp_le (pc := 86) (tgt := 91) dX3_readWay_86 (by decide) (r32 (rAdd (e := 1) (f := 275) h225 h253 rfl) rfl) (r32 (rR (x := 20)) rfl) (fun h255 => ?_) (fun h255 => ?_)
          · have h256 : 0 ≤ z220 ∧ z220 ≤ 19 := (vc_X3_readWay_9 h255 h252 h254 hp1 hp2 h225 h224 h253)
            have h257 : 1 ≤ z243 ∧ z243 ≤ 20 := (vc_X3_readWay_10 h255 h252 h254 hp1 hp2 h256 h224 h253)
            refine mr_iconst (pc := 91) (z := 0) dX3_readWay_91 ?_
            refine mr_istore (pc := 92) (lv' := [(8, iv 0), (7, iv z243), (6, iv z240), (0, .ref 76), (3, iv (p1 + p2)), (4, iv z221), (5, iv z220)]) dX3_readWay_92 (by decide) rfl ?_
            have L546 : ∀ (nL546 : Nat) (z544 : Int) (μ545 : mM), mT w μ545 → mF [201999] w μ222 μ545 → (0 ≤ z544 ∧ z544 ≤ 20) → OC μ545 → (21 - z544) < (nL546 : Int) → sV (gG l D c H0 sa) mX3_readWay (sRm 3 0 0) (sZ (gG l D c H0 sa) 0 0 (qI w [200007, 201999] μ (fun z μ1 => (0 ≤ z ∧ z ≤ 1) ∧ True))) 94 [(0, .ref 76), (3, iv (p1 + p2)), (4, iv z221), (5, iv z220), (6, iv z240), (7, iv z243), (8, iv z544)] [] (mk w μ545) 0 0 := by
              intro nL546
              induction nL546 with
              | zero => intro z544 μ545 T548 F549 h547 I551 h552; exact ((vc_X12_tieOf_1 h552 h547)).elim
              | succ nL546 ih553 =>
                intro z544 μ545 T548 F549 h547 I551 h552
                refine mr_iload (pc := 94) (z := z544) dX3_readWay_94 rfl ?_
                refine mr_iload (pc := 96) (z := z243) dX3_readWay_96 rfl ?_
                refine mr_icmp_ge (pc := 98) (tgt := 133) dX3_readWay_98 (by decide) (r32 h547 rfl) (r32 h257 rfl) (fun h565 => ?_) (fun h565 => ?_)
                · have h566 : 1 ≤ z544 ∧ z544 ≤ 20 := (vc_X3_readWay_12 h565 h252 h254 h255 hp1 hp2 h256 h224 h257 h547)
                  refine mr_iload (pc := 133) (z := z240) dX3_readWay_133 rfl ?_
                  refine mr_iconst (pc := 135) (z := 1) dX3_readWay_135 ?_
                  have J579 : ∀ (μ574 : mM), (mT w μ574) → (mF [201999] w μ545 μ574) → (OC μ574) → sV (gG l D c H0 sa) mX3_readWay (sRm 3 0 0) (sZ (gG l D c H0 sa) 0 0 (qI w [200007, 201999] μ (fun z μ1 => (0 ≤ z ∧ z ≤ 1) ∧ True))) 156 [(0, .ref 76), (3, iv (p1 + p2)), (4, iv z221), (5, iv z220), (7, iv z243)] [] (mk w μ574) 0 0 := by
                    intro μ574 T575 F576 I578
                    refine mr_iload (pc := 156) (z := z220) dX3_readWay_156 rfl ?_
                    refine mr_iload (pc := 158) (z := z243) dX3_readWay_158 rfl ?_
                    refine mr_iadd (pc := 160) (x := z220) (y := z243) dX3_readWay_160 ?_
                    refine mr_istore (pc := 161) (lv' := [(5, iv (z220 + z243)), (0, .ref 76), (3, iv (p1 + p2)), (4, iv z221), (7, iv z243)]) dX3_readWay_161 (by decide) rfl ?_
                    refine mr_iload (pc := 163) (z := z221) dX3_readWay_163 rfl ?_
                    refine mr_iconst (pc := 165) (z := 2) dX3_readWay_165 ?_
                    refine mr_iconst (pc := 166) (z := 4) dX3_readWay_166 ?_
                    refine mr_iload (pc := 167) (z := z243) dX3_readWay_167 rfl ?_
                    refine mr_imul (pc := 169) (x := 4) (y := z243) dX3_readWay_169 ?_
                    refine mr_iadd (pc := 170) (x := 2) (y := (4 * z243)) dX3_readWay_170 ?_
                    refine mr_iadd (pc := 171) (x := z221) (y := (2 + (4 * z243))) dX3_readWay_171 ?_
                    refine mr_istore (pc := 172) (lv' := [(4, iv (z221 + (2 + (4 * z243)))), (5, iv (z220 + z243)), (0, .ref 76), (3, iv (p1 + p2)), (7, iv z243)]) dX3_readWay_172 (by decide) rfl ?_
                    refine sv_goto (pc := 174) (tgt := 10) dX3_readWay_174 (by decide) ?_
                    refine mr_lvS (lv' := [(0, .ref 76), (3, iv (p1 + p2)), (4, iv (z221 + (2 + (4 * z243)))), (5, iv (z220 + z243))]) (List.forall_mem_cons.mpr ⟨rfl, List.forall_mem_cons.mpr ⟨rfl, List.forall_mem_cons.mpr ⟨rfl, List.forall_mem_cons.mpr ⟨rfl, fun _ h => absurd h List.not_mem_nil⟩⟩⟩⟩) ?_
                    exact ih231 (z221 + (2 + (4 * z243))) (z220 + z243) μ574 T575 (mF.call (mF.call (mF.call mF.refl F227 rfl) F549 rfl) F576 rfl) (vc_X3_readWay_13 h232 h236 h252 h254 h255 h565 hq0 hp1 hp2 h256 h224 h257 h566) (vc_X3_readWay_14 h252 h254 h255 h565 hq0 h232 h236 hp1 hp2 h256 h224 h257 h566) I578 (vc_X3_readWay_15 (nS h230) h232 h236 h252 h254 h255 h565 hq0 hp1 hp2 h256 h224 h257 h566)
                  refine mr_icmp_ne (pc := 136) (tgt := 156) dX3_readWay_136 (by decide) (r32 h251 rfl) (r32 (rR (x := 1)) rfl) (fun h580 => ?_) (fun h580 => ?_)
                  · have h581 : 2 ≤ z240 ∧ z240 ≤ 2 := (vc_X3_readWay_16 h580 h246 h249 h251)
                    refine mr_lvS (lv' := [(0, .ref 76), (3, iv (p1 + p2)), (4, iv z221), (5, iv z220), (7, iv z243)]) (List.forall_mem_cons.mpr ⟨rfl, List.forall_mem_cons.mpr ⟨rfl, List.forall_mem_cons.mpr ⟨rfl, List.forall_mem_cons.mpr ⟨rfl, List.forall_mem_cons.mpr ⟨rfl, fun _ h => absurd h List.not_mem_nil⟩⟩⟩⟩⟩) ?_
                    exact J579 μ545 T548 mF.refl I551
                  have h582 : 1 ≤ z240 ∧ z240 ≤ 1 := (vc_X3_readWay_17 h580 h246 h249 h251)
                  refine sv_aload_n (pc := 139) dX3_readWay_139 rfl rfl ?_
                  refine gf_X3_9 (pc := 140) dX3_readWay_140 wF_X3_28 (A_76 hw) T548 ?_
                  refine gf_X7_0 (pc := 143) dX3_readWay_143 wF_X3_140 (A_81 hw) T548 fun A583 => ?_
                  refine mr_iload (pc := 146) (z := z220) dX3_readWay_146 rfl ?_
                  refine mr_iload (pc := 148) (z := z220) dX3_readWay_148 rfl ?_
                  refine mr_iload (pc := 150) (z := z243) dX3_readWay_150 rfl ?_
                  refine mr_iadd (pc := 152) (x := z220) (y := z243) dX3_readWay_152 ?_
                  refine mr_cSV (pc := 153) (c_X3_sortWithoutSign hw T548 A583 (rW (c := 0) (d := 20) h256 rfl) (vc_X3_readWay_14 h252 h254 h255 h565 hq0 h232 h236 hp1 hp2 h256 h224 h257 h566)) (gOk _ _ _ _ _) dX3_readWay_153 (tX3_sortWithoutSign _ _ _ _ _) wS_X3_sortWithoutSign wM_X3_143 ⟨le_t rfl, le_t rfl⟩ ⟨le_t rfl, le_t rfl⟩ rfl (le_t rfl) fun μ584 T585 F586 h587 => ?_
                  refine mr_lvS (lv' := [(0, .ref 76), (3, iv (p1 + p2)), (4, iv z221), (5, iv z220), (7, iv z243)]) (List.forall_mem_cons.mpr ⟨rfl, List.forall_mem_cons.mpr ⟨rfl, List.forall_mem_cons.mpr ⟨rfl, List.forall_mem_cons.mpr ⟨rfl, List.forall_mem_cons.mpr ⟨rfl, fun _ h => absurd h List.not_mem_nil⟩⟩⟩⟩⟩) ?_
                  exact J579 μ584 T585 (mF.call mF.refl F586 rfl) (OC.keep I551 hw ((mF.call mF.refl F586 rfl) : mF [201999] w μ545 μ584) rfl)
                have h588 : 0 ≤ z544 ∧ z544 ≤ 19 := (vc_X3_readWay_18 h565 h252 h254 h255 hp1 hp2 h256 h224 h257 h547)
                refine sv_aload_n (pc := 101) dX3_readWay_101 rfl rfl ?_
                refine gf_X3_9 (pc := 102) dX3_readWay_102 wF_X3_28 (A_76 hw) T548 ?_
                refine gf_X7_0 (pc := 105) dX3_readWay_105 wF_X3_140 (A_81 hw) T548 fun A589 => ?_
                refine mr_iload (pc := 108) (z := z220) dX3_readWay_108 rfl ?_
                refine mr_iload (pc := 110) (z := z544) dX3_readWay_110 rfl ?_
                refine mr_iadd (pc := 112) (x := z220) (y := z544) dX3_readWay_112 ?_
                refine sv_aload_n (pc := 113) dX3_readWay_113 rfl rfl ?_
                refine mr_iload (pc := 114) (z := z221) dX3_readWay_114 rfl ?_
                refine mr_iconst (pc := 116) (z := 2) dX3_readWay_116 ?_
                refine mr_iadd (pc := 117) (x := z221) (y := 2) dX3_readWay_117 ?_
                refine mr_iconst (pc := 118) (z := 4) dX3_readWay_118 ?_
                refine mr_iload (pc := 119) (z := z544) dX3_readWay_119 rfl ?_
                refine mr_imul (pc := 121) (x := 4) (y := z544) dX3_readWay_121 ?_
                refine mr_iadd (pc := 122) (x := (z221 + 2)) (y := (4 * z544)) dX3_readWay_122 ?_
                refine mr_cVP (pc := 123) (c_X3_fourAt hw T548 (vc_X3_readWay_19 h232 h236 h254 h565 hq0 h252 h255 hp1 hp2 h256 h224 h257 h588) I551) (gOk _ _ _ _ _) dX3_readWay_123 (tX3_fourAt _ _ _ _ _) ⟨wV_X3_fourAt, wL_X3_fourAt⟩ wM_X3_130 (gCX3 _ _ _ _ _) rfl (A_76 hw) rfl ⟨le_t rfl, le_t rfl⟩ ⟨le_t rfl, le_t rfl⟩ rfl (le_t rfl) fun z594 h593 => ?_
                refine ss_201 (pc := 126) dX3_readWay_126 A589 T548 (vc_X3_readWay_20 h255 h565 h252 h254 hp1 hp2 h256 h224 h257 h588) h593.1 fun μ595 u596 T597 => ?_
                refine mr_iinc (pc := 127) (lv' := [(8, iv (z544 + 1)), (0, .ref 76), (3, iv (p1 + p2)), (4, iv z221), (5, iv z220), (6, iv z240), (7, iv z243)]) dX3_readWay_127 rfl (by decide) rfl ?_
                refine sv_goto (pc := 130) (tgt := 94) dX3_readWay_130 (by decide) ?_
                refine mr_lvS (lv' := [(0, .ref 76), (3, iv (p1 + p2)), (4, iv z221), (5, iv z220), (6, iv z240), (7, iv z243), (8, iv (z544 + 1))]) (List.forall_mem_cons.mpr ⟨rfl, List.forall_mem_cons.mpr ⟨rfl, List.forall_mem_cons.mpr ⟨rfl, List.forall_mem_cons.mpr ⟨rfl, List.forall_mem_cons.mpr ⟨rfl, List.forall_mem_cons.mpr ⟨rfl, List.forall_mem_cons.mpr ⟨rfl, fun _ h => absurd h List.not_mem_nil⟩⟩⟩⟩⟩⟩⟩) ?_
                exact ih553 (z544 + 1) μ595 T597 (mF.up (mF.call mF.refl F549 rfl) A589 u596 rfl) (rW (c := 0) (d := 20) (rAdd (e := 1) (f := 20) h588 (rR (x := 1)) rfl) rfl) (OC.keep I551 hw ((mF.up mF.refl A589 u596 rfl) : mF [201999] w μ545 μ595) rfl) (vc_X3_readWay_21 (nS h552) h565 h252 h254 h255 hp1 hp2 h256 h224 h257 h588)
            refine mr_lvS (lv' := [(0, .ref 76), (3, iv (p1 + p2)), (4, iv z221), (5, iv z220), (6, iv z240), (7, iv z243), (8, iv 0)]) (List.forall_mem_cons.mpr ⟨rfl, List.forall_mem_cons.mpr ⟨rfl, List.forall_mem_cons.mpr ⟨rfl, List.forall_mem_cons.mpr ⟨rfl, List.forall_mem_cons.mpr ⟨rfl, List.forall_mem_cons.mpr ⟨rfl, List.forall_mem_cons.mpr ⟨rfl, fun _ h => absurd h List.not_mem_nil⟩⟩⟩⟩⟩⟩⟩) ?_
            exact L546 22 0 μ222 T226 mF.refl (rW (c := 0) (d := 20) (rR (x := 0)) rfl) I229 vc_X12_tieOf_12
          refine mr_iconst (pc := 89) (z := 0) dX3_readWay_89 ?_
          exact mr_zret dX3_readWay_90 rfl (rW (c := 0) (d := 1) (rR (x := 0)) rfl) (le_t rfl) (le_t rfl) T226 (mF.call mF.refl F227 rfl) ⟨(rW (c := 0) (d := 1) (rR (x := 0)) rfl), trivial⟩
        have h598 : 0 ≤ z243 ∧ z243 ≤ 0 := (vc_X3_readWay_4 h252 h245)
        refine mr_iconst (pc := 64) (z := 0) dX3_readWay_64 ?_
        exact mr_zret dX3_readWay_65 rfl (rW (c := 0) (d := 1) (rR (x := 0)) rfl) (le_t rfl) (le_t rfl) T226 (mF.call mF.refl F227 rfl) ⟨(rW (c := 0) (d := 1) (rR (x := 0)) rfl), trivial⟩
      refine mr_iconst (pc := 24) (z := 0) dX3_readWay_24 ?_
      exact mr_zret dX3_readWay_25 rfl (rW (c := 0) (d := 1) (rR (x := 0)) rfl) (le_t rfl) (le_t rfl) T226 (mF.call mF.refl F227 rfl) ⟨(rW (c := 0) (d := 1) (rR (x := 0)) rfl), trivial⟩
  refine mr_lvS (lv' := [(0, .ref 76), (3, iv (p1 + p2)), (4, iv p1), (5, iv 0)]) (List.forall_mem_cons.mpr ⟨rfl, List.forall_mem_cons.mpr ⟨rfl, List.forall_mem_cons.mpr ⟨rfl, List.forall_mem_cons.mpr ⟨rfl, fun _ h => absurd h List.not_mem_nil⟩⟩⟩⟩) ?_
  exact L223 1002 p1 0 μ hT mF.refl hp1 (rW (c := 0) (d := 20) (rR (x := 0)) rfl) hIOC (vc_X3_readWay_24 hq0 hp1 hp2)
end
section
/-! What the reference keeps of its routes and policies. -/
def G1 (μ : mM) : Prop := (μ 106 70 = 0 ∨ 0 ≤ μ 126 0) ∧ ∀ k : Nat, k < 100 → μ 161 k = -99999999 ∨ 0 ≤ μ 126 (1200 + 40 * k)
theorem G1.keep {l : List Nat} {w : mW} {μ μ1 : mM} {rs : List (Int × Int)} (h : G1 μ) (hw : mWF w) (hF : mF l w μ μ1) (hl1 : l.elem 106070 = false) (hl2 : l.elem 161999 = false) (hG : mG rs μ μ1) (hrs : ∀ r ∈ rs, (1 ≤ r.1 ∧ r.2 ≤ 1200) ∨ 5200 ≤ r.1) : G1 μ1 := by
  have e1 : μ1 106 70 = μ 106 70 := hF.f (A_106 hw) hl1 rfl
  have e2 : ∀ k, μ1 161 k = μ 161 k := fun k => hF.f (A_161 hw) hl2 rfl
  have e3 : μ1 126 0 = μ 126 0 := hG 0 (fun r hr => by rcases hrs r hr with q | q <;> omega)
  have e4 : ∀ k : Nat, k < 100 → μ1 126 (1200 + 40 * k) = μ 126 (1200 + 40 * k) := fun k hk => hG _ (fun r hr => by rcases hrs r hr with q | q <;> omega)
  refine ⟨by rw [e1, e3]; exact h.1, fun k hk => ?_⟩
  rw [e2, e4 k hk]; exact h.2 k hk
theorem G1.at {μ : mM} {e z x : Int} {f : Int} (h : G1 μ) (h0 : 0 ≤ e ∧ e ≤ 99) (q : μ 161 e.toNat = z) (hf : f = 1200 + 40 * e) (r : μ 126 f.toNat = x) : z = -99999999 ∨ 0 ≤ x := by
  have := h.2 e.toNat (by omega)
  have e1 : 1200 + 40 * e.toNat = f.toNat := by omega
  rw [q, e1, r] at this; exact this
theorem G1.hand {μ : mM} {z x : Int} (h : G1 μ) (q : μ 106 70 = z) (r : μ 126 (0 : Int).toNat = x) : z = 0 ∨ 0 ≤ x := by
  have := h.1
  have e : (0 : Int).toNat = 0 := rfl
  rw [e] at r
  rw [q, r] at this; exact this
/-- a route was put into the hand -/
theorem G1.take {l : List Nat} {w : mW} {μ μ1 : mM} {rs : List (Int × Int)} {x : Int} (h : G1 μ) (hw : mWF w) (hF : mF l w μ μ1) (hl2 : l.elem 161999 = false) (hG : mG rs μ μ1) (hrs : ∀ r ∈ rs, r.2 ≤ 1200 ∨ 5200 ≤ r.1) (hx : μ1 126 (0 : Int).toNat = x) (hp : 0 ≤ x) : G1 μ1 := by
  have e2 : ∀ k, μ1 161 k = μ 161 k := fun k => hF.f (A_161 hw) hl2 rfl
  have e4 : ∀ k : Nat, k < 100 → μ1 126 (1200 + 40 * k) = μ 126 (1200 + 40 * k) := fun k hk => hG _ (fun r hr => by rcases hrs r hr with q | q <;> omega)
  refine ⟨Or.inr (by have e : (0 : Int).toNat = 0 := rfl; rw [e] at hx; omega), fun k hk => ?_⟩
  rw [e2, e4 k hk]; exact h.2 k hk
/-- a route was picked -/
theorem G1.look {w : mW} {μ μ1 μ2 : mM} {e f t x : Int} (h : G1 μ) (hw : mWF w) (h0 : 0 ≤ e ∧ e ≤ 99) (hU : mU μ 161 e.toNat t μ1) (hF : mF [126999] w μ1 μ2) (hf : f = 1200 + 40 * e) (hG : mG [(f, f + 40)] μ1 μ2) (hx : μ2 126 f.toNat = x) (ht : t = -99999999 ∨ 0 ≤ x) : G1 μ2 := by
  have a1 : μ2 106 70 = μ 106 70 := (hF.f (A_106 hw) rfl rfl).trans (hU.2 106 70 (Or.inl (by decide)))
  have a2 : ∀ i : Nat, ((i : Int) < f ∨ f + 40 ≤ (i : Int)) → μ2 126 i = μ 126 i := fun i hi => (hG i (fun r hr => by
    rcases List.mem_cons.mp hr with rfl | hr
    · exact hi
    · cases hr)).trans (hU.2 126 i (Or.inl (by decide)))
  refine ⟨by rw [a1, a2 0 (by left; omega)]; exact h.1, fun k hk => ?_⟩
  have a3 : μ2 161 k = μ1 161 k := hF.f (A_161 hw) rfl rfl
  by_cases hke : (k : Int) = e
  · have : e.toNat = k := by omega
    rw [a3, ← this, hU.1]
    have e2 : 1200 + 40 * e.toNat = f.toNat := by omega
    rw [e2, hx]; exact ht
  · rw [a3, hU.2 161 k (Or.inr (fun q => hke (by omega))), a2 (1200 + 40 * k) (by omega)]
    exact h.2 k hk
def polT (μ : mM) (p : Nat) : Prop := (∀ r : Nat, (r : Int) < μ 127 p → μ 129 (31 * p + r) ≤ μ 129 (31 * p + r + 1) ∧ μ 129 (31 * p + r + 1) ≤ μ 131 p) ∧ ∀ c : Nat, (c : Int) < μ 131 p → μ 140 (300 * p + c) = 28 → 0 ≤ μ 141 (300 * p + c) ∧ μ 141 (300 * p + c) < (p : Int)
def PK (μ : mM) : Prop := (∀ i : Nat, i < 80 → (i : Int) < 4 * μ 106 6 → μ 115 i = -99999999 ∨ (0 ≤ μ 115 i ∧ μ 115 i < μ 106 39)) ∧ ∀ p : Nat, (p : Int) < μ 106 39 → polT μ p
def pkFree (l : List Nat) : Bool := !(l.elem 115999) && (!(l.elem 106006) && (!(l.elem 106039) && (!(l.elem 127999) && (!(l.elem 129999) && (!(l.elem 131999) && (!(l.elem 140999) && !(l.elem 141999)))))))
theorem PK.keep {l : List Nat} {w : mW} {μ μ1 : mM} (h : PK μ) (hw : mWF w) (hF : mF l w μ μ1) (hl : pkFree l = true) : PK μ1 := by
  simp only [pkFree, Bool.and_eq_true, Bool.not_eq_true'] at hl
  obtain ⟨l1, l8, l2, l3, l4, l5, l6, l7⟩ := hl
  have e8 : μ1 106 6 = μ 106 6 := hF.f (A_106 hw) l8 rfl
  have e1 : μ1 115 = μ 115 := funext fun i => hF.f (A_115 hw) l1 rfl
  have e2 : μ1 106 39 = μ 106 39 := hF.f (A_106 hw) l2 rfl
  have e3 : μ1 127 = μ 127 := funext fun i => hF.f (A_127 hw) l3 rfl
  have e4 : μ1 129 = μ 129 := funext fun i => hF.f (A_129 hw) l4 rfl
  have e5 : μ1 131 = μ 131 := funext fun i => hF.f (A_131 hw) l5 rfl
  have e6 : μ1 140 = μ 140 := funext fun i => hF.f (A_140 hw) l6 rfl
  have e7 : μ1 141 = μ 141 := funext fun i => hF.f (A_141 hw) l7 rfl
  unfold PK polT at h ⊢
  rw [e1, e2, e3, e4, e5, e6, e7, e8]; exact h
theorem PK.pol {μ : mM} {e z n t : Int} (h : PK μ) (h0 : 0 ≤ e ∧ e < 80) (q : μ 115 e.toNat = z) (r : μ 106 39 = n) (qt : μ 106 6 = t) (ht : e < 4 * t) : z = -99999999 ∨ (0 ≤ z ∧ z < n) := by
  have := h.1 e.toNat (by omega) (by omega)
  rw [q, r] at this; exact this
theorem pk_use {μ : mM} {z e x : Int} (h : z = -99999999 ∨ 0 ≤ μ 126 (160 + 40 * z).toNat) (hn : ¬ z = -99999999) (he : 160 + 40 * z = e) (q : μ 126 e.toNat = x) : 0 ≤ x := by
  have := h.resolve_left hn
  rw [he, q] at this; exact this
theorem PK.use {μ μ1 : mM} {e z n : Int} (h : PK μ) (hU : mU μ 115 e.toNat z μ1) (q : μ 106 39 = n) (hz : z = -99999999 ∨ (0 ≤ z ∧ z < n)) : PK μ1 := by
  have e2 : μ1 106 39 = μ 106 39 := hU.2 106 39 (Or.inl (by decide))
  have e3 : μ1 127 = μ 127 := funext fun i => hU.2 127 i (Or.inl (by decide))
  have e4 : μ1 129 = μ 129 := funext fun i => hU.2 129 i (Or.inl (by decide))
  have e5 : μ1 131 = μ 131 := funext fun i => hU.2 131 i (Or.inl (by decide))
  have e6 : μ1 140 = μ 140 := funext fun i => hU.2 140 i (Or.inl (by decide))
  have e7 : μ1 141 = μ 141 := funext fun i => hU.2 141 i (Or.inl (by decide))
  have e8 : μ1 106 6 = μ 106 6 := hU.2 106 6 (Or.inl (by decide))
  refine ⟨fun i hi ht => ?_, ?_⟩
  · by_cases hk : i = e.toNat
    · rw [hk, hU.1, e2, q]; exact hz
    · rw [hU.2 115 i (Or.inr hk), e2]; exact h.1 i hi (by rw [← e8]; exact ht)
  · have := h.2
    unfold polT at this ⊢
    rw [e2, e3, e4, e5, e6, e7]; exact this
/-- the new tie's four entries -/
def pnT (μ : mM) (t L : Int) : Prop := ∀ k : Int, 0 ≤ k → k < L → μ 115 (4 * t + k).toNat = -99999999
theorem pnT.zero {μ : mM} {t L : Int} (h : L = 0) : pnT μ t L := fun k h0 h1 => by omega
theorem pnT.succ {μ μ1 : mM} {t L e z L1 : Int} (h : pnT μ t L) (hU : mU μ 115 e.toNat z μ1) (he : e = 4 * t + L) (h0 : 0 ≤ t ∧ 0 ≤ L) (hz : z = -99999999) (hL : L1 = L + 1) : pnT μ1 t L1 := fun k k0 k1 => by
  by_cases hk : k = L
  · rw [hk, ← he, hU.1, hz]
  · rw [hU.2 115 _ (Or.inr (by omega))]; exact h k k0 (by omega)
theorem PK.grow {μ μ1 : mM} {t z L : Int} (h : PK μ) (q : μ 106 6 = t) (hU : mU μ 106 6 z μ1) (hz : z = t + 1) (ht : 0 ≤ t) (hn : pnT μ t L) (hL : L = 4) : PK μ1 := by
  have f : ∀ a j, a ≠ 106 → μ1 a j = μ a j := fun a j ha => hU.2 a j (Or.inl ha)
  have e2 : μ1 106 39 = μ 106 39 := hU.2 106 39 (Or.inr (by decide))
  refine ⟨fun i hi hi2 => ?_, fun p hp => ?_⟩
  · rw [f 115 i (by decide), e2]
    by_cases g : (i : Int) < 4 * t
    · exact h.1 i hi (by rw [q]; exact g)
    · left
      have := hn ((i : Int) - 4 * t) (by omega) (by rw [hU.1] at hi2; omega)
      rw [show (4 * t + ((i : Int) - 4 * t)).toNat = i by omega] at this
      exact this
  · rw [e2] at hp
    have := h.2 p hp
    unfold polT at this ⊢
    have f1 : μ1 127 = μ 127 := funext fun i => f 127 i (by decide)
    have f2 : μ1 129 = μ 129 := funext fun i => f 129 i (by decide)
    have f3 : μ1 131 = μ 131 := funext fun i => f 131 i (by decide)
    have f4 : μ1 140 = μ 140 := funext fun i => f 140 i (by decide)
    have f5 : μ1 141 = μ 141 := funext fun i => f 141 i (by decide)
    rw [f1, f2, f3, f4, f5]; exact this
end
section
/-! Counting over a row. -/
def cnt (μ : mM) (a : Nat) : Nat → Int
  | 0 => 0
  | n + 1 => cnt μ a n + μ a n
theorem cnt_same {μ μ1 : mM} {a : Nat} : ∀ {n : Nat}, (∀ i, i < n → μ1 a i = μ a i) → cnt μ1 a n = cnt μ a n
  | 0, _ => rfl
  | n + 1, h => by
    simp only [cnt]
    rw [cnt_same (fun i hi => h i (Nat.lt_succ_of_lt hi)), h n (Nat.lt_succ_self n)]
theorem cnt_up {μ μ1 : mM} {a k : Nat} {z : Int} (hU : mU μ a k z μ1) : ∀ {n : Nat}, k < n → cnt μ1 a n = cnt μ a n + z - μ a k
  | 0, h => absurd h (Nat.not_lt_zero k)
  | n + 1, h => by
    simp only [cnt]
    by_cases hk : k = n
    · subst hk
      rw [cnt_same (fun i hi => hU.2 a i (Or.inr (Nat.ne_of_lt hi))), hU.1]
      omega
    · rw [cnt_up hU (by omega), hU.2 a n (Or.inr (Ne.symm hk))]
      omega
theorem cnt_rng {μ : mM} {a : Nat} (h : ∀ i, 0 ≤ μ a i ∧ μ a i ≤ 1) : ∀ n : Nat, 0 ≤ cnt μ a n ∧ cnt μ a n ≤ (n : Int)
  | 0 => ⟨Int.le_refl 0, Int.le_refl 0⟩
  | n + 1 => by
    have h1 := cnt_rng h n
    have h2 := h n
    simp only [cnt]
    omega
theorem cntU {μ μ1 : mM} {a n : Nat} {e z c o : Int} {m : Int} (hU : mU μ a e.toNat z μ1) (hi : 0 ≤ e ∧ e < m) (hm : (n : Int) = m) (qc : cnt μ a n = c) (qo : μ a e.toNat = o) : cnt μ1 a n = c + z - o := by
  rw [cnt_up hU (by omega), qc, qo]
theorem cntO {μ μ1 : mM} {a n b k : Nat} {z c : Int} (hU : mU μ b k z μ1) (hb : a ≠ b) (qc : cnt μ a n = c) : cnt μ1 a n = c := by
  rw [cnt_same (fun i _ => hU.2 a i (Or.inl hb)), qc]
theorem cntF {l : List Nat} {w : mW} {μ μ1 : mM} {a s n : Nat} {c : Int} (hF : mF l w μ μ1) (hA : mAt w a s) (hs : mArr s = true) (hl : l.elem (1000 * s + 999) = false) (qc : cnt μ a n = c) : cnt μ1 a n = c := by
  rw [cnt_same (fun i _ => hF a i (by simp only [mRg, hA.1, hs, if_true]; exact hl)), qc]
end
section
/-! Bytes of the reference's tape. -/
def byteF (μ : mM) (k : Int) : Int := if k < μ 106 1 then bAnd (μ 107 k.toNat) 255 else -1
def tpFree (l : List Nat) : Bool := !(l.elem 107999) && !(l.elem 106001)
theorem byteF.keep {l : List Nat} {w : mW} {μ μ1 : mM} {k : Int} (hw : mWF w) (hF : mF l w μ μ1) (hl : tpFree l = true) : byteF μ1 k = byteF μ k := by
  simp only [tpFree, Bool.and_eq_true, Bool.not_eq_true'] at hl
  have e1 : μ1 106 1 = μ 106 1 := hF.f (A_106 hw) hl.2 rfl
  have e2 : μ1 107 k.toNat = μ 107 k.toNat := hF.f (A_107 hw) hl.1 rfl
  simp only [byteF, e1, e2]
theorem byteF.in {μ : mM} {k n a z : Int} (q : μ 106 1 = n) (h : k < n) (q1 : μ 107 k.toNat = a) (q2 : bAnd a 255 = z) : z = byteF μ k := by
  simp only [byteF, q, if_pos h, q1, q2]
theorem byteF.out {μ : mM} {k n : Int} (q : μ 106 1 = n) (h : n ≤ k) : -1 = byteF μ k := by
  simp only [byteF, q]
  rw [if_neg (by omega)]
def numN (μ : mM) (a : Int) : Nat → Int
  | 0 => 0
  | n + 1 => bOr (bShl (numN μ a n) 8) (byteF μ (a + n))
def numF (μ : mM) (a n : Int) : Int := numN μ a n.toNat
theorem numN.keep {l : List Nat} {w : mW} {μ μ1 : mM} {a : Int} (hw : mWF w) (hF : mF l w μ μ1) (hl : tpFree l = true) : ∀ n, numN μ1 a n = numN μ a n
  | 0 => rfl
  | n + 1 => by simp only [numN, numN.keep hw hF hl n, byteF.keep hw hF hl]
theorem numF.keep {l : List Nat} {w : mW} {μ μ1 : mM} {a n : Int} (hw : mWF w) (hF : mF l w μ μ1) (hl : tpFree l = true) : numF μ1 a n = numF μ a n := numN.keep hw hF hl _
theorem numF.zero {μ : mM} {a : Int} : numF μ a 0 = 0 := rfl
theorem numF.succ {μ : mM} {a n v s b v' e : Int} (h : numF μ a n = v) (h0 : 0 ≤ n) (q1 : bShl v 8 = s) (he : e = a + n) (q2 : b = byteF μ e) (q3 : bOr s b = v') : numF μ a (n + 1) = v' := by
  have e1 : (n + 1).toNat = n.toNat + 1 := by omega
  have e2 : ((n.toNat : Nat) : Int) = n := Int.toNat_of_nonneg h0
  simp only [numF, e1, numN, e2]
  rw [show numN μ a n.toNat = v from h, q1, ← he, ← q2, q3]
theorem numF.fin {μ : mM} {a k v p : Int} (h : numF μ a k = v) (e : p = k) : v = numF μ a p := by rw [e]; exact h.symm
end
section
/-! Numbers that wrap, exactly. -/
section MV13
variable {g : sG} {M : sM} {R : Room} {Z : sZT} {pc : Nat} {lv : List (Nat × Value)} {st : List Value} {hp : sHp} {ce sl : Nat}
theorem wrap_mod (e : Int) : ((Int32.ofInt e).toInt - e) % 4294967296 = 0 := by
  rw [Int32.toInt_ofInt]
  have hs : Int32.size = 4294967296 := rfl
  simp only [Int.bmod, hs]
  split <;> omega
theorem mr_wrapF {e : Int} (k : ∀ z, (-2147483648 ≤ z ∧ z ≤ 2147483647) → (z - e) % 4294967296 = 0 → sV g M R Z pc lv (iv z :: st) hp ce sl) : sV g M R Z pc lv (iv e :: st) hp ce sl := by
  have h := k (Int32.ofInt e).toInt (r32i _) (wrap_mod e)
  simp only [iv, Int32.ofInt_toInt] at h ⊢
  exact h
end MV13
end
