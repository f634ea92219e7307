def WP_X8_handOver_W (w : mW) (μ : mM) (a1 : Nat) (p2 : Int) (p3 : Int) (Q : mM → Prop) : Prop := WP_X9_placeOf_W w μ (1 - p2) p3 (fun z6 _ => (0 ≤ z6 ∧ z6 ≤ 19) → ∀ b7 : Nat, μ (a1 + 2) (z6.toNat) = (b7 : Int) → mAt w b7 200 → WP_X9_placeOf_W w μ p2 p3 (fun z15 _ => (0 ≤ z15 ∧ z15 ≤ 19) → ∀ b16 : Nat, μ (a1 + 3) (z15.toNat) = (b16 : Int) → mAt w b16 200 → WP_X7_become_W w μ b7 b16 (fun μ19 => mT w μ19 → mF [200002, 200003, 200004, 200005, 200006, 200007, 200008, 201999, 202999] w μ μ19 → ∀ z23 : Int, μ19 32 11 = z23 → ((-1) ≤ z23 ∧ z23 ≤ 2000000000) → ∀ μ26 : mM, mU μ19 b7 (9) z23 μ26 → mT w μ26 → Q μ26)))
set_option maxRecDepth 4000 in
set_option maxHeartbeats 4000000 in
theorem c_X8_handOver_W {l : Launch} {D : va_G} {c : Nat → ClassId} {H0 : Heap} {sa : Nat × Nat × (Nat → Int32)} {w : mW} {μ : mM} (hw : mWF w) (hT : mT w μ) {a1 : Nat} (hA1 : mAt w a1 220) {p2 : Int} (hp2 : 0 ≤ p2 ∧ p2 ≤ 1) {p3 : Int} (hp3 : 0 ≤ p3 ∧ p3 ≤ 9) {Q : mM → Prop} (hQ : WP_X8_handOver_W w μ a1 p2 p3 Q) : sC (gG l D c H0 sa) mX8_handOver 4 0 0 [.ref 32, .ref a1, iv p2, iv p3] (mk w μ) (qV w [200002, 200003, 200004, 200005, 200006, 200007, 200008, 200009, 201999, 202999] μ (fun μ1 => Q μ1 ∧ True)) := by
  refine sC.of rfl (by decide) (le_t rfl) ?_
  refine mr_lvE (lv' := [(0, .ref 32), (1, .ref a1), (2, iv p2), (3, iv p3)]) rfl ?_
  refine sv_aload_n (pc := 0) dX8_handOver_0 rfl rfl ?_
  refine gf_X9_4 (pc := 1) dX8_handOver_1 wF_X8_96 hA1 hT fun A1 => ?_
  refine mr_iconst (pc := 4) (z := 1) dX8_handOver_4 ?_
  refine mr_iload_n (pc := 5) (z := p2) dX8_handOver_5 rfl rfl ?_
  refine mr_isub (pc := 6) (x := 1) (y := p2) dX8_handOver_6 ?_
  refine mr_iload_n (pc := 7) (z := p3) dX8_handOver_7 rfl rfl ?_
  refine mr_cSP (pc := 8) (c_X9_placeOf_W hw hT (rSub (e := 0) (f := 1) (rR (x := 1)) hp2 rfl) hp3 hQ) (gOk _ _ _ _ _) dX8_handOver_8 (tX9_placeOf _ _ _ _ _) wS_X9_placeOf wM_X8_99 ⟨le_t rfl, le_t rfl⟩ ⟨le_t rfl, le_t rfl⟩ rfl (le_t rfl) fun z6 h5 => ?_
  refine la_222 (pc := 11) dX8_handOver_11 A1 hT (rIx (n := 20) h5.1 rfl) fun b7 q8 A9 => ?_
  refine mr_astore (pc := 12) (lv' := [(4, .ref b7), (0, .ref 32), (1, .ref a1), (2, iv p2), (3, iv p3)]) dX8_handOver_12 (by decide) rfl ?_
  refine sv_aload (pc := 14) dX8_handOver_14 rfl ?_
  refine sv_aload_n (pc := 16) dX8_handOver_16 rfl rfl ?_
  refine gf_X9_5 (pc := 17) dX8_handOver_17 wF_X8_103 hA1 hT fun A10 => ?_
  refine mr_iload_n (pc := 20) (z := p2) dX8_handOver_20 rfl rfl ?_
  refine mr_iload_n (pc := 21) (z := p3) dX8_handOver_21 rfl rfl ?_
  refine mr_cSP (pc := 22) (c_X9_placeOf_W hw hT hp2 hp3 ((h5.2.1 h5.1) b7 q8 A9)) (gOk _ _ _ _ _) dX8_handOver_22 (tX9_placeOf _ _ _ _ _) wS_X9_placeOf wM_X8_99 ⟨le_t rfl, le_t rfl⟩ ⟨le_t rfl, le_t rfl⟩ rfl (le_t rfl) fun z15 h14 => ?_
  refine la_223 (pc := 25) dX8_handOver_25 A10 hT (rIx (n := 20) h14.1 rfl) fun b16 q17 A18 => ?_
  refine mr_cVV (pc := 26) (c_X7_become_W hw hT A9 A18 ((h14.2.1 h14.1) b16 q17 A18)) (gOk _ _ _ _ _) dX8_handOver_26 (tX7_become _ _ _ _ _) ⟨wV_X7_become, wL_X7_become⟩ wM_X8_106 (gCX7 _ _ _ _ _) rfl A9 rfl ⟨le_t rfl, le_t rfl⟩ ⟨le_t rfl, le_t rfl⟩ rfl (le_t rfl) fun μ19 T20 F21 h22 => ?_
  refine sv_aload (pc := 29) dX8_handOver_29 rfl ?_
  refine sv_aload_n (pc := 31) dX8_handOver_31 rfl rfl ?_
  refine gf_X8_11 (pc := 32) dX8_handOver_32 wF_X8_62 (A_32 hw) T20 fun z23 q24 h25 => ?_
  refine pf_X7_9 (pc := 35) dX8_handOver_35 wF_X8_110 A9 T20 h25 fun μ26 u27 T28 => ?_
  exact mr_vret dX8_handOver_38 rfl (le_t rfl) (le_t rfl) T28 (mF.up (mF.call mF.refl F21 rfl) A9 u27 rfl) ⟨(((h22.1 T20 F21) z23 q24 h25) μ26 u27 T28), trivial⟩
def WP_X8_doNext_W (w : mW) (μ : mM) (p1 : Int) (Q : Int → mM → Prop) : Prop := ∀ z1 : Int, μ 32 10 = z1 → (0 ≤ z1 ∧ z1 ≤ 800 ∧ (z1 = 0 ∨ 0 < w.2.2.2 1)) → ((z1 = 0) → Q (0 : Int) μ) ∧ ((¬ z1 = 0) → ∀ z8 : Int, μ 33 ((0 : Int).toNat) = z8 → (0 ≤ z8 ∧ z8 ≤ 799 ∧ (z8 = 0 ∨ z8 < 40 * w.2.2.2 1)) → ∀ z12 : Int, μ 34 (z8.toNat) = z12 → ((-1) ≤ z12 ∧ z12 ≤ 2000001000) → ((z12 ≤ p1) → ∀ μ17 : mM, mU μ 32 (11) z12 μ17 → mT w μ17 → WP_X8_cancel_W w μ17 z8 (fun μ20 => mT w μ20 → mF [32010, 33999, 34999] w μ17 μ20 → ∀ z24 : Int, μ20 32 12 = z24 → ((-2147483648) ≤ z24 ∧ z24 ≤ 2147483647) → ∀ z27 : Int, (-2147483648 ≤ z27 ∧ z27 ≤ 2147483647) → (z27 - (z24 + 1)) % 4294967296 = 0 → ∀ μ30 : mM, mU μ20 32 (12) z27 μ30 → mT w μ30 → ∀ z33 : Int, z8 / 2 = z33 → ∀ z36 : Int, z33 % 10 = z36 → ∀ z39 : Int, z8 / 2 = z39 → ∀ z42 : Int, z39 / 10 = z42 → ∀ z45 : Int, z42 % 2 = z45 → ∀ z48 : Int, z8 / 2 = z48 → ∀ z51 : Int, z48 / 10 = z51 → ∀ z54 : Int, z51 / 2 = z54 → ∀ z57 : Int, z8 % 2 = z57 → ((¬ z57 = 1) → ∀ b84 : Nat, μ30 11 (z54.toNat) = (b84 : Int) → mAt w b84 220 → WP_X8_handOver_W w μ30 b84 z45 z36 (fun μ87 => mT w μ87 → mF [200002, 200003, 200004, 200005, 200006, 200007, 200008, 200009, 201999, 202999] w μ30 μ87 → WP_X9_end_W w μ87 b84 (1 - z45) (fun z96 _ => (0 ≤ z96 ∧ z96 ≤ 9) → WP_X8_look_W w μ87 z96 z36 (fun μ97 => mT w μ97 → mF [21002, 21003, 21004, 21005, 21006, 21007, 32009, 32010, 33999, 34999, 66999, 200002, 200003, 200004, 200005, 200006, 200007, 200008, 200009, 200010, 200011, 201999, 202999, 213999] w μ87 μ97 → Q (1 : Int) μ97)))) ∧ ((z57 = 1) → WP_X8_say_W w μ30 z54 z45 z36 (fun μ102 => mT w μ102 → mF [21002, 21003, 21004, 21005, 21006, 21007, 32010, 33999, 34999, 200002, 200003, 200004, 200005, 200006, 200007, 200008, 200009, 201999, 202999] w μ30 μ102 → Q (1 : Int) μ102)))) ∧ ((p1 < z12) → Q (0 : Int) μ))
theorem vc_X8_doNext_W_1 {n1 z1 : Int} (h0 : z1 = 0) (h1 : (z1 = 0 ∨ 0 < n1)) (h2 : 0 ≤ z1 ∧ z1 ≤ 800) : 0 ≤ z1 ∧ z1 ≤ 0 := by omega
theorem vc_X8_doNext_W_2 {n1 z1 : Int} (h0 : ¬ z1 = 0) (h1 : (z1 = 0 ∨ 0 < n1)) (h2 : 0 ≤ z1 ∧ z1 ≤ 800) : 1 ≤ z1 ∧ z1 ≤ 800 := by omega
theorem vc_X8_doNext_W_3 {p1 z12 : Int} (h0 : z12 ≤ p1) (h1 : (-1) ≤ p1 ∧ p1 ≤ 2000000000) (h2 : (-1) ≤ z12 ∧ z12 ≤ 2000001000) : (-1) ≤ z12 ∧ z12 ≤ 2000000000 := by omega
theorem vc_X8_doNext_W_4  : (0 : Int) < (2 : Int) ∧ (2 : Int) ≤ (2147483647 : Int) := by omega
theorem vc_X8_doNext_W_5  : (0 : Int) < (10 : Int) ∧ (10 : Int) ≤ (2147483647 : Int) := by omega
theorem vc_X8_doNext_W_6 {z57 z8 : Int} (h0 : ¬ z57 = 1) (h1 : z8 % 2 = z57) (h2 : 0 ≤ z57 ∧ z57 ≤ 1) (h3 : 0 ≤ z8 ∧ z8 ≤ 799) : 0 ≤ z57 ∧ z57 ≤ 0 := by omega
theorem vc_X8_doNext_W_7 {n1 z1 z33 z39 z48 z51 z54 z57 z8 : Int} (h0 : (z1 = 0 ∨ 0 < n1)) (h1 : (z8 = 0 ∨ z8 < 40 * n1)) (h2 : z51 / 2 = z54) (h3 : ¬ z1 = 0) (h4 : z8 / 2 = z33) (h5 : z8 / 2 = z39) (h6 : z8 / 2 = z48) (h7 : z48 / 10 = z51) (h8 : z8 % 2 = z57) (h9 : 1 ≤ z1 ∧ z1 ≤ 800) (h10 : 0 ≤ z33 ∧ z33 ≤ 399) (h11 : 0 ≤ z39 ∧ z39 ≤ 399) (h12 : 0 ≤ z48 ∧ z48 ≤ 399) (h13 : 0 ≤ z51 ∧ z51 ≤ 39) (h14 : 0 ≤ z54 ∧ z54 ≤ 19) (h15 : 0 ≤ z57 ∧ z57 ≤ 0) (h16 : 0 ≤ z8 ∧ z8 ≤ 799) : z54 < n1 := by omega
theorem vc_X8_doNext_W_9 {z57 z8 : Int} (h0 : z57 = 1) (h1 : z8 % 2 = z57) (h2 : 0 ≤ z57 ∧ z57 ≤ 1) (h3 : 0 ≤ z8 ∧ z8 ≤ 799) : 1 ≤ z57 ∧ z57 ≤ 1 := by omega
theorem vc_X8_doNext_W_10 {n1 z1 z33 z39 z48 z51 z54 z57 z8 : Int} (h0 : (z1 = 0 ∨ 0 < n1)) (h1 : (z8 = 0 ∨ z8 < 40 * n1)) (h2 : z51 / 2 = z54) (h3 : ¬ z1 = 0) (h4 : z8 / 2 = z33) (h5 : z8 / 2 = z39) (h6 : z8 / 2 = z48) (h7 : z48 / 10 = z51) (h8 : z8 % 2 = z57) (h9 : 1 ≤ z1 ∧ z1 ≤ 800) (h10 : 0 ≤ z33 ∧ z33 ≤ 399) (h11 : 0 ≤ z39 ∧ z39 ≤ 399) (h12 : 0 ≤ z48 ∧ z48 ≤ 399) (h13 : 0 ≤ z51 ∧ z51 ≤ 39) (h14 : 0 ≤ z54 ∧ z54 ≤ 19) (h15 : 1 ≤ z57 ∧ z57 ≤ 1) (h16 : 0 ≤ z8 ∧ z8 ≤ 799) : z54 < n1 := by omega
theorem vc_X8_doNext_W_11 {p1 z12 : Int} (h0 : p1 < z12) (h1 : (-1) ≤ p1 ∧ p1 ≤ 2000000000) (h2 : (-1) ≤ z12 ∧ z12 ≤ 2000001000) : 0 ≤ z12 ∧ z12 ≤ 2000001000 := by omega
set_option maxRecDepth 4000 in
set_option maxHeartbeats 4000000 in
theorem c_X8_doNext_W {l : Launch} {D : va_G} {c : Nat → ClassId} {H0 : Heap} {sa : Nat × Nat × (Nat → Int32)} {w : mW} {μ : mM} (hw : mWF w) (hT : mT w μ) {p1 : Int} (hp1 : (-1) ≤ p1 ∧ p1 ≤ 2000000000) (hIPC : PC w μ) {Q : Int → mM → Prop} (hQ : WP_X8_doNext_W w μ p1 Q) : sC (gG l D c H0 sa) mX8_doNext 43 0 0 [.ref 32, iv p1] (mk w μ) (qI w [21002, 21003, 21004, 21005, 21006, 21007, 32009, 32010, 32011, 32012, 33999, 34999, 66999, 200002, 200003, 200004, 200005, 200006, 200007, 200008, 200009, 200010, 200011, 201999, 202999, 213999] μ (fun z μ1 => (0 ≤ z ∧ z ≤ 1) ∧ Q z μ1 ∧ True)) := by
  refine sC.of rfl (by decide) (le_t rfl) ?_
  refine mr_lvE (lv' := [(0, .ref 32), (1, iv p1)]) rfl ?_
  refine sv_aload_n (pc := 0) dX8_doNext_0 rfl rfl ?_
  refine gf_X8_10 (pc := 1) dX8_doNext_1 wF_X8_52 (A_32 hw) hT fun z1 q2 h3 => ?_
  have h4 : 0 ≤ z1 ∧ z1 ≤ 800 := ⟨h3.1, h3.2.1⟩
  refine mr_if_eq (pc := 4) (tgt := 22) dX8_doNext_4 (by decide) (r32 h4 rfl) (fun h5 => ?_) (fun h5 => ?_)
  · have h6 : 0 ≤ z1 ∧ z1 ≤ 0 := (vc_X8_doNext_W_1 h5 h3.2.2 h4)
    refine mr_iconst (pc := 22) (z := 0) dX8_doNext_22 ?_
    exact mr_zret dX8_doNext_23 rfl (rW (c := 0) (d := 1) (rR (x := 0)) rfl) (le_t rfl) (le_t rfl) hT mF.refl ⟨(rW (c := 0) (d := 1) (rR (x := 0)) rfl), ((hQ z1 q2 h3).1 h5), trivial⟩
  have h7 : 1 ≤ z1 ∧ z1 ≤ 800 := (vc_X8_doNext_W_2 h5 h3.2.2 h4)
  refine sv_aload_n (pc := 7) dX8_doNext_7 rfl rfl ?_
  refine gf_X8_3 (pc := 8) dX8_doNext_8 wF_X8_23 (A_32 hw) hT ?_
  refine sv_aload_n (pc := 11) dX8_doNext_11 rfl rfl ?_
  refine gf_X8_2 (pc := 12) dX8_doNext_12 wF_X8_19 (A_32 hw) hT ?_
  refine mr_iconst (pc := 15) (z := 0) dX8_doNext_15 ?_
  refine la_33 (pc := 16) dX8_doNext_16 (A_33 hw) hT (rIx (n := 800) (rR (x := 0)) rfl) fun z8 q9 h10 => ?_
  have h11 : 0 ≤ z8 ∧ z8 ≤ 799 := ⟨h10.1, h10.2.1⟩
  refine la_34 (pc := 17) dX8_doNext_17 (A_34 hw) hT (rIx (n := 800) h11 rfl) fun z12 q13 h14 => ?_
  refine mr_iload_n (pc := 18) (z := p1) dX8_doNext_18 rfl rfl ?_
  refine mr_icmp_le (pc := 19) (tgt := 24) dX8_doNext_19 (by decide) (r32 h14 rfl) (r32 hp1 rfl) (fun h15 => ?_) (fun h15 => ?_)
  · have h16 : (-1) ≤ z12 ∧ z12 ≤ 2000000000 := (vc_X8_doNext_W_3 h15 hp1 h14)
    refine sv_aload_n (pc := 24) dX8_doNext_24 rfl rfl ?_
    refine gf_X8_2 (pc := 25) dX8_doNext_25 wF_X8_19 (A_32 hw) hT ?_
    refine mr_iconst (pc := 28) (z := 0) dX8_doNext_28 ?_
    refine lk_33 (pc := 29) dX8_doNext_29 (A_33 hw) (rIx (n := 800) (rR (x := 0)) rfl) q9 ?_
    refine mr_istore_n (pc := 30) (lv' := [(2, iv z8), (0, .ref 32), (1, iv p1)]) dX8_doNext_30 rfl (by decide) rfl ?_
    refine sv_aload_n (pc := 31) dX8_doNext_31 rfl rfl ?_
    refine sv_aload_n (pc := 32) dX8_doNext_32 rfl rfl ?_
    refine gf_X8_3 (pc := 33) dX8_doNext_33 wF_X8_23 (A_32 hw) hT ?_
    refine mr_iload_n (pc := 36) (z := z8) dX8_doNext_36 rfl rfl ?_
    refine lk_34 (pc := 37) dX8_doNext_37 (A_34 hw) (rIx (n := 800) h11 rfl) q13 ?_
    refine pf_X8_11 (pc := 38) dX8_doNext_38 wF_X8_62 (A_32 hw) hT h16 fun μ17 u18 T19 => ?_
    refine sv_aload_n (pc := 41) dX8_doNext_41 rfl rfl ?_
    refine mr_iload_n (pc := 42) (z := z8) dX8_doNext_42 rfl rfl ?_
    refine mr_cVV (pc := 43) (c_X8_cancel_W hw T19 h11 ((((((hQ z1 q2 h3).2 h5) z8 q9 h10) z12 q13 h14).1 h15) μ17 u18 T19)) (gOk _ _ _ _ _) dX8_doNext_43 (tX8_cancel _ _ _ _ _) ⟨wV_X8_cancel, wL_X8_cancel⟩ wM_X8_65 (gCX8 _ _ _ _ _) rfl (A_32 hw) rfl ⟨le_t rfl, le_t rfl⟩ ⟨le_t rfl, le_t rfl⟩ rfl (le_t rfl) fun μ20 T21 F22 h23 => ?_
    refine sv_aload_n (pc := 46) dX8_doNext_46 rfl rfl ?_
    refine sv_dup (pc := 47) dX8_doNext_47 rfl ?_
    refine gf_X8_12 (pc := 48) dX8_doNext_48 wF_X8_69 (A_32 hw) T21 fun z24 q25 h26 => ?_
    refine mr_iconst (pc := 51) (z := 1) dX8_doNext_51 ?_
    refine mr_iadd (pc := 52) (x := z24) (y := 1) dX8_doNext_52 ?_
    refine mr_wrapF fun z27 h28 h29 => ?_
    refine pf_X8_12 (pc := 53) dX8_doNext_53 wF_X8_69 (A_32 hw) T21 h28 fun μ30 u31 T32 => ?_
    refine mr_iload_n (pc := 56) (z := z8) dX8_doNext_56 rfl rfl ?_
    refine mr_iconst (pc := 57) (z := 2) dX8_doNext_57 ?_
    refine mr_idiv (pc := 58) (x := z8) (y := 2) dX8_doNext_58 (rW (c := 0) (d := 2147483647) h11 rfl) vc_X8_doNext_W_4 ?_
    refine mr_gen (P := fun z => 0 ≤ z ∧ z ≤ 399) (rDiv h11 rfl) fun z33 q34 h35 => ?_
    refine mr_bipush (pc := 59) (z := 10) dX8_doNext_59 (by decide) ?_
    refine mr_irem (pc := 61) (x := z33) (y := 10) dX8_doNext_61 (rW (c := 0) (d := 2147483647) h35 rfl) vc_X8_doNext_W_5 ?_
    refine mr_gen (P := fun z => 0 ≤ z ∧ z ≤ 9) (rMod h35 rfl) fun z36 q37 h38 => ?_
    refine mr_istore_n (pc := 62) (lv' := [(3, iv z36), (2, iv z8), (0, .ref 32), (1, iv p1)]) dX8_doNext_62 rfl (by decide) rfl ?_
    refine mr_iload_n (pc := 63) (z := z8) dX8_doNext_63 rfl rfl ?_
    refine mr_iconst (pc := 64) (z := 2) dX8_doNext_64 ?_
    refine mr_idiv (pc := 65) (x := z8) (y := 2) dX8_doNext_65 (rW (c := 0) (d := 2147483647) h11 rfl) vc_X8_doNext_W_4 ?_
    refine mr_gen (P := fun z => 0 ≤ z ∧ z ≤ 399) (rDiv h11 rfl) fun z39 q40 h41 => ?_
    refine mr_bipush (pc := 66) (z := 10) dX8_doNext_66 (by decide) ?_
    refine mr_idiv (pc := 68) (x := z39) (y := 10) dX8_doNext_68 (rW (c := 0) (d := 2147483647) h41 rfl) vc_X8_doNext_W_5 ?_
    refine mr_gen (P := fun z => 0 ≤ z ∧ z ≤ 39) (rDiv h41 rfl) fun z42 q43 h44 => ?_
    refine mr_iconst (pc := 69) (z := 2) dX8_doNext_69 ?_
    refine mr_irem (pc := 70) (x := z42) (y := 2) dX8_doNext_70 (rW (c := 0) (d := 2147483647) h44 rfl) vc_X8_doNext_W_4 ?_
    refine mr_gen (P := fun z => 0 ≤ z ∧ z ≤ 1) (rMod h44 rfl) fun z45 q46 h47 => ?_
    refine mr_istore (pc := 71) (lv' := [(4, iv z45), (3, iv z36), (2, iv z8), (0, .ref 32), (1, iv p1)]) dX8_doNext_71 (by decide) rfl ?_
    refine mr_iload_n (pc := 73) (z := z8) dX8_doNext_73 rfl rfl ?_
    refine mr_iconst (pc := 74) (z := 2) dX8_doNext_74 ?_
    refine mr_idiv (pc := 75) (x := z8) (y := 2) dX8_doNext_75 (rW (c := 0) (d := 2147483647) h11 rfl) vc_X8_doNext_W_4 ?_
    refine mr_gen (P := fun z => 0 ≤ z ∧ z ≤ 399) (rDiv h11 rfl) fun z48 q49 h50 => ?_
    refine mr_bipush (pc := 76) (z := 10) dX8_doNext_76 (by decide) ?_
    refine mr_idiv (pc := 78) (x := z48) (y := 10) dX8_doNext_78 (rW (c := 0) (d := 2147483647) h50 rfl) vc_X8_doNext_W_5 ?_
    refine mr_gen (P := fun z => 0 ≤ z ∧ z ≤ 39) (rDiv h50 rfl) fun z51 q52 h53 => ?_
    refine mr_iconst (pc := 79) (z := 2) dX8_doNext_79 ?_
    refine mr_idiv (pc := 80) (x := z51) (y := 2) dX8_doNext_80 (rW (c := 0) (d := 2147483647) h53 rfl) vc_X8_doNext_W_4 ?_
    refine mr_gen (P := fun z => 0 ≤ z ∧ z ≤ 19) (rDiv h53 rfl) fun z54 q55 h56 => ?_
    refine mr_istore (pc := 81) (lv' := [(5, iv z54), (4, iv z45), (3, iv z36), (2, iv z8), (0, .ref 32), (1, iv p1)]) dX8_doNext_81 (by decide) rfl ?_
    refine mr_iload_n (pc := 83) (z := z8) dX8_doNext_83 rfl rfl ?_
    refine mr_iconst (pc := 84) (z := 2) dX8_doNext_84 ?_
    refine mr_irem (pc := 85) (x := z8) (y := 2) dX8_doNext_85 (rW (c := 0) (d := 2147483647) h11 rfl) vc_X8_doNext_W_4 ?_
    refine mr_gen (P := fun z => 0 ≤ z ∧ z ≤ 1) (rMod h11 rfl) fun z57 q58 h59 => ?_
    refine mr_iconst (pc := 86) (z := 1) dX8_doNext_86 ?_
    refine mr_icmp_ne (pc := 87) (tgt := 102) dX8_doNext_87 (by decide) (r32 h59 rfl) (r32 (rR (x := 1)) rfl) (fun h82 => ?_) (fun h82 => ?_)
    · have h83 : 0 ≤ z57 ∧ z57 ≤ 0 := (vc_X8_doNext_W_6 h82 q58 h59 h11)
      refine sv_aload_n (pc := 102) dX8_doNext_102 rfl rfl ?_
      refine sv_aload_n (pc := 103) dX8_doNext_103 rfl rfl ?_
      refine gf_X8_0 (pc := 104) dX8_doNext_104 wF_X8_9 (A_32 hw) T32 ?_
      refine gf_X10_4 (pc := 107) dX8_doNext_107 wF_X8_76 (A_6 hw) T32 ?_
      refine mr_iload (pc := 110) (z := z54) dX8_doNext_110 rfl ?_
      refine la_11 (pc := 112) dX8_doNext_112 (A_11 hw) T32 (rIx (n := 20) h56 rfl) (vc_X8_doNext_W_7 h3.2.2 h10.2.2 q55 h5 q34 q40 q49 q52 q58 h7 h35 h41 h50 h53 h56 h83 h11) fun b84 q85 A86 => ?_
      refine mr_iload (pc := 113) (z := z45) dX8_doNext_113 rfl ?_
      refine mr_iload_n (pc := 115) (z := z36) dX8_doNext_115 rfl rfl ?_
      have W91 := (((((((((((((((h23.1 T21 F22) z24 q25 h26) z27 h28 h29) μ30 u31 T32) z33 q34) z36 q37) z39 q40) z42 q43) z45 q46) z48 q49) z51 q52) z54 q55) z57 q58).1 h82) b84 q85 A86)
      refine mr_cVV (pc := 116) (c_X8_handOver_W hw T32 A86 h47 h38 W91) (gOk _ _ _ _ _) dX8_doNext_116 (tX8_handOver _ _ _ _ _) ⟨wV_X8_handOver, wL_X8_handOver⟩ wM_X8_82 (gCX8 _ _ _ _ _) rfl (A_32 hw) rfl ⟨le_t rfl, le_t rfl⟩ ⟨le_t rfl, le_t rfl⟩ rfl (le_t rfl) fun μ87 T88 F89 h90 => ?_
      refine sv_aload_n (pc := 119) dX8_doNext_119 rfl rfl ?_
      refine sv_aload_n (pc := 120) dX8_doNext_120 rfl rfl ?_
      refine gf_X8_0 (pc := 121) dX8_doNext_121 wF_X8_9 (A_32 hw) T88 ?_
      refine gf_X10_4 (pc := 124) dX8_doNext_124 wF_X8_76 (A_6 hw) T88 ?_
      refine mr_iload (pc := 127) (z := z54) dX8_doNext_127 rfl ?_
      refine lk_11 (pc := 129) dX8_doNext_129 (A_11 hw) (rIx (n := 20) h56 rfl) (F89.f (A_11 hw) rfl q85) ?_
      refine mr_iconst (pc := 130) (z := 1) dX8_doNext_130 ?_
      refine mr_iload (pc := 131) (z := z45) dX8_doNext_131 rfl ?_
      refine mr_isub (pc := 133) (x := 1) (y := z45) dX8_doNext_133 ?_
      refine mr_cVP (pc := 134) (c_X9_end_W hw T88 A86 (rW (c := (-2147483648)) (d := 2147483647) (rSub (e := 0) (f := 1) (rR (x := 1)) h47 rfl) rfl) (h90.1 T88 F89)) (gOk _ _ _ _ _) dX8_doNext_134 (tX9_end _ _ _ _ _) ⟨wV_X9_end, wL_X9_end⟩ wM_X8_86 (gCX9 _ _ _ _ _) rfl A86 rfl ⟨le_t rfl, le_t rfl⟩ ⟨le_t rfl, le_t rfl⟩ rfl (le_t rfl) fun z96 h95 => ?_
      refine mr_iload_n (pc := 137) (z := z36) dX8_doNext_137 rfl rfl ?_
      refine mr_cVV (pc := 138) (c_X8_look_W hw T88 h95.1 h38 (vc_X9_end_1 h95.2.1 h95.1) (PC.keep hIPC hw ((mF.call (mF.up (mF.call (mF.up mF.refl (A_32 hw) u18 rfl) F22 rfl) (A_32 hw) u31 rfl) F89 rfl) : mF [32010, 32011, 32012, 33999, 34999, 200002, 200003, 200004, 200005, 200006, 200007, 200008, 200009, 201999, 202999] w μ μ87) rfl) (h95.2.2.1 h95.1)) (gOk _ _ _ _ _) dX8_doNext_138 (tX8_look _ _ _ _ _) ⟨wV_X8_look, wL_X8_look⟩ wM_X8_92 (gCX8 _ _ _ _ _) rfl (A_32 hw) rfl ⟨le_t rfl, le_t rfl⟩ ⟨le_t rfl, le_t rfl⟩ rfl (le_t rfl) fun μ97 T98 F99 h100 => ?_
      refine mr_iconst (pc := 141) (z := 1) dX8_doNext_141 ?_
      exact mr_zret dX8_doNext_142 rfl (rW (c := 0) (d := 1) (rR (x := 1)) rfl) (le_t rfl) (le_t rfl) T98 (mF.call (mF.call (mF.up (mF.call (mF.up mF.refl (A_32 hw) u18 rfl) F22 rfl) (A_32 hw) u31 rfl) F89 rfl) F99 rfl) ⟨(rW (c := 0) (d := 1) (rR (x := 1)) rfl), (h100.1 T98 F99), trivial⟩
    have h101 : 1 ≤ z57 ∧ z57 ≤ 1 := (vc_X8_doNext_W_9 h82 q58 h59 h11)
    refine sv_aload_n (pc := 90) dX8_doNext_90 rfl rfl ?_
    refine mr_iload (pc := 91) (z := z54) dX8_doNext_91 rfl ?_
    refine mr_iload (pc := 93) (z := z45) dX8_doNext_93 rfl ?_
    refine mr_iload_n (pc := 95) (z := z36) dX8_doNext_95 rfl rfl ?_
    have W106 := ((((((((((((((h23.1 T21 F22) z24 q25 h26) z27 h28 h29) μ30 u31 T32) z33 q34) z36 q37) z39 q40) z42 q43) z45 q46) z48 q49) z51 q52) z54 q55) z57 q58).2 h82)
    refine mr_cVV (pc := 96) (c_X8_say_W hw T32 h56 h47 h38 (vc_X8_doNext_W_10 h3.2.2 h10.2.2 q55 h5 q34 q40 q49 q52 q58 h7 h35 h41 h50 h53 h56 h101 h11) (PC.keep hIPC hw ((mF.up (mF.call (mF.up mF.refl (A_32 hw) u18 rfl) F22 rfl) (A_32 hw) u31 rfl) : mF [32010, 32011, 32012, 33999, 34999] w μ μ30) rfl) W106) (gOk _ _ _ _ _) dX8_doNext_96 (tX8_say _ _ _ _ _) ⟨wV_X8_say, wL_X8_say⟩ wM_X8_72 (gCX8 _ _ _ _ _) rfl (A_32 hw) rfl ⟨le_t rfl, le_t rfl⟩ ⟨le_t rfl, le_t rfl⟩ rfl (le_t rfl) fun μ102 T103 F104 h105 => ?_
    refine sv_goto (pc := 99) (tgt := 141) dX8_doNext_99 (by decide) ?_
    refine mr_iconst (pc := 141) (z := 1) dX8_doNext_141 ?_
    exact mr_zret dX8_doNext_142 rfl (rW (c := 0) (d := 1) (rR (x := 1)) rfl) (le_t rfl) (le_t rfl) T103 (mF.call (mF.up (mF.call (mF.up mF.refl (A_32 hw) u18 rfl) F22 rfl) (A_32 hw) u31 rfl) F104 rfl) ⟨(rW (c := 0) (d := 1) (rR (x := 1)) rfl), (h105.1 T103 F104), trivial⟩
  have h107 : 0 ≤ z12 ∧ z12 ≤ 2000001000 := (vc_X8_doNext_W_11 h15 hp1 h14)
  refine mr_iconst (pc := 22) (z := 0) dX8_doNext_22 ?_
  exact mr_zret dX8_doNext_23 rfl (rW (c := 0) (d := 1) (rR (x := 0)) rfl) (le_t rfl) (le_t rfl) hT mF.refl ⟨(rW (c := 0) (d := 1) (rR (x := 0)) rfl), (((((hQ z1 q2 h3).2 h5) z8 q9 h10) z12 q13 h14).2 h15), trivial⟩
def WP_X12_eventAt_Wf (w : mW) (μ : mM) (p1 : Int) (Q : Int → mM → Prop) : Prop := ((400 ≤ p1) → ∀ z3 : Int, μ 159 ((p1 - 400).toNat) = z3 → ((-1) ≤ z3 ∧ z3 ≤ 2000001000) → Q z3 μ) ∧ ((p1 < 400) → ∀ z7 : Int, μ 157 (p1.toNat) = z7 → ((-1) ≤ z7 ∧ z7 ≤ 2000001000) → Q z7 μ)
theorem vc_X12_eventAt_Wf_1 {p1 : Int} (h0 : 400 ≤ p1) (h1 : 0 ≤ p1 ∧ p1 ≤ 799) : 400 ≤ p1 ∧ p1 ≤ 799 := by omega
theorem vc_X12_eventAt_Wf_2 {p1 : Int} (h0 : 400 ≤ p1) (h1 : 400 ≤ p1 ∧ p1 ≤ 799) : 400 ≤ p1 := by omega
theorem vc_X12_eventAt_Wf_3 {p1 : Int} (h0 : p1 < 400) (h1 : 0 ≤ p1 ∧ p1 ≤ 799) : 0 ≤ p1 ∧ p1 ≤ 399 := by omega
theorem vc_X12_eventAt_Wf_4 {p1 : Int} (h0 : p1 < 400) (h1 : 0 ≤ p1 ∧ p1 ≤ 399) : p1 < 400 := by omega
set_option maxRecDepth 4000 in
set_option maxHeartbeats 4000000 in
theorem c_X12_eventAt_Wf {l : Launch} {D : va_G} {c : Nat → ClassId} {H0 : Heap} {sa : Nat × Nat × (Nat → Int32)} {w : mW} {μ : mM} (hw : mWF w) (hT : mT w μ) {p1 : Int} (hp1 : 0 ≤ p1 ∧ p1 ≤ 799) {Q : Int → mM → Prop} (hQ : WP_X12_eventAt_Wf w μ p1 Q) : sC (gG l D c H0 sa) mX12_eventAt 1 0 0 [.ref 106, iv p1] (mk w μ) (qP w μ (fun z => ((-1) ≤ z ∧ z ≤ 2000001000) ∧ z = evF μ p1 ∧ Q z μ ∧ True)) := by
  refine sC.of rfl (by decide) (le_t rfl) ?_
  refine mr_lvE (lv' := [(0, .ref 106), (1, iv p1)]) rfl ?_
  refine mr_iload_n (pc := 0) (z := p1) dX12_eventAt_0 rfl rfl ?_
  refine mr_sipush (pc := 1) (z := 400) dX12_eventAt_1 (by decide) ?_
  refine mr_icmp_ge (pc := 4) (tgt := 16) dX12_eventAt_4 (by decide) (r32 hp1 rfl) (r32 (rR (x := 400)) rfl) (fun h1 => ?_) (fun h1 => ?_)
  · have h2 : 400 ≤ p1 ∧ p1 ≤ 799 := (vc_X12_eventAt_Wf_1 h1 hp1)
    refine sv_aload_n (pc := 16) dX12_eventAt_16 rfl rfl ?_
    refine gf_X12_79 (pc := 17) dX12_eventAt_17 wF_X12_439 (A_106 hw) hT ?_
    refine mr_iload_n (pc := 20) (z := p1) dX12_eventAt_20 rfl rfl ?_
    refine mr_sipush (pc := 21) (z := 400) dX12_eventAt_21 (by decide) ?_
    refine mr_isub (pc := 24) (x := p1) (y := 400) dX12_eventAt_24 ?_
    refine la_159 (pc := 25) dX12_eventAt_25 (A_159 hw) hT (rIx (n := 400) (rSub (e := 0) (f := 399) h2 (rR (x := 400)) rfl) rfl) fun z3 q4 h5 => ?_
    exact mr_iretP dX12_eventAt_26 rfl (le_t rfl) (le_t rfl) ⟨h5, (evF.hi (vc_X12_eventAt_Wf_2 h1 h2) rfl q4), ((hQ.1 h1) z3 q4 h5), trivial⟩
  have h6 : 0 ≤ p1 ∧ p1 ≤ 399 := (vc_X12_eventAt_Wf_3 h1 hp1)
  refine sv_aload_n (pc := 7) dX12_eventAt_7 rfl rfl ?_
  refine gf_X12_77 (pc := 8) dX12_eventAt_8 wF_X12_433 (A_106 hw) hT ?_
  refine mr_iload_n (pc := 11) (z := p1) dX12_eventAt_11 rfl rfl ?_
  refine la_157 (pc := 12) dX12_eventAt_12 (A_157 hw) hT (rIx (n := 400) h6 rfl) fun z7 q8 h9 => ?_
  refine sv_goto (pc := 13) (tgt := 26) dX12_eventAt_13 (by decide) ?_
  exact mr_iretP dX12_eventAt_26 rfl (le_t rfl) (le_t rfl) ⟨h9, (evF.lo (vc_X12_eventAt_Wf_4 h1 h6) q8), ((hQ.2 h1) z7 q8 h9), trivial⟩
def WP_X12_doEvent_W (w : mW) (μ : mM) (p1 : Int) (Q : mM → Prop) : Prop := ∀ f_ties : Int, μ 106 6 = f_ties → (0 ≤ f_ties ∧ f_ties ≤ 20) → WP_X12_eventAt_Wf w μ p1 (fun z266 _ => ((-1) ≤ z266 ∧ z266 ≤ 2000001000) → ∀ μ268 : mM, mU μ 106 (71) z266 μ268 → mT w μ268 → ∀ z271 : Int, μ268 106 73 = z271 → ((-2147483648) ≤ z271 ∧ z271 ≤ 2147483647) → ∀ z274 : Int, (-2147483648 ≤ z274 ∧ z274 ≤ 2147483647) → (z274 - (z271 + 1)) % 4294967296 = 0 → ∀ μ277 : mM, mU μ268 106 (73) z274 μ277 → mT w μ277 → ∀ z280 : Int, p1 % 400 = z280 → ∀ z284 : Int, z280 / 20 = z284 → ∀ z287 : Int, z280 / 10 = z287 → ∀ z290 : Int, z287 % 2 = z290 → ∀ z293 : Int, z280 % 10 = z293 → ((p1 < 400) → ∀ μ298 : mM, mU μ277 157 (z280.toNat) ((-1) : Int) μ298 → mT w μ298 → WP_X12_slot_W w μ298 z284 (1 - z290) z293 (fun z306 _ => (0 ≤ z306 ∧ z306 ≤ 449) → ∀ z309 : Int, μ298 126 ((40 * (930 + z280)).toNat) = z309 → ((-2147483648 ≤ z309 ∧ z309 ≤ 2147483647) ∧ ((40 * (930 + z280)) % 40 = 0 → -1 ≤ z309 ∧ z309 ≤ 9) ∧ ((40 * (930 + z280)) % 40 = 4 → 0 ≤ z309 ∧ z309 ≤ 20) ∧ ((40 * (930 + z280)) % 40 = 5 → 0 ≤ z309 ∧ z309 ≤ 8)) → WP_X12_copy_W w μ298 (930 + z280) (130 + z306) (fun μ313 => mT w μ313 → mF [126999] w μ298 μ313 → ∀ z317 : Int, μ313 126 ((40 * (130 + z306)).toNat) = z317 → ∀ μ323 : mM, mU μ313 154 (z306.toNat) z266 μ323 → mT w μ323 → ∀ z326 : Int, μ323 110 ((((2 * z284) + 1) - z290).toNat) = z326 → (0 ≤ z326 ∧ z326 ≤ 9) → WP_X12_look_W w μ323 z326 z293 (fun μ329 => mT w μ329 → mF [106026, 106027, 106028, 106029, 106030, 106031, 106072, 126999, 151999, 152999, 153999, 155999, 156999, 157999, 158999, 159999, 160999, 161999, 165999] w μ323 μ329 → Q μ329)))) ∧ ((400 ≤ p1) → ∀ μ334 : mM, mU μ277 159 (z280.toNat) ((-1) : Int) μ334 → mT w μ334 → ∀ z338 : Int, μ334 110 ((2 * z284).toNat) = z338 → (0 ≤ z338 ∧ z338 ≤ 9) → ∀ z341 : Int, μ334 110 (((2 * z284) + 1).toNat) = z341 → (0 ≤ z341 ∧ z341 ≤ 9) → ((z290 = 0) → WP_X12_say_W w μ334 z338 z284 z293 (fun μ347 => mT w μ347 → mF [106026, 106027, 106028, 106029, 106030, 106031, 106072, 126999, 151999, 152999, 153999, 155999, 156999, 157999, 158999, 159999, 160999] w μ334 μ347 → Q μ347)) ∧ (¬ (z290 = 0) → WP_X12_say_W w μ334 z341 z284 z293 (fun μ352 => mT w μ352 → mF [106026, 106027, 106028, 106029, 106030, 106031, 106072, 126999, 151999, 152999, 153999, 155999, 156999, 157999, 158999, 159999, 160999] w μ334 μ352 → Q μ352))))
theorem vc_X12_doEvent_W_1  : (0 : Int) < (400 : Int) ∧ (400 : Int) ≤ (2147483647 : Int) := by omega
theorem vc_X12_doEvent_W_2  : (0 : Int) < (20 : Int) ∧ (20 : Int) ≤ (2147483647 : Int) := by omega
theorem vc_X12_doEvent_W_5 {p1 z280 : Int} (h0 : p1 < 400) (h1 : p1 % 400 = z280) (h2 : 0 ≤ p1 ∧ p1 ≤ 799) (h3 : 0 ≤ z280 ∧ z280 ≤ 399) : 0 ≤ p1 ∧ p1 ≤ 399 := by omega
theorem vc_X12_doEvent_W_6 {f_ties p1 z280 z284 z287 z290 z293 : Int} (h0 : p1 % 400 = z280) (h1 : z280 < 20 * f_ties) (h2 : z280 / 20 = z284) (h3 : z280 / 10 = z287) (h4 : z280 % 10 = z293) (h5 : z287 % 2 = z290) (h6 : p1 < 400) (h7 : 0 ≤ f_ties ∧ f_ties ≤ 20) (h8 : 0 ≤ p1 ∧ p1 ≤ 399) (h9 : 0 ≤ z280 ∧ z280 ≤ 399) (h10 : 0 ≤ z284 ∧ z284 ≤ 19) (h11 : 0 ≤ z287 ∧ z287 ≤ 39) (h12 : 0 ≤ z290 ∧ z290 ≤ 1) (h13 : 0 ≤ z293 ∧ z293 ≤ 9) : 0 ≤ z280 := by omega
theorem vc_X12_doEvent_W_7 {f_ties p1 z280 z284 z287 z290 z293 : Int} (h0 : p1 % 400 = z280) (h1 : z280 < 20 * f_ties) (h2 : z280 / 20 = z284) (h3 : z280 / 10 = z287) (h4 : z280 % 10 = z293) (h5 : z287 % 2 = z290) (h6 : p1 < 400) (h7 : 0 ≤ f_ties ∧ f_ties ≤ 20) (h8 : 0 ≤ p1 ∧ p1 ≤ 399) (h9 : 0 ≤ z280 ∧ z280 ≤ 399) (h10 : 0 ≤ z284 ∧ z284 ≤ 19) (h11 : 0 ≤ z287 ∧ z287 ≤ 39) (h12 : 0 ≤ z290 ∧ z290 ≤ 1) (h13 : 0 ≤ z293 ∧ z293 ≤ 9) : ((-1) : Int) < 0 ∨ z280 < 20 * f_ties := by omega
theorem vc_X12_doEvent_W_8 {z280 z284 z287 z290 z293 z306 : Int} (h0 : z306 = (((20 * z284) + (10 * (1 - z290))) + z293)) (h1 : z280 / 20 = z284) (h2 : z287 % 2 = z290) (h3 : z280 % 10 = z293) (h4 : 0 ≤ z280 ∧ z280 ≤ 399) (h5 : 0 ≤ z284 ∧ z284 ≤ 19) (h6 : 0 ≤ z287 ∧ z287 ≤ 39) (h7 : 0 ≤ z290 ∧ z290 ≤ 1) (h8 : 0 ≤ z293 ∧ z293 ≤ 9) (h9 : 0 ≤ z306 ∧ z306 ≤ 449) : 0 ≤ z306 ∧ z306 ≤ 399 := by omega
theorem vc_X12_doEvent_W_9 {f_ties p1 z280 z284 z287 z290 z293 z306 : Int} (h0 : p1 % 400 = z280) (h1 : z280 < 20 * f_ties) (h2 : z280 / 20 = z284) (h3 : z280 / 10 = z287) (h4 : z280 % 10 = z293) (h5 : z287 % 2 = z290) (h6 : p1 < 400) (h7 : z306 = (((20 * z284) + (10 * (1 - z290))) + z293)) (h8 : 0 ≤ f_ties ∧ f_ties ≤ 20) (h9 : 0 ≤ p1 ∧ p1 ≤ 399) (h10 : 0 ≤ z280 ∧ z280 ≤ 399) (h11 : 0 ≤ z284 ∧ z284 ≤ 19) (h12 : 0 ≤ z287 ∧ z287 ≤ 39) (h13 : 0 ≤ z290 ∧ z290 ≤ 1) (h14 : 0 ≤ z293 ∧ z293 ≤ 9) (h15 : 0 ≤ z306 ∧ z306 ≤ 399) : 0 ≤ (40 * (930 + z280)) := by omega
theorem vc_X12_doEvent_W_10 {f_ties p1 z280 z284 z287 z290 z293 z306 : Int} (h0 : p1 % 400 = z280) (h1 : z280 < 20 * f_ties) (h2 : z280 / 20 = z284) (h3 : z280 / 10 = z287) (h4 : z280 % 10 = z293) (h5 : z287 % 2 = z290) (h6 : p1 < 400) (h7 : z306 = (((20 * z284) + (10 * (1 - z290))) + z293)) (h8 : 0 ≤ f_ties ∧ f_ties ≤ 20) (h9 : 0 ≤ p1 ∧ p1 ≤ 399) (h10 : 0 ≤ z280 ∧ z280 ≤ 399) (h11 : 0 ≤ z284 ∧ z284 ≤ 19) (h12 : 0 ≤ z287 ∧ z287 ≤ 39) (h13 : 0 ≤ z290 ∧ z290 ≤ 1) (h14 : 0 ≤ z293 ∧ z293 ≤ 9) (h15 : 0 ≤ z306 ∧ z306 ≤ 399) : (40 * (930 + z280)) % 40 = 0 := by omega
theorem vc_X12_doEvent_W_11 {f_ties p1 z280 z284 z287 z290 z293 z306 : Int} (h0 : p1 % 400 = z280) (h1 : z280 < 20 * f_ties) (h2 : z280 / 20 = z284) (h3 : z280 / 10 = z287) (h4 : z280 % 10 = z293) (h5 : z306 = (((20 * z284) + (10 * (1 - z290))) + z293)) (h6 : z287 % 2 = z290) (h7 : p1 < 400) (h8 : 0 ≤ f_ties ∧ f_ties ≤ 20) (h9 : 0 ≤ p1 ∧ p1 ≤ 399) (h10 : 0 ≤ z280 ∧ z280 ≤ 399) (h11 : 0 ≤ z284 ∧ z284 ≤ 19) (h12 : 0 ≤ z287 ∧ z287 ≤ 39) (h13 : 0 ≤ z290 ∧ z290 ≤ 1) (h14 : 0 ≤ z293 ∧ z293 ≤ 9) (h15 : 0 ≤ z306 ∧ z306 ≤ 399) : (930 + z280) < (130 + z306) ∨ (130 + z306) < (930 + z280) := by omega
theorem vc_X12_doEvent_W_12 {z280 z284 z287 z290 z293 z306 : Int} (h0 : z306 = (((20 * z284) + (10 * (1 - z290))) + z293)) (h1 : z280 / 20 = z284) (h2 : z287 % 2 = z290) (h3 : z280 % 10 = z293) (h4 : 0 ≤ z280 ∧ z280 ≤ 399) (h5 : 0 ≤ z284 ∧ z284 ≤ 19) (h6 : 0 ≤ z287 ∧ z287 ≤ 39) (h7 : 0 ≤ z290 ∧ z290 ≤ 1) (h8 : 0 ≤ z293 ∧ z293 ≤ 9) (h9 : 0 ≤ z306 ∧ z306 ≤ 399) : 0 ≤ (40 * (130 + z306)) := by omega
theorem vc_X12_doEvent_W_13 {z280 z284 z287 z290 z293 z306 : Int} (h0 : z306 = (((20 * z284) + (10 * (1 - z290))) + z293)) (h1 : z280 / 20 = z284) (h2 : z287 % 2 = z290) (h3 : z280 % 10 = z293) (h4 : 0 ≤ z280 ∧ z280 ≤ 399) (h5 : 0 ≤ z284 ∧ z284 ≤ 19) (h6 : 0 ≤ z287 ∧ z287 ≤ 39) (h7 : 0 ≤ z290 ∧ z290 ≤ 1) (h8 : 0 ≤ z293 ∧ z293 ≤ 9) (h9 : 0 ≤ z306 ∧ z306 ≤ 399) : (40 * (130 + z306)) % 40 = 0 := by omega
theorem vc_X12_doEvent_W_14 {z280 z284 z287 z290 z293 z306 : Int} (h0 : z306 = (((20 * z284) + (10 * (1 - z290))) + z293)) (h1 : z280 / 20 = z284) (h2 : z287 % 2 = z290) (h3 : z280 % 10 = z293) (h4 : 0 ≤ z280 ∧ z280 ≤ 399) (h5 : 0 ≤ z284 ∧ z284 ≤ 19) (h6 : 0 ≤ z287 ∧ z287 ≤ 39) (h7 : 0 ≤ z290 ∧ z290 ≤ 1) (h8 : 0 ≤ z293 ∧ z293 ≤ 9) (h9 : 0 ≤ z306 ∧ z306 ≤ 399) : (40 * (130 + z306)) ≤ (40 * (130 + z306)) ∧ ((40 * (130 + z306)) + 40) ≤ ((40 * (130 + z306)) + 40) := by omega
theorem vc_X12_doEvent_W_15 {z280 z284 z287 z290 z293 z306 : Int} (h0 : z306 = (((20 * z284) + (10 * (1 - z290))) + z293)) (h1 : z280 / 20 = z284) (h2 : z287 % 2 = z290) (h3 : z280 % 10 = z293) (h4 : 0 ≤ z280 ∧ z280 ≤ 399) (h5 : 0 ≤ z284 ∧ z284 ≤ 19) (h6 : 0 ≤ z287 ∧ z287 ≤ 39) (h7 : 0 ≤ z290 ∧ z290 ≤ 1) (h8 : 0 ≤ z293 ∧ z293 ≤ 9) (h9 : 0 ≤ z306 ∧ z306 ≤ 399) : (1 ≤ (40 * (130 + z306)) ∧ ((40 * (130 + z306)) + 40) ≤ 1200) ∨ 5200 ≤ (40 * (130 + z306)) := by omega
theorem vc_X12_doEvent_W_16 {p1 z280 : Int} (h0 : 400 ≤ p1) (h1 : p1 % 400 = z280) (h2 : 0 ≤ p1 ∧ p1 ≤ 799) (h3 : 0 ≤ z280 ∧ z280 ≤ 399) : 400 ≤ p1 ∧ p1 ≤ 799 := by omega
theorem vc_X12_doEvent_W_17 {f_ties p1 z280 z284 z287 z290 z293 : Int} (h0 : p1 % 400 = z280) (h1 : z280 < 20 * f_ties) (h2 : z280 / 20 = z284) (h3 : z280 / 10 = z287) (h4 : z280 % 10 = z293) (h5 : z287 % 2 = z290) (h6 : 400 ≤ p1) (h7 : 0 ≤ f_ties ∧ f_ties ≤ 20) (h8 : 400 ≤ p1 ∧ p1 ≤ 799) (h9 : 0 ≤ z280 ∧ z280 ≤ 399) (h10 : 0 ≤ z284 ∧ z284 ≤ 19) (h11 : 0 ≤ z287 ∧ z287 ≤ 39) (h12 : 0 ≤ z290 ∧ z290 ≤ 1) (h13 : 0 ≤ z293 ∧ z293 ≤ 9) : 0 ≤ z280 := by omega
theorem vc_X12_doEvent_W_18 {f_ties p1 z280 z284 z287 z290 z293 : Int} (h0 : p1 % 400 = z280) (h1 : z280 < 20 * f_ties) (h2 : z280 / 20 = z284) (h3 : z280 / 10 = z287) (h4 : z280 % 10 = z293) (h5 : z287 % 2 = z290) (h6 : 400 ≤ p1) (h7 : 0 ≤ f_ties ∧ f_ties ≤ 20) (h8 : 400 ≤ p1 ∧ p1 ≤ 799) (h9 : 0 ≤ z280 ∧ z280 ≤ 399) (h10 : 0 ≤ z284 ∧ z284 ≤ 19) (h11 : 0 ≤ z287 ∧ z287 ≤ 39) (h12 : 0 ≤ z290 ∧ z290 ≤ 1) (h13 : 0 ≤ z293 ∧ z293 ≤ 9) : ((-1) : Int) < 0 ∨ z280 < 20 * f_ties := by omega
theorem vc_X12_doEvent_W_19 {z287 z290 : Int} (h0 : z290 = 0) (h1 : z287 % 2 = z290) (h2 : 0 ≤ z287 ∧ z287 ≤ 39) (h3 : 0 ≤ z290 ∧ z290 ≤ 1) : 0 ≤ z290 ∧ z290 ≤ 0 := by omega
theorem vc_X12_doEvent_W_20 {f_ties p1 z280 z284 z287 z290 z293 : Int} (h0 : z280 / 20 = z284) (h1 : z287 % 2 = z290) (h2 : z290 = 0) (h3 : p1 % 400 = z280) (h4 : z280 < 20 * f_ties) (h5 : z280 / 10 = z287) (h6 : z280 % 10 = z293) (h7 : 0 ≤ f_ties ∧ f_ties ≤ 20) (h8 : 400 ≤ p1 ∧ p1 ≤ 799) (h9 : 0 ≤ z280 ∧ z280 ≤ 399) (h10 : 0 ≤ z284 ∧ z284 ≤ 19) (h11 : 0 ≤ z287 ∧ z287 ≤ 39) (h12 : 0 ≤ z290 ∧ z290 ≤ 0) (h13 : 0 ≤ z293 ∧ z293 ≤ 9) : ((2 * z284) + z290) = (2 * z284) := by omega
theorem vc_X12_doEvent_W_21 {f_ties p1 z280 z284 z287 z293 : Int} (h0 : z280 < 20 * f_ties) (h1 : z280 / 20 = z284) (h2 : p1 % 400 = z280) (h3 : z280 / 10 = z287) (h4 : z280 % 10 = z293) (h5 : 0 ≤ f_ties ∧ f_ties ≤ 20) (h6 : 400 ≤ p1 ∧ p1 ≤ 799) (h7 : 0 ≤ z280 ∧ z280 ≤ 399) (h8 : 0 ≤ z284 ∧ z284 ≤ 19) (h9 : 0 ≤ z287 ∧ z287 ≤ 39) (h10 : 0 ≤ z293 ∧ z293 ≤ 9) : z284 < f_ties := by omega
theorem vc_X12_doEvent_W_22 {z338 z341 : Int} (h0 : 0 ≤ z338 ∧ z338 ≤ 9) (h1 : 0 ≤ z341 ∧ z341 ≤ 9) : z338 = z338 ∨ z341 = z338 := by omega
theorem vc_X12_doEvent_W_23 {z287 z290 : Int} (h0 : ¬ z290 = 0) (h1 : z287 % 2 = z290) (h2 : 0 ≤ z287 ∧ z287 ≤ 39) (h3 : 0 ≤ z290 ∧ z290 ≤ 1) : 1 ≤ z290 ∧ z290 ≤ 1 := by omega
theorem vc_X12_doEvent_W_24 {f_ties p1 z280 z284 z287 z290 z293 : Int} (h0 : z280 / 20 = z284) (h1 : z287 % 2 = z290) (h2 : ¬ z290 = 0) (h3 : p1 % 400 = z280) (h4 : z280 < 20 * f_ties) (h5 : z280 / 10 = z287) (h6 : z280 % 10 = z293) (h7 : 0 ≤ f_ties ∧ f_ties ≤ 20) (h8 : 400 ≤ p1 ∧ p1 ≤ 799) (h9 : 0 ≤ z280 ∧ z280 ≤ 399) (h10 : 0 ≤ z284 ∧ z284 ≤ 19) (h11 : 0 ≤ z287 ∧ z287 ≤ 39) (h12 : 1 ≤ z290 ∧ z290 ≤ 1) (h13 : 0 ≤ z293 ∧ z293 ≤ 9) : ((2 * z284) + z290) = ((2 * z284) + 1) := by omega
theorem vc_X12_doEvent_W_25 {z338 z341 : Int} (h0 : 0 ≤ z338 ∧ z338 ≤ 9) (h1 : 0 ≤ z341 ∧ z341 ≤ 9) : z338 = z341 ∨ z341 = z341 := by omega
set_option maxRecDepth 4000 in
set_option maxHeartbeats 4000000 in
theorem c_X12_doEvent_W {l : Launch} {D : va_G} {c : Nat → ClassId} {H0 : Heap} {sa : Nat × Nat × (Nat → Int32)} {w : mW} {μ : mM} (hw : mWF w) (hT : mT w μ) {p1 : Int} (hp1 : 0 ≤ p1 ∧ p1 ≤ 799) {f_ties : Int} (q_f_ties : μ 106 6 = f_ties) (hIG1 : G1 μ) (hIEV : EV μ) (hIPK : PK μ) (hev : 0 ≤ evF μ p1 ∧ evF μ p1 ≤ 2000000000) {Q : mM → Prop} (hQ : WP_X12_doEvent_W w μ p1 Q) : sC (gG l D c H0 sa) mX12_doEvent 11 0 0 [.ref 106, iv p1] (mk w μ) (qV w [106026, 106027, 106028, 106029, 106030, 106031, 106071, 106072, 106073, 126999, 151999, 152999, 153999, 154999, 155999, 156999, 157999, 158999, 159999, 160999, 161999, 165999] μ (fun μ1 => G1 μ1 ∧ EV μ1 ∧ Q μ1 ∧ True)) := by
  refine sC.of rfl (by decide) (le_t rfl) ?_
  have ht_f_ties : (0 ≤ f_ties ∧ f_ties ≤ 20) := by rw [← q_f_ties]; exact hT 106 106 (A_106 hw) 6
  refine mr_lvE (lv' := [(0, .ref 106), (1, iv p1)]) rfl ?_
  refine sv_aload_n (pc := 0) dX12_doEvent_0 rfl rfl ?_
  refine sv_aload_n (pc := 1) dX12_doEvent_1 rfl rfl ?_
  refine mr_iload_n (pc := 2) (z := p1) dX12_doEvent_2 rfl rfl ?_
  refine mr_cVP (pc := 3) (c_X12_eventAt_Wf hw hT hp1 (hQ f_ties q_f_ties ht_f_ties)) (gOk _ _ _ _ _) dX12_doEvent_3 (tX12_eventAt _ _ _ _ _) ⟨wV_X12_eventAt, wL_X12_eventAt⟩ wM_X12_607 (gCX12 _ _ _ _ _) rfl (A_106 hw) rfl ⟨le_t rfl, le_t rfl⟩ ⟨le_t rfl, le_t rfl⟩ rfl (le_t rfl) fun z266 h265 => ?_
  have h267 : 0 ≤ z266 ∧ z266 ≤ 2000000000 := by have h := hev; rw [h265.2.1.symm] at h; exact h
  refine pf_X12_71 (pc := 6) dX12_doEvent_6 wF_X12_591 (A_106 hw) hT h267 fun μ268 u269 T270 => ?_
  refine sv_aload_n (pc := 9) dX12_doEvent_9 rfl rfl ?_
  refine sv_dup (pc := 10) dX12_doEvent_10 rfl ?_
  refine gf_X12_73 (pc := 11) dX12_doEvent_11 wF_X12_610 (A_106 hw) T270 fun z271 q272 h273 => ?_
  refine mr_iconst (pc := 14) (z := 1) dX12_doEvent_14 ?_
  refine mr_iadd (pc := 15) (x := z271) (y := 1) dX12_doEvent_15 ?_
  refine mr_wrapF fun z274 h275 h276 => ?_
  refine pf_X12_73 (pc := 16) dX12_doEvent_16 wF_X12_610 (A_106 hw) T270 h275 fun μ277 u278 T279 => ?_
  refine mr_iload_n (pc := 19) (z := p1) dX12_doEvent_19 rfl rfl ?_
  refine mr_sipush (pc := 20) (z := 400) dX12_doEvent_20 (by decide) ?_
  refine mr_irem (pc := 23) (x := p1) (y := 400) dX12_doEvent_23 (rW (c := 0) (d := 2147483647) hp1 rfl) vc_X12_doEvent_W_1 ?_
  refine mr_gen (P := fun z => 0 ≤ z ∧ z ≤ 399) (rMod hp1 rfl) fun z280 q281 h282 => ?_
  have h283 : z280 < 20 * f_ties := EV.at hIEV hp1 hev.1 q281 q_f_ties
  refine mr_istore_n (pc := 24) (lv' := [(2, iv z280), (0, .ref 106), (1, iv p1)]) dX12_doEvent_24 rfl (by decide) rfl ?_
  refine mr_iload_n (pc := 25) (z := z280) dX12_doEvent_25 rfl rfl ?_
  refine mr_bipush (pc := 26) (z := 20) dX12_doEvent_26 (by decide) ?_
  refine mr_idiv (pc := 28) (x := z280) (y := 20) dX12_doEvent_28 (rW (c := 0) (d := 2147483647) h282 rfl) vc_X12_doEvent_W_2 ?_
  refine mr_gen (P := fun z => 0 ≤ z ∧ z ≤ 19) (rDiv h282 rfl) fun z284 q285 h286 => ?_
  refine mr_istore_n (pc := 29) (lv' := [(3, iv z284), (2, iv z280), (0, .ref 106), (1, iv p1)]) dX12_doEvent_29 rfl (by decide) rfl ?_
  refine mr_iload_n (pc := 30) (z := z280) dX12_doEvent_30 rfl rfl ?_
  refine mr_bipush (pc := 31) (z := 10) dX12_doEvent_31 (by decide) ?_
  refine mr_idiv (pc := 33) (x := z280) (y := 10) dX12_doEvent_33 (rW (c := 0) (d := 2147483647) h282 rfl) vc_X8_doNext_W_5 ?_
  refine mr_gen (P := fun z => 0 ≤ z ∧ z ≤ 39) (rDiv h282 rfl) fun z287 q288 h289 => ?_
  refine mr_iconst (pc := 34) (z := 2) dX12_doEvent_34 ?_
  refine mr_irem (pc := 35) (x := z287) (y := 2) dX12_doEvent_35 (rW (c := 0) (d := 2147483647) h289 rfl) vc_X8_doNext_W_4 ?_
  refine mr_gen (P := fun z => 0 ≤ z ∧ z ≤ 1) (rMod h289 rfl) fun z290 q291 h292 => ?_
  refine mr_istore (pc := 36) (lv' := [(4, iv z290), (3, iv z284), (2, iv z280), (0, .ref 106), (1, iv p1)]) dX12_doEvent_36 (by decide) rfl ?_
  refine mr_iload_n (pc := 38) (z := z280) dX12_doEvent_38 rfl rfl ?_
  refine mr_bipush (pc := 39) (z := 10) dX12_doEvent_39 (by decide) ?_
  refine mr_irem (pc := 41) (x := z280) (y := 10) dX12_doEvent_41 (rW (c := 0) (d := 2147483647) h282 rfl) vc_X8_doNext_W_5 ?_
  refine mr_gen (P := fun z => 0 ≤ z ∧ z ≤ 9) (rMod h282 rfl) fun z293 q294 h295 => ?_
  refine mr_istore (pc := 42) (lv' := [(5, iv z293), (4, iv z290), (3, iv z284), (2, iv z280), (0, .ref 106), (1, iv p1)]) dX12_doEvent_42 (by decide) rfl ?_
  refine mr_iload_n (pc := 44) (z := p1) dX12_doEvent_44 rfl rfl ?_
  refine mr_sipush (pc := 45) (z := 400) dX12_doEvent_45 (by decide) ?_
  refine mr_icmp_lt (pc := 48) (tgt := 77) dX12_doEvent_48 (by decide) (r32 hp1 rfl) (r32 (rR (x := 400)) rfl) (fun h296 => ?_) (fun h296 => ?_)
  · have h297 : 0 ≤ p1 ∧ p1 ≤ 399 := (vc_X12_doEvent_W_5 h296 q281 hp1 h282)
    refine sv_aload_n (pc := 77) dX12_doEvent_77 rfl rfl ?_
    refine gf_X12_77 (pc := 78) dX12_doEvent_78 wF_X12_433 (A_106 hw) T279 ?_
    refine mr_iload_n (pc := 81) (z := z280) dX12_doEvent_81 rfl rfl ?_
    refine mr_iconst (pc := 82) (z := (-1)) dX12_doEvent_82 ?_
    refine ss_157 (pc := 83) dX12_doEvent_83 (A_157 hw) T279 (rIx (n := 400) h282 rfl) (rW (c := (-1)) (d := 2000001000) (rR (x := (-1))) rfl) fun μ298 u299 T300 => ?_
    have I301 : EV μ298 := EV.up1 (EV.keep hIEV hw ((mF.up (mF.up mF.refl (A_106 hw) u269 rfl) (A_106 hw) u278 rfl) : mF [106071, 106073] w μ μ277) rfl) u299 (u299.f (Or.inl (mAt.ne (A_157 hw) (A_106 hw) rfl)) (u278.f (Or.inr (by decide)) (u269.f (Or.inr (by decide)) q_f_ties))) (vc_X12_doEvent_W_6 q281 h283 q285 q288 q294 q291 h296 ht_f_ties h297 h282 h286 h289 h292 h295) (vc_X12_doEvent_W_7 q281 h283 q285 q288 q294 q291 h296 ht_f_ties h297 h282 h286 h289 h292 h295)
    refine mr_iload_n (pc := 84) (z := z284) dX12_doEvent_84 rfl rfl ?_
    refine mr_iconst (pc := 85) (z := 1) dX12_doEvent_85 ?_
    refine mr_iload (pc := 86) (z := z290) dX12_doEvent_86 rfl ?_
    refine mr_isub (pc := 88) (x := 1) (y := z290) dX12_doEvent_88 ?_
    refine mr_iload (pc := 89) (z := z293) dX12_doEvent_89 rfl ?_
    have W307 := ((((((((((((h265.2.2.1 h265.1) μ268 u269 T270) z271 q272 h273) z274 h275 h276) μ277 u278 T279) z280 q281) z284 q285) z287 q288) z290 q291) z293 q294).1 h296) μ298 u299 T300)
    refine mr_cSP (pc := 91) (c_X12_slot_W hw T300 (rW (c := 0) (d := 20) h286 rfl) (rW (c := 0) (d := 2) (rSub (e := 0) (f := 1) (rR (x := 1)) h292 rfl) rfl) h295 W307) (gOk _ _ _ _ _) dX12_doEvent_91 (tX12_slot _ _ _ _ _) wS_X12_slot wM_X12_545 ⟨le_t rfl, le_t rfl⟩ ⟨le_t rfl, le_t rfl⟩ rfl (le_t rfl) fun z306 h305 => ?_
    have h308 : 0 ≤ z306 ∧ z306 ≤ 399 := (vc_X12_doEvent_W_8 h305.2.1 q285 q291 q294 h282 h286 h289 h292 h295 h305.1)
    refine mr_istore (pc := 94) (lv' := [(6, iv z306), (5, iv z293), (4, iv z290), (3, iv z284), (2, iv z280), (0, .ref 106), (1, iv p1)]) dX12_doEvent_94 (by decide) rfl ?_
    refine sv_aload_n (pc := 96) dX12_doEvent_96 rfl rfl ?_
    refine mr_sipush (pc := 97) (z := 930) dX12_doEvent_97 (by decide) ?_
    refine mr_iload_n (pc := 100) (z := z280) dX12_doEvent_100 rfl rfl ?_
    refine mr_iadd (pc := 101) (x := 930) (y := z280) dX12_doEvent_101 ?_
    refine mr_sipush (pc := 102) (z := 130) dX12_doEvent_102 (by decide) ?_
    refine mr_iload (pc := 105) (z := z306) dX12_doEvent_105 rfl ?_
    refine mr_iadd (pc := 107) (x := 130) (y := z306) dX12_doEvent_107 ?_
    obtain ⟨z309, q310⟩ : ∃ z, μ298 126 ((40 * (930 + z280)).toNat) = z := ⟨_, rfl⟩
    have h311 := rt7 T300 (A_126 hw) (vc_X12_doEvent_W_9 q281 h283 q285 q288 q294 q291 h296 h305.2.1 ht_f_ties h297 h282 h286 h289 h292 h295 h308) q310
    have h312 : (-1) ≤ z309 ∧ z309 ≤ 9 := h311.2.1 (vc_X12_doEvent_W_10 q281 h283 q285 q288 q294 q291 h296 h305.2.1 ht_f_ties h297 h282 h286 h289 h292 h295 h308)
    refine mr_cVV (pc := 108) (c_X12_copy_W hw T300 (rW (c := 0) (d := 2099) (rAdd (e := 930) (f := 1329) (rR (x := 930)) h282 rfl) rfl) (rW (c := 0) (d := 2099) (rAdd (e := 130) (f := 529) (rR (x := 130)) h308 rfl) rfl) q310 (vc_X12_doEvent_W_11 q281 h283 q285 q288 q294 h305.2.1 q291 h296 ht_f_ties h297 h282 h286 h289 h292 h295 h308) ((h305.2.2.1 h305.1) z309 q310 h311)) (gOk _ _ _ _ _) dX12_doEvent_108 (tX12_copy _ _ _ _ _) ⟨wV_X12_copy, wL_X12_copy⟩ wM_X12_559 (gCX12 _ _ _ _ _) rfl (A_106 hw) rfl ⟨le_t rfl, le_t rfl⟩ ⟨le_t rfl, le_t rfl⟩ rfl (le_t rfl) fun μ313 T314 F315 h316 => ?_
    obtain ⟨z317, q318, h319⟩ := h316
    have h320 := rt7 T314 (A_126 hw) (vc_X12_doEvent_W_12 h305.2.1 q285 q291 q294 h282 h286 h289 h292 h295 h308) q318
    have h321 : (-1) ≤ z317 ∧ z317 ≤ 9 := h320.2.1 (vc_X12_doEvent_W_13 h305.2.1 q285 q291 q294 h282 h286 h289 h292 h295 h308)
    have q322 : μ313 126 ((40 * (130 + z306)).toNat) = z309 := q318.trans h319.2.1
    refine sv_aload_n (pc := 111) dX12_doEvent_111 rfl rfl ?_
    refine gf_X12_74 (pc := 112) dX12_doEvent_112 wF_X12_424 (A_106 hw) T314 ?_
    refine mr_iload (pc := 115) (z := z306) dX12_doEvent_115 rfl ?_
    refine sv_aload_n (pc := 117) dX12_doEvent_117 rfl rfl ?_
    refine gk_X12_71 (pc := 118) dX12_doEvent_118 wF_X12_591 (A_106 hw) (F315.f (A_106 hw) rfl (u299.f (Or.inl (mAt.ne (A_157 hw) (A_106 hw) rfl)) (u278.f (Or.inr (by decide)) u269.1))) ?_
    refine ss_154 (pc := 121) dX12_doEvent_121 (A_154 hw) T314 (rIx (n := 400) h308 rfl) h267 fun μ323 u324 T325 => ?_
    refine sv_aload_n (pc := 122) dX12_doEvent_122 rfl rfl ?_
    refine sv_aload_n (pc := 123) dX12_doEvent_123 rfl rfl ?_
    refine gf_X12_7 (pc := 124) dX12_doEvent_124 wF_X12_40 (A_106 hw) T325 ?_
    refine mr_iconst (pc := 127) (z := 2) dX12_doEvent_127 ?_
    refine mr_iload_n (pc := 128) (z := z284) dX12_doEvent_128 rfl rfl ?_
    refine mr_imul (pc := 129) (x := 2) (y := z284) dX12_doEvent_129 ?_
    refine mr_iconst (pc := 130) (z := 1) dX12_doEvent_130 ?_
    refine mr_iadd (pc := 131) (x := (2 * z284)) (y := 1) dX12_doEvent_131 ?_
    refine mr_iload (pc := 132) (z := z290) dX12_doEvent_132 rfl ?_
    refine mr_isub (pc := 134) (x := ((2 * z284) + 1)) (y := z290) dX12_doEvent_134 ?_
    refine la_110 (pc := 135) dX12_doEvent_135 (A_110 hw) T325 (rIx (n := 40) (rSub (e := 0) (f := 39) (rAdd (e := 1) (f := 39) (rMulL (n := 2) (e := 0) (f := 38) h286 rfl) (rR (x := 1)) rfl) h292 rfl) rfl) fun z326 q327 h328 => ?_
    refine mr_iload (pc := 136) (z := z293) dX12_doEvent_136 rfl ?_
    refine mr_cVV (pc := 138) (c_X12_look_W hw T325 h328 h295 (G1.keep hIG1 hw ((mF.up (mF.call (mF.up (mF.up (mF.up mF.refl (A_106 hw) u269 rfl) (A_106 hw) u278 rfl) (A_157 hw) u299 rfl) F315 rfl) (A_154 hw) u324 rfl) : mF [106071, 106073, 126999, 154999, 157999] w μ μ323) rfl rfl ((mG.upO (mG.call (mG.upO (mG.upO (mG.upO mG.refl u269 rfl) u278 rfl) u299 rfl) h319.1 (List.forall_mem_cons.mpr ⟨⟨_, List.mem_cons_self, (vc_X12_doEvent_W_14 h305.2.1 q285 q291 q294 h282 h286 h289 h292 h295 h308)⟩, (fun _ h => absurd h List.not_mem_nil)⟩)) u324 rfl) : mG [((40 * (130 + z306)), ((40 * (130 + z306)) + 40))] μ μ323) (List.forall_mem_cons.mpr ⟨(vc_X12_doEvent_W_15 h305.2.1 q285 q291 q294 h282 h286 h289 h292 h295 h308), (fun _ h => absurd h List.not_mem_nil)⟩)) (EV.keep I301 hw ((mF.up (mF.call mF.refl F315 rfl) (A_154 hw) u324 rfl) : mF [126999, 154999] w μ298 μ323) rfl) (PK.keep hIPK hw ((mF.up (mF.call (mF.up (mF.up (mF.up mF.refl (A_106 hw) u269 rfl) (A_106 hw) u278 rfl) (A_157 hw) u299 rfl) F315 rfl) (A_154 hw) u324 rfl) : mF [106071, 106073, 126999, 154999, 157999] w μ μ323) rfl) ((((h319.2.2.1 T314 F315) z317 q318) μ323 u324 T325) z326 q327 h328)) (gOk _ _ _ _ _) dX12_doEvent_138 (tX12_look _ _ _ _ _) ⟨wV_X12_look, wL_X12_look⟩ wM_X12_597 (gCX12 _ _ _ _ _) rfl (A_106 hw) rfl ⟨le_t rfl, le_t rfl⟩ ⟨le_t rfl, le_t rfl⟩ rfl (le_t rfl) fun μ329 T330 F331 h332 => ?_
    exact mr_vret dX12_doEvent_141 rfl (le_t rfl) (le_t rfl) T330 (mF.call (mF.up (mF.call (mF.up (mF.up (mF.up mF.refl (A_106 hw) u269 rfl) (A_106 hw) u278 rfl) (A_157 hw) u299 rfl) F315 rfl) (A_154 hw) u324 rfl) F331 rfl) ⟨h332.2.1, h332.2.2.1, (h332.2.2.2.1 T330 F331), trivial⟩
  have h333 : 400 ≤ p1 ∧ p1 ≤ 799 := (vc_X12_doEvent_W_16 h296 q281 hp1 h282)
  refine sv_aload_n (pc := 51) dX12_doEvent_51 rfl rfl ?_
  refine gf_X12_79 (pc := 52) dX12_doEvent_52 wF_X12_439 (A_106 hw) T279 ?_
  refine mr_iload_n (pc := 55) (z := z280) dX12_doEvent_55 rfl rfl ?_
  refine mr_iconst (pc := 56) (z := (-1)) dX12_doEvent_56 ?_
  refine ss_159 (pc := 57) dX12_doEvent_57 (A_159 hw) T279 (rIx (n := 400) h282 rfl) (rW (c := (-1)) (d := 2000001000) (rR (x := (-1))) rfl) fun μ334 u335 T336 => ?_
  have I337 : EV μ334 := EV.up2 (EV.keep hIEV hw ((mF.up (mF.up mF.refl (A_106 hw) u269 rfl) (A_106 hw) u278 rfl) : mF [106071, 106073] w μ μ277) rfl) u335 (u335.f (Or.inl (mAt.ne (A_159 hw) (A_106 hw) rfl)) (u278.f (Or.inr (by decide)) (u269.f (Or.inr (by decide)) q_f_ties))) (vc_X12_doEvent_W_17 q281 h283 q285 q288 q294 q291 h296 ht_f_ties h333 h282 h286 h289 h292 h295) (vc_X12_doEvent_W_18 q281 h283 q285 q288 q294 q291 h296 ht_f_ties h333 h282 h286 h289 h292 h295)
  refine sv_aload_n (pc := 58) dX12_doEvent_58 rfl rfl ?_
  refine sv_aload_n (pc := 59) dX12_doEvent_59 rfl rfl ?_
  refine gf_X12_7 (pc := 60) dX12_doEvent_60 wF_X12_40 (A_106 hw) T336 ?_
  refine mr_iconst (pc := 63) (z := 2) dX12_doEvent_63 ?_
  refine mr_iload_n (pc := 64) (z := z284) dX12_doEvent_64 rfl rfl ?_
  refine mr_imul (pc := 65) (x := 2) (y := z284) dX12_doEvent_65 ?_
  refine mr_iload (pc := 66) (z := z290) dX12_doEvent_66 rfl ?_
  refine mr_iadd (pc := 68) (x := (2 * z284)) (y := z290) dX12_doEvent_68 ?_
  obtain ⟨z338, q339⟩ : ∃ z, μ334 110 ((2 * z284).toNat) = z := ⟨_, rfl⟩
  have h340 : (0 ≤ z338 ∧ z338 ≤ 9) := by rw [← q339]; exact T336 110 110 (A_110 hw) ((2 * z284).toNat)
  obtain ⟨z341, q342⟩ : ∃ z, μ334 110 (((2 * z284) + 1).toNat) = z := ⟨_, rfl⟩
  have h343 : (0 ≤ z341 ∧ z341 ≤ 9) := by rw [← q342]; exact T336 110 110 (A_110 hw) (((2 * z284) + 1).toNat)
  have W345 := ((((((((((((((h265.2.2.1 h265.1) μ268 u269 T270) z271 q272 h273) z274 h275 h276) μ277 u278 T279) z280 q281) z284 q285) z287 q288) z290 q291) z293 q294).2 h296) μ334 u335 T336) z338 q339 h340) z341 q342 h343)
  by_cases h344 : z290 = 0
  · have h346 : 0 ≤ z290 ∧ z290 ≤ 0 := (vc_X12_doEvent_W_19 h344 q291 h289 h292)
    refine lk_110 (pc := 69) dX12_doEvent_69 (A_110 hw) (rIx (n := 40) (rAdd (e := 0) (f := 38) (rMulL (n := 2) (e := 0) (f := 38) h286 rfl) h346 rfl) rfl) (ixE q339 (vc_X12_doEvent_W_20 q285 q291 h344 q281 h283 q288 q294 ht_f_ties h333 h282 h286 h289 h346 h295)) ?_
    refine mr_iload_n (pc := 70) (z := z284) dX12_doEvent_70 rfl rfl ?_
    refine mr_iload (pc := 71) (z := z293) dX12_doEvent_71 rfl ?_
    refine mr_cVV (pc := 73) (c_X12_say_W hw T336 h340 h286 h295 q339 q342 (u335.f (Or.inl (mAt.ne (A_159 hw) (A_106 hw) rfl)) (u278.f (Or.inr (by decide)) (u269.f (Or.inr (by decide)) q_f_ties))) (vc_X12_doEvent_W_21 h283 q285 q281 q288 q294 ht_f_ties h333 h282 h286 h289 h295) (vc_X12_doEvent_W_22 h340 h343) (G1.keep hIG1 hw ((mF.up (mF.up (mF.up mF.refl (A_106 hw) u269 rfl) (A_106 hw) u278 rfl) (A_159 hw) u335 rfl) : mF [106071, 106073, 159999] w μ μ334) rfl rfl ((mG.upO (mG.upO (mG.upO mG.refl u269 rfl) u278 rfl) u335 rfl) : mG [] μ μ334) (fun _ h => absurd h List.not_mem_nil)) I337 (PK.keep hIPK hw ((mF.up (mF.up (mF.up mF.refl (A_106 hw) u269 rfl) (A_106 hw) u278 rfl) (A_159 hw) u335 rfl) : mF [106071, 106073, 159999] w μ μ334) rfl) (W345.1 h344)) (gOk _ _ _ _ _) dX12_doEvent_73 (tX12_say _ _ _ _ _) ⟨wV_X12_say, wL_X12_say⟩ wM_X12_587 (gCX12 _ _ _ _ _) rfl (A_106 hw) rfl ⟨le_t rfl, le_t rfl⟩ ⟨le_t rfl, le_t rfl⟩ rfl (le_t rfl) fun μ347 T348 F349 h350 => ?_
    exact mr_vret dX12_doEvent_76 rfl (le_t rfl) (le_t rfl) T348 (mF.call (mF.up (mF.up (mF.up mF.refl (A_106 hw) u269 rfl) (A_106 hw) u278 rfl) (A_159 hw) u335 rfl) F349 rfl) ⟨h350.2.1, h350.2.2.1, (h350.2.2.2.1 T348 F349), trivial⟩
  have h351 : 1 ≤ z290 ∧ z290 ≤ 1 := (vc_X12_doEvent_W_23 h344 q291 h289 h292)
  refine lk_110 (pc := 69) dX12_doEvent_69 (A_110 hw) (rIx (n := 40) (rAdd (e := 1) (f := 39) (rMulL (n := 2) (e := 0) (f := 38) h286 rfl) h351 rfl) rfl) (ixE q342 (vc_X12_doEvent_W_24 q285 q291 h344 q281 h283 q288 q294 ht_f_ties h333 h282 h286 h289 h351 h295)) ?_
  refine mr_iload_n (pc := 70) (z := z284) dX12_doEvent_70 rfl rfl ?_
  refine mr_iload (pc := 71) (z := z293) dX12_doEvent_71 rfl ?_
  refine mr_cVV (pc := 73) (c_X12_say_W hw T336 h343 h286 h295 q339 q342 (u335.f (Or.inl (mAt.ne (A_159 hw) (A_106 hw) rfl)) (u278.f (Or.inr (by decide)) (u269.f (Or.inr (by decide)) q_f_ties))) (vc_X12_doEvent_W_21 h283 q285 q281 q288 q294 ht_f_ties h333 h282 h286 h289 h295) (vc_X12_doEvent_W_25 h340 h343) (G1.keep hIG1 hw ((mF.up (mF.up (mF.up mF.refl (A_106 hw) u269 rfl) (A_106 hw) u278 rfl) (A_159 hw) u335 rfl) : mF [106071, 106073, 159999] w μ μ334) rfl rfl ((mG.upO (mG.upO (mG.upO mG.refl u269 rfl) u278 rfl) u335 rfl) : mG [] μ μ334) (fun _ h => absurd h List.not_mem_nil)) I337 (PK.keep hIPK hw ((mF.up (mF.up (mF.up mF.refl (A_106 hw) u269 rfl) (A_106 hw) u278 rfl) (A_159 hw) u335 rfl) : mF [106071, 106073, 159999] w μ μ334) rfl) (W345.2 h344)) (gOk _ _ _ _ _) dX12_doEvent_73 (tX12_say _ _ _ _ _) ⟨wV_X12_say, wL_X12_say⟩ wM_X12_587 (gCX12 _ _ _ _ _) rfl (A_106 hw) rfl ⟨le_t rfl, le_t rfl⟩ ⟨le_t rfl, le_t rfl⟩ rfl (le_t rfl) fun μ352 T353 F354 h355 => ?_
  exact mr_vret dX12_doEvent_76 rfl (le_t rfl) (le_t rfl) T353 (mF.call (mF.up (mF.up (mF.up mF.refl (A_106 hw) u269 rfl) (A_106 hw) u278 rfl) (A_159 hw) u335 rfl) F354 rfl) ⟨h355.2.1, h355.2.2.1, (h355.2.2.2.1 T353 F354), trivial⟩
def WL_X11_go_W_1 (w : mW) (μ : mM) (p1 : Int) (Q : Int → mM → Prop) (rec1 : (Int × mM) → Prop) (s : (Int × mM)) : Prop := ∀ z136 : Int, ∀ μ137 : mM, s = (z136, μ137) → (0 ≤ z136 ∧ z136 ≤ 500) → mT w μ137 → mF [21002, 21003, 21004, 21005, 21006, 21007, 32009, 32010, 32011, 32012, 33999, 34999, 66999, 200002, 200003, 200004, 200005, 200006, 200007, 200008, 200009, 200010, 200011, 201999, 202999, 213999] w μ μ137 → ((p1 ≤ z136) → Q z136 μ137) ∧ ((z136 < p1) → WP_X8_doNext_W w μ137 (2000000000) (fun z163 μ159 => mT w μ159 → mF [21002, 21003, 21004, 21005, 21006, 21007, 32009, 32010, 32011, 32012, 33999, 34999, 66999, 200002, 200003, 200004, 200005, 200006, 200007, 200008, 200009, 200010, 200011, 201999, 202999, 213999] w μ137 μ159 → (0 ≤ z163 ∧ z163 ≤ 1) → ((z163 = 0) → Q z136 μ159) ∧ ((¬ z163 = 0) → rec1 ((z136 + 1), μ159))))
def WP_X11_go_W (w : mW) (μ : mM) (p1 : Int) (Q : Int → mM → Prop) : Prop := ((p1 < 1) → Q ((-1) : Int) μ) ∧ ((1 ≤ p1) → ((p1 ≤ 500) → loopF (WL_X11_go_W_1 w μ p1 Q) False 502 ((0 : Int), μ)) ∧ ((500 < p1) → Q ((-1) : Int) μ))
theorem vc_X11_go_W_3 {p1 : Int} (h0 : p1 ≤ 500) (h1 : 1 ≤ p1) (h2 : 1 ≤ p1 ∧ p1 ≤ 2147483647) : 1 ≤ p1 ∧ p1 ≤ 500 := by omega
theorem vc_X11_go_W_4 {z136 : Int} (h0 : (501 - z136) < ((0 : Nat) : Int)) (h1 : 0 ≤ z136 ∧ z136 ≤ 500) : False := by omega
theorem vc_X11_go_W_5 {p1 z136 : Int} (h0 : p1 ≤ z136) (h1 : 1 ≤ p1) (h2 : p1 ≤ 500) (h3 : 1 ≤ p1 ∧ p1 ≤ 500) (h4 : 0 ≤ z136 ∧ z136 ≤ 500) : 1 ≤ z136 ∧ z136 ≤ 500 := by omega
theorem vc_X11_go_W_6 {p1 z136 : Int} (h0 : z136 < p1) (h1 : 1 ≤ p1) (h2 : p1 ≤ 500) (h3 : 1 ≤ p1 ∧ p1 ≤ 500) (h4 : 0 ≤ z136 ∧ z136 ≤ 500) : 0 ≤ z136 ∧ z136 ≤ 499 := by omega
theorem vc_X11_go_W_9 {N p1 z136 : Int} (h0 : (501 - z136) < N + 1) (h1 : z136 < p1) (h2 : 1 ≤ p1) (h3 : p1 ≤ 500) (h4 : 1 ≤ p1 ∧ p1 ≤ 500) (h5 : 0 ≤ z136 ∧ z136 ≤ 499) : (501 - (z136 + 1)) < N := by omega
theorem vc_X11_go_W_10  : (501 - 0) < ((502 : Nat) : Int) := by omega
theorem vc_X11_go_W_11 {p1 : Int} (h0 : 500 < p1) (h1 : 1 ≤ p1) (h2 : 1 ≤ p1 ∧ p1 ≤ 2147483647) : 501 ≤ p1 ∧ p1 ≤ 2147483647 := by omega
set_option maxRecDepth 4000 in
set_option maxHeartbeats 4000000 in
theorem c_X11_go_W {l : Launch} {D : va_G} {c : Nat → ClassId} {H0 : Heap} {sa : Nat × Nat × (Nat → Int32)} {w : mW} {μ : mM} (hw : mWF w) (hT : mT w μ) {p1 : Int} (hp1 : (-2147483648) ≤ p1 ∧ p1 ≤ 2147483647) (hIPC : PC w μ) {Q : Int → mM → Prop} (hQ : WP_X11_go_W w μ p1 Q) : sC (gG l D c H0 sa) mX11_go 44 0 0 [.ref 0, iv p1] (mk w μ) (qI w [21002, 21003, 21004, 21005, 21006, 21007, 32009, 32010, 32011, 32012, 33999, 34999, 66999, 200002, 200003, 200004, 200005, 200006, 200007, 200008, 200009, 200010, 200011, 201999, 202999, 213999] μ (fun z μ1 => ((-2147483648) ≤ z ∧ z ≤ 2147483647) ∧ Q z μ1 ∧ True)) := by
  refine sC.of rfl (by decide) (le_t rfl) ?_
  refine mr_lvE (lv' := [(0, .ref 0), (1, iv p1)]) rfl ?_
  refine mr_iload_n (pc := 0) (z := p1) dX11_go_0 rfl rfl ?_
  refine mr_iconst (pc := 1) (z := 1) dX11_go_1 ?_
  refine mr_icmp_lt (pc := 2) (tgt := 12) dX11_go_2 (by decide) hp1 (r32 (rR (x := 1)) rfl) (fun h1 => ?_) (fun h1 => ?_)
  · have h2 : (-2147483648) ≤ p1 ∧ p1 ≤ 0 := (vc_X11_demand_7 h1 hp1)
    refine mr_iconst (pc := 12) (z := (-1)) dX11_go_12 ?_
    exact mr_iret dX11_go_13 rfl (le_t rfl) (le_t rfl) hT mF.refl ⟨(rW (c := (-2147483648)) (d := 2147483647) (rR (x := (-1))) rfl), (hQ.1 h1), trivial⟩
  have h3 : 1 ≤ p1 ∧ p1 ≤ 2147483647 := (vc_X11_demand_8 h1 hp1)
  refine mr_iload_n (pc := 5) (z := p1) dX11_go_5 rfl rfl ?_
  refine mr_sipush (pc := 6) (z := 500) dX11_go_6 (by decide) ?_
  refine mr_icmp_le (pc := 9) (tgt := 14) dX11_go_9 (by decide) (r32 h3 rfl) (r32 (rR (x := 500)) rfl) (fun h4 => ?_) (fun h4 => ?_)
  · have h5 : 1 ≤ p1 ∧ p1 ≤ 500 := (vc_X11_go_W_3 h4 h1 h3)
    refine mr_iconst (pc := 14) (z := 0) dX11_go_14 ?_
    refine mr_istore_n (pc := 15) (lv' := [(2, iv 0), (0, .ref 0), (1, iv p1)]) dX11_go_15 rfl (by decide) rfl ?_
    have L138 : ∀ (nL138 : Nat) (z136 : Int) (μ137 : mM), mT w μ137 → mF [21002, 21003, 21004, 21005, 21006, 21007, 32009, 32010, 32011, 32012, 33999, 34999, 66999, 200002, 200003, 200004, 200005, 200006, 200007, 200008, 200009, 200010, 200011, 201999, 202999, 213999] w μ μ137 → (0 ≤ z136 ∧ z136 ≤ 500) → PC w μ137 → (501 - z136) < (nL138 : Int) → loopF (WL_X11_go_W_1 w μ p1 Q) False nL138 (z136, μ137) → sV (gG l D c H0 sa) mX11_go (sRm 44 0 0) (sZ (gG l D c H0 sa) 0 0 (qI w [21002, 21003, 21004, 21005, 21006, 21007, 32009, 32010, 32011, 32012, 33999, 34999, 66999, 200002, 200003, 200004, 200005, 200006, 200007, 200008, 200009, 200010, 200011, 201999, 202999, 213999] μ (fun z μ1 => ((-2147483648) ≤ z ∧ z ≤ 2147483647) ∧ Q z μ1 ∧ True))) 16 [(0, .ref 0), (1, iv p1), (2, iv z136)] [] (mk w μ137) 0 0 := by
      intro nL138
      induction nL138 with
      | zero => intro z136 μ137 T140 F141 h139 I143 h144 W145; exact ((vc_X11_go_W_4 h144 h139)).elim
      | succ nL138 ih146 =>
        intro z136 μ137 T140 F141 h139 I143 h144 W145
        refine mr_iload_n (pc := 16) (z := z136) dX11_go_16 rfl rfl ?_
        refine mr_iload_n (pc := 17) (z := p1) dX11_go_17 rfl rfl ?_
        refine mr_icmp_ge (pc := 18) (tgt := 40) dX11_go_18 (by decide) (r32 h139 rfl) (r32 h5 rfl) (fun h156 => ?_) (fun h156 => ?_)
        · have h157 : 1 ≤ z136 ∧ z136 ≤ 500 := (vc_X11_go_W_5 h156 h1 h4 h5 h139)
          refine mr_iload_n (pc := 40) (z := z136) dX11_go_40 rfl rfl ?_
          exact mr_iret dX11_go_41 rfl (le_t rfl) (le_t rfl) T140 (mF.call mF.refl F141 rfl) ⟨(rW (c := (-2147483648)) (d := 2147483647) h157 rfl), ((W145 z136 μ137 rfl h139 T140 F141).1 h156), trivial⟩
        have h158 : 0 ≤ z136 ∧ z136 ≤ 499 := (vc_X11_go_W_6 h156 h1 h4 h5 h139)
        refine sv_aload_n (pc := 21) dX11_go_21 rfl rfl ?_
        refine gf_X11_6 (pc := 22) dX11_go_22 wF_X11_51 (A_0 hw) T140 ?_
        refine mr_ldcw (pc := 25) (z := 2000000000) dX11_go_25 wG_X11_299 (by decide) ?_
        refine mr_cVI (pc := 28) (c_X8_doNext_W hw T140 (rW (c := (-1)) (d := 2000000000) (rR (x := 2000000000)) rfl) I143 ((W145 z136 μ137 rfl h139 T140 F141).2 h156)) (gOk _ _ _ _ _) dX11_go_28 (tX8_doNext _ _ _ _ _) ⟨wV_X8_doNext, wL_X8_doNext⟩ wM_X11_300 (gCX8 _ _ _ _ _) rfl (A_32 hw) rfl ⟨le_t rfl, le_t rfl⟩ ⟨le_t rfl, le_t rfl⟩ rfl (le_t rfl) fun z163 μ159 T160 F161 h162 => ?_
        refine mr_if_eq (pc := 31) (tgt := 40) dX11_go_31 (by decide) (r32 h162.1 rfl) (fun h166 => ?_) (fun h166 => ?_)
        · have h167 : 0 ≤ z163 ∧ z163 ≤ 0 := (vc_X12_ring_22 h166 h162.1)
          refine mr_iload_n (pc := 40) (z := z136) dX11_go_40 rfl rfl ?_
          exact mr_iret dX11_go_41 rfl (le_t rfl) (le_t rfl) T160 (mF.call (mF.call mF.refl F141 rfl) F161 rfl) ⟨(rW (c := (-2147483648)) (d := 2147483647) h158 rfl), (((h162.2.1 T160 F161) h162.1).1 h166), trivial⟩
        have h168 : 1 ≤ z163 ∧ z163 ≤ 1 := (vc_X12_ring_24 h166 h162.1)
        refine mr_iinc (pc := 34) (lv' := [(2, iv (z136 + 1)), (0, .ref 0), (1, iv p1)]) dX11_go_34 rfl (by decide) rfl ?_
        refine sv_goto (pc := 37) (tgt := 16) dX11_go_37 (by decide) ?_
        refine mr_lvS (lv' := [(0, .ref 0), (1, iv p1), (2, iv (z136 + 1))]) (List.forall_mem_cons.mpr ⟨rfl, List.forall_mem_cons.mpr ⟨rfl, List.forall_mem_cons.mpr ⟨rfl, fun _ h => absurd h List.not_mem_nil⟩⟩⟩) ?_
        exact ih146 (z136 + 1) μ159 T160 (mF.call (mF.call mF.refl F141 rfl) F161 rfl) (rW (c := 0) (d := 500) (rAdd (e := 1) (f := 500) h158 (rR (x := 1)) rfl) rfl) (PC.keep I143 hw ((mF.call mF.refl F161 rfl) : mF [21002, 21003, 21004, 21005, 21006, 21007, 32009, 32010, 32011, 32012, 33999, 34999, 66999, 200002, 200003, 200004, 200005, 200006, 200007, 200008, 200009, 200010, 200011, 201999, 202999, 213999] w μ137 μ159) rfl) (vc_X11_go_W_9 (nS h144) h156 h1 h4 h5 h158) (((h162.2.1 T160 F161) h162.1).2 h166)
    refine mr_lvS (lv' := [(0, .ref 0), (1, iv p1), (2, iv 0)]) (List.forall_mem_cons.mpr ⟨rfl, List.forall_mem_cons.mpr ⟨rfl, List.forall_mem_cons.mpr ⟨rfl, fun _ h => absurd h List.not_mem_nil⟩⟩⟩) ?_
    exact L138 502 0 μ hT mF.refl (rW (c := 0) (d := 500) (rR (x := 0)) rfl) hIPC vc_X11_go_W_10 ((hQ.2 h1).1 h4)
  have h169 : 501 ≤ p1 ∧ p1 ≤ 2147483647 := (vc_X11_go_W_11 h4 h1 h3)
  refine mr_iconst (pc := 12) (z := (-1)) dX11_go_12 ?_
  exact mr_iret dX11_go_13 rfl (le_t rfl) (le_t rfl) hT mF.refl ⟨(rW (c := (-2147483648)) (d := 2147483647) (rR (x := (-1))) rfl), ((hQ.2 h1).2 h4), trivial⟩
def WP_X8_passTo_W (w : mW) (μ : mM) (p1 : Int) (Q : mM → Prop) : Prop := ∀ z1 : Int, μ 32 10 = z1 → (0 ≤ z1 ∧ z1 ≤ 800 ∧ (z1 = 0 ∨ 0 < w.2.2.2 1)) → ((z1 = 0) → ∀ μ24 : mM, mU μ 32 (11) p1 μ24 → mT w μ24 → Q μ24) ∧ ((¬ z1 = 0) → ∀ z28 : Int, μ 33 ((0 : Int).toNat) = z28 → (0 ≤ z28 ∧ z28 ≤ 799 ∧ (z28 = 0 ∨ z28 < 40 * w.2.2.2 1)) → ∀ z32 : Int, μ 34 (z28.toNat) = z32 → ((-1) ≤ z32 ∧ z32 ≤ 2000001000) → ((z32 ≤ p1) → Q μ) ∧ ((p1 < z32) → ∀ μ43 : mM, mU μ 32 (11) p1 μ43 → mT w μ43 → Q μ43))
set_option maxRecDepth 4000 in
set_option maxHeartbeats 4000000 in
theorem c_X8_passTo_W {l : Launch} {D : va_G} {c : Nat → ClassId} {H0 : Heap} {sa : Nat × Nat × (Nat → Int32)} {w : mW} {μ : mM} (hw : mWF w) (hT : mT w μ) {p1 : Int} (hp1 : (-1) ≤ p1 ∧ p1 ≤ 2000000000) {Q : mM → Prop} (hQ : WP_X8_passTo_W w μ p1 Q) : sC (gG l D c H0 sa) mX8_passTo 1 0 0 [.ref 32, iv p1] (mk w μ) (qV w [32011] μ (fun μ1 => Q μ1 ∧ True)) := by
  refine sC.of rfl (by decide) (le_t rfl) ?_
  refine mr_lvE (lv' := [(0, .ref 32), (1, iv p1)]) rfl ?_
  refine sv_aload_n (pc := 0) dX8_passTo_0 rfl rfl ?_
  refine gf_X8_10 (pc := 1) dX8_passTo_1 wF_X8_52 (A_32 hw) hT fun z1 q2 h3 => ?_
  have h4 : 0 ≤ z1 ∧ z1 ≤ 800 := ⟨h3.1, h3.2.1⟩
  refine mr_if_eq (pc := 4) (tgt := 22) dX8_passTo_4 (by decide) (r32 h4 rfl) (fun h22 => ?_) (fun h22 => ?_)
  · have h23 : 0 ≤ z1 ∧ z1 ≤ 0 := (vc_X8_doNext_W_1 h22 h3.2.2 h4)
    refine sv_aload_n (pc := 22) dX8_passTo_22 rfl rfl ?_
    refine mr_iload_n (pc := 23) (z := p1) dX8_passTo_23 rfl rfl ?_
    refine pf_X8_11 (pc := 24) dX8_passTo_24 wF_X8_62 (A_32 hw) hT hp1 fun μ24 u25 T26 => ?_
    exact mr_vret dX8_passTo_27 rfl (le_t rfl) (le_t rfl) T26 (mF.up mF.refl (A_32 hw) u25 rfl) ⟨(((hQ z1 q2 h3).1 h22) μ24 u25 T26), trivial⟩
  have h27 : 1 ≤ z1 ∧ z1 ≤ 800 := (vc_X8_doNext_W_2 h22 h3.2.2 h4)
  refine sv_aload_n (pc := 7) dX8_passTo_7 rfl rfl ?_
  refine gf_X8_3 (pc := 8) dX8_passTo_8 wF_X8_23 (A_32 hw) hT ?_
  refine sv_aload_n (pc := 11) dX8_passTo_11 rfl rfl ?_
  refine gf_X8_2 (pc := 12) dX8_passTo_12 wF_X8_19 (A_32 hw) hT ?_
  refine mr_iconst (pc := 15) (z := 0) dX8_passTo_15 ?_
  refine la_33 (pc := 16) dX8_passTo_16 (A_33 hw) hT (rIx (n := 800) (rR (x := 0)) rfl) fun z28 q29 h30 => ?_
  have h31 : 0 ≤ z28 ∧ z28 ≤ 799 := ⟨h30.1, h30.2.1⟩
  refine la_34 (pc := 17) dX8_passTo_17 (A_34 hw) hT (rIx (n := 800) h31 rfl) fun z32 q33 h34 => ?_
  refine mr_iload_n (pc := 18) (z := p1) dX8_passTo_18 rfl rfl ?_
  refine mr_icmp_le (pc := 19) (tgt := 27) dX8_passTo_19 (by decide) (r32 h34 rfl) (r32 hp1 rfl) (fun h40 => ?_) (fun h40 => ?_)
  · have h41 : (-1) ≤ z32 ∧ z32 ≤ 2000000000 := (vc_X8_doNext_W_3 h40 hp1 h34)
    exact mr_vret dX8_passTo_27 rfl (le_t rfl) (le_t rfl) hT mF.refl ⟨(((((hQ z1 q2 h3).2 h22) z28 q29 h30) z32 q33 h34).1 h40), trivial⟩
  have h42 : 0 ≤ z32 ∧ z32 ≤ 2000001000 := (vc_X8_doNext_W_11 h40 hp1 h34)
  refine sv_aload_n (pc := 22) dX8_passTo_22 rfl rfl ?_
  refine mr_iload_n (pc := 23) (z := p1) dX8_passTo_23 rfl rfl ?_
  refine pf_X8_11 (pc := 24) dX8_passTo_24 wF_X8_62 (A_32 hw) hT hp1 fun μ43 u44 T45 => ?_
  exact mr_vret dX8_passTo_27 rfl (le_t rfl) (le_t rfl) T45 (mF.up mF.refl (A_32 hw) u44 rfl) ⟨((((((hQ z1 q2 h3).2 h22) z28 q29 h30) z32 q33 h34).2 h40) μ43 u44 T45), trivial⟩
def WL_X11_until_W_1 (w : mW) (μ : mM) (p1 : Int) (Q : Int → mM → Prop) (rec1 : (Int × mM) → Prop) (s : (Int × mM)) : Prop := ∀ z164 : Int, ∀ μ165 : mM, s = (z164, μ165) → (0 ≤ z164 ∧ z164 ≤ 500) → mT w μ165 → mF [21002, 21003, 21004, 21005, 21006, 21007, 32009, 32010, 32011, 32012, 33999, 34999, 66999, 200002, 200003, 200004, 200005, 200006, 200007, 200008, 200009, 200010, 200011, 201999, 202999, 213999] w μ μ165 → ((500 ≤ z164) → WP_X8_passTo_W w μ165 p1 (fun μ186 => mT w μ186 → mF [32011] w μ165 μ186 → Q z164 μ186)) ∧ ((z164 < 500) → WP_X8_doNext_W w μ165 p1 (fun z195 μ191 => mT w μ191 → mF [21002, 21003, 21004, 21005, 21006, 21007, 32009, 32010, 32011, 32012, 33999, 34999, 66999, 200002, 200003, 200004, 200005, 200006, 200007, 200008, 200009, 200010, 200011, 201999, 202999, 213999] w μ165 μ191 → (0 ≤ z195 ∧ z195 ≤ 1) → ((z195 = 0) → WP_X8_passTo_W w μ191 p1 (fun μ200 => mT w μ200 → mF [32011] w μ191 μ200 → Q z164 μ200)) ∧ ((¬ z195 = 0) → rec1 ((z164 + 1), μ191))))
def WP_X11_until_W (w : mW) (μ : mM) (p1 : Int) (Q : Int → mM → Prop) : Prop := ∀ z1 : Int, μ 32 11 = z1 → ((-1) ≤ z1 ∧ z1 ≤ 2000000000) → ((p1 < z1) → Q ((-1) : Int) μ) ∧ ((z1 ≤ p1) → ((p1 ≤ 1000000000) → loopF (WL_X11_until_W_1 w μ p1 Q) False 502 ((0 : Int), μ)) ∧ ((1000000000 < p1) → Q ((-1) : Int) μ))
theorem vc_X11_until_W_1 {p1 z1 : Int} (h0 : p1 < z1) (h1 : (-2147483648) ≤ p1 ∧ p1 ≤ 2147483647) (h2 : (-1) ≤ z1 ∧ z1 ≤ 2000000000) : (-2147483648) ≤ p1 ∧ p1 ≤ 1999999999 := by omega
theorem vc_X11_until_W_2 {p1 z1 : Int} (h0 : z1 ≤ p1) (h1 : (-2147483648) ≤ p1 ∧ p1 ≤ 2147483647) (h2 : (-1) ≤ z1 ∧ z1 ≤ 2000000000) : (-1) ≤ p1 ∧ p1 ≤ 2147483647 := by omega
theorem vc_X11_until_W_3 {p1 z1 : Int} (h0 : p1 ≤ 1000000000) (h1 : z1 ≤ p1) (h2 : (-1) ≤ p1 ∧ p1 ≤ 2147483647) (h3 : (-1) ≤ z1 ∧ z1 ≤ 2000000000) : (-1) ≤ p1 ∧ p1 ≤ 1000000000 := by omega
theorem vc_X11_until_W_9 {N z164 : Int} (h0 : (501 - z164) < N + 1) (h1 : z164 < 500) (h2 : 0 ≤ z164 ∧ z164 ≤ 499) : (501 - (z164 + 1)) < N := by omega
theorem vc_X11_until_W_11 {p1 z1 : Int} (h0 : 1000000000 < p1) (h1 : z1 ≤ p1) (h2 : (-1) ≤ p1 ∧ p1 ≤ 2147483647) (h3 : (-1) ≤ z1 ∧ z1 ≤ 2000000000) : 1000000001 ≤ p1 ∧ p1 ≤ 2147483647 := by omega
set_option maxRecDepth 4000 in
set_option maxHeartbeats 4000000 in
theorem c_X11_until_W {l : Launch} {D : va_G} {c : Nat → ClassId} {H0 : Heap} {sa : Nat × Nat × (Nat → Int32)} {w : mW} {μ : mM} (hw : mWF w) (hT : mT w μ) {p1 : Int} (hp1 : (-2147483648) ≤ p1 ∧ p1 ≤ 2147483647) (hIPC : PC w μ) {Q : Int → mM → Prop} (hQ : WP_X11_until_W w μ p1 Q) : sC (gG l D c H0 sa) mX11_until 44 0 0 [.ref 0, iv p1] (mk w μ) (qI w [21002, 21003, 21004, 21005, 21006, 21007, 32009, 32010, 32011, 32012, 33999, 34999, 66999, 200002, 200003, 200004, 200005, 200006, 200007, 200008, 200009, 200010, 200011, 201999, 202999, 213999] μ (fun z μ1 => ((-2147483648) ≤ z ∧ z ≤ 2147483647) ∧ Q z μ1 ∧ True)) := by
  refine sC.of rfl (by decide) (le_t rfl) ?_
  refine mr_lvE (lv' := [(0, .ref 0), (1, iv p1)]) rfl ?_
  refine mr_iload_n (pc := 0) (z := p1) dX11_until_0 rfl rfl ?_
  refine sv_aload_n (pc := 1) dX11_until_1 rfl rfl ?_
  refine gf_X11_6 (pc := 2) dX11_until_2 wF_X11_51 (A_0 hw) hT ?_
  refine gf_X8_11 (pc := 5) dX11_until_5 wF_X11_303 (A_32 hw) hT fun z1 q2 h3 => ?_
  refine mr_icmp_lt (pc := 8) (tgt := 18) dX11_until_8 (by decide) hp1 (r32 h3 rfl) (fun h4 => ?_) (fun h4 => ?_)
  · have h5 : (-2147483648) ≤ p1 ∧ p1 ≤ 1999999999 := (vc_X11_until_W_1 h4 hp1 h3)
    refine mr_iconst (pc := 18) (z := (-1)) dX11_until_18 ?_
    exact mr_iret dX11_until_19 rfl (le_t rfl) (le_t rfl) hT mF.refl ⟨(rW (c := (-2147483648)) (d := 2147483647) (rR (x := (-1))) rfl), ((hQ z1 q2 h3).1 h4), trivial⟩
  have h6 : (-1) ≤ p1 ∧ p1 ≤ 2147483647 := (vc_X11_until_W_2 h4 hp1 h3)
  refine mr_iload_n (pc := 11) (z := p1) dX11_until_11 rfl rfl ?_
  refine mr_ldcw (pc := 12) (z := 1000000000) dX11_until_12 wG_X11_306 (by decide) ?_
  refine mr_icmp_le (pc := 15) (tgt := 20) dX11_until_15 (by decide) (r32 h6 rfl) (r32 (rR (x := 1000000000)) rfl) (fun h7 => ?_) (fun h7 => ?_)
  · have h8 : (-1) ≤ p1 ∧ p1 ≤ 1000000000 := (vc_X11_until_W_3 h7 h4 h6 h3)
    refine mr_iconst (pc := 20) (z := 0) dX11_until_20 ?_
    refine mr_istore_n (pc := 21) (lv' := [(2, iv 0), (0, .ref 0), (1, iv p1)]) dX11_until_21 rfl (by decide) rfl ?_
    have L166 : ∀ (nL166 : Nat) (z164 : Int) (μ165 : mM), mT w μ165 → mF [21002, 21003, 21004, 21005, 21006, 21007, 32009, 32010, 32011, 32012, 33999, 34999, 66999, 200002, 200003, 200004, 200005, 200006, 200007, 200008, 200009, 200010, 200011, 201999, 202999, 213999] w μ μ165 → (0 ≤ z164 ∧ z164 ≤ 500) → PC w μ165 → (501 - z164) < (nL166 : Int) → loopF (WL_X11_until_W_1 w μ p1 Q) False nL166 (z164, μ165) → sV (gG l D c H0 sa) mX11_until (sRm 44 0 0) (sZ (gG l D c H0 sa) 0 0 (qI w [21002, 21003, 21004, 21005, 21006, 21007, 32009, 32010, 32011, 32012, 33999, 34999, 66999, 200002, 200003, 200004, 200005, 200006, 200007, 200008, 200009, 200010, 200011, 201999, 202999, 213999] μ (fun z μ1 => ((-2147483648) ≤ z ∧ z ≤ 2147483647) ∧ Q z μ1 ∧ True))) 22 [(0, .ref 0), (1, iv p1), (2, iv z164)] [] (mk w μ165) 0 0 := by
      intro nL166
      induction nL166 with
      | zero => intro z164 μ165 T168 F169 h167 I171 h172 W173; exact ((vc_X11_go_W_4 h172 h167)).elim
      | succ nL166 ih174 =>
        intro z164 μ165 T168 F169 h167 I171 h172 W173
        refine mr_iload_n (pc := 22) (z := z164) dX11_until_22 rfl rfl ?_
        refine mr_sipush (pc := 23) (z := 500) dX11_until_23 (by decide) ?_
        refine mr_icmp_ge (pc := 26) (tgt := 46) dX11_until_26 (by decide) (r32 h167 rfl) (r32 (rR (x := 500)) rfl) (fun h184 => ?_) (fun h184 => ?_)
        · have h185 : 500 ≤ z164 ∧ z164 ≤ 500 := (vc_X1_doActs_W12_35 h184 h167)
          refine sv_aload_n (pc := 46) dX11_until_46 rfl rfl ?_
          refine gf_X11_6 (pc := 47) dX11_until_47 wF_X11_51 (A_0 hw) T168 ?_
          refine mr_iload_n (pc := 50) (z := p1) dX11_until_50 rfl rfl ?_
          refine mr_cVV (pc := 51) (c_X8_passTo_W hw T168 (rW (c := (-1)) (d := 2000000000) h8 rfl) ((W173 z164 μ165 rfl h167 T168 F169).1 h184)) (gOk _ _ _ _ _) dX11_until_51 (tX8_passTo _ _ _ _ _) ⟨wV_X8_passTo, wL_X8_passTo⟩ wM_X11_307 (gCX8 _ _ _ _ _) rfl (A_32 hw) rfl ⟨le_t rfl, le_t rfl⟩ ⟨le_t rfl, le_t rfl⟩ rfl (le_t rfl) fun μ186 T187 F188 h189 => ?_
          refine mr_iload_n (pc := 54) (z := z164) dX11_until_54 rfl rfl ?_
          exact mr_iret dX11_until_55 rfl (le_t rfl) (le_t rfl) T187 (mF.call (mF.call mF.refl F169 rfl) F188 rfl) ⟨(rW (c := (-2147483648)) (d := 2147483647) h185 rfl), (h189.1 T187 F188), trivial⟩
        have h190 : 0 ≤ z164 ∧ z164 ≤ 499 := (vc_X1_doActs_W12_10 h184 h167)
        refine sv_aload_n (pc := 29) dX11_until_29 rfl rfl ?_
        refine gf_X11_6 (pc := 30) dX11_until_30 wF_X11_51 (A_0 hw) T168 ?_
        refine mr_iload_n (pc := 33) (z := p1) dX11_until_33 rfl rfl ?_
        refine mr_cVI (pc := 34) (c_X8_doNext_W hw T168 (rW (c := (-1)) (d := 2000000000) h8 rfl) I171 ((W173 z164 μ165 rfl h167 T168 F169).2 h184)) (gOk _ _ _ _ _) dX11_until_34 (tX8_doNext _ _ _ _ _) ⟨wV_X8_doNext, wL_X8_doNext⟩ wM_X11_300 (gCX8 _ _ _ _ _) rfl (A_32 hw) rfl ⟨le_t rfl, le_t rfl⟩ ⟨le_t rfl, le_t rfl⟩ rfl (le_t rfl) fun z195 μ191 T192 F193 h194 => ?_
        refine mr_if_eq (pc := 37) (tgt := 46) dX11_until_37 (by decide) (r32 h194.1 rfl) (fun h198 => ?_) (fun h198 => ?_)
        · have h199 : 0 ≤ z195 ∧ z195 ≤ 0 := (vc_X12_ring_22 h198 h194.1)
          refine sv_aload_n (pc := 46) dX11_until_46 rfl rfl ?_
          refine gf_X11_6 (pc := 47) dX11_until_47 wF_X11_51 (A_0 hw) T192 ?_
          refine mr_iload_n (pc := 50) (z := p1) dX11_until_50 rfl rfl ?_
          refine mr_cVV (pc := 51) (c_X8_passTo_W hw T192 (rW (c := (-1)) (d := 2000000000) h8 rfl) (((h194.2.1 T192 F193) h194.1).1 h198)) (gOk _ _ _ _ _) dX11_until_51 (tX8_passTo _ _ _ _ _) ⟨wV_X8_passTo, wL_X8_passTo⟩ wM_X11_307 (gCX8 _ _ _ _ _) rfl (A_32 hw) rfl ⟨le_t rfl, le_t rfl⟩ ⟨le_t rfl, le_t rfl⟩ rfl (le_t rfl) fun μ200 T201 F202 h203 => ?_
          refine mr_iload_n (pc := 54) (z := z164) dX11_until_54 rfl rfl ?_
          exact mr_iret dX11_until_55 rfl (le_t rfl) (le_t rfl) T201 (mF.call (mF.call (mF.call mF.refl F169 rfl) F193 rfl) F202 rfl) ⟨(rW (c := (-2147483648)) (d := 2147483647) h190 rfl), (h203.1 T201 F202), trivial⟩
        have h204 : 1 ≤ z195 ∧ z195 ≤ 1 := (vc_X12_ring_24 h198 h194.1)
        refine mr_iinc (pc := 40) (lv' := [(2, iv (z164 + 1)), (0, .ref 0), (1, iv p1)]) dX11_until_40 rfl (by decide) rfl ?_
        refine sv_goto (pc := 43) (tgt := 22) dX11_until_43 (by decide) ?_
        refine mr_lvS (lv' := [(0, .ref 0), (1, iv p1), (2, iv (z164 + 1))]) (List.forall_mem_cons.mpr ⟨rfl, List.forall_mem_cons.mpr ⟨rfl, List.forall_mem_cons.mpr ⟨rfl, fun _ h => absurd h List.not_mem_nil⟩⟩⟩) ?_
        exact ih174 (z164 + 1) μ191 T192 (mF.call (mF.call mF.refl F169 rfl) F193 rfl) (rW (c := 0) (d := 500) (rAdd (e := 1) (f := 500) h190 (rR (x := 1)) rfl) rfl) (PC.keep I171 hw ((mF.call mF.refl F193 rfl) : mF [21002, 21003, 21004, 21005, 21006, 21007, 32009, 32010, 32011, 32012, 33999, 34999, 66999, 200002, 200003, 200004, 200005, 200006, 200007, 200008, 200009, 200010, 200011, 201999, 202999, 213999] w μ165 μ191) rfl) (vc_X11_until_W_9 (nS h172) h184 h190) (((h194.2.1 T192 F193) h194.1).2 h198)
    refine mr_lvS (lv' := [(0, .ref 0), (1, iv p1), (2, iv 0)]) (List.forall_mem_cons.mpr ⟨rfl, List.forall_mem_cons.mpr ⟨rfl, List.forall_mem_cons.mpr ⟨rfl, fun _ h => absurd h List.not_mem_nil⟩⟩⟩) ?_
    exact L166 502 0 μ hT mF.refl (rW (c := 0) (d := 500) (rR (x := 0)) rfl) hIPC vc_X11_go_W_10 (((hQ z1 q2 h3).2 h4).1 h7)
  have h205 : 1000000001 ≤ p1 ∧ p1 ≤ 2147483647 := (vc_X11_until_W_11 h7 h4 h6 h3)
  refine mr_iconst (pc := 18) (z := (-1)) dX11_until_18 ?_
  exact mr_iret dX11_until_19 rfl (le_t rfl) (le_t rfl) hT mF.refl ⟨(rW (c := (-2147483648)) (d := 2147483647) (rR (x := (-1))) rfl), (((hQ z1 q2 h3).2 h4).2 h7), trivial⟩
def WP_X12_in_W (w : mW) (μ : mM) (p1 : Int) (p2 : Int) (p3 : Int) (Q : Int → mM → Prop) : Prop := ((p1 < p2) → Q (0 : Int) μ) ∧ ((p2 ≤ p1) → ((p3 < p1) → Q (0 : Int) μ) ∧ ((p1 ≤ p3) → Q (1 : Int) μ))
set_option maxRecDepth 4000 in
set_option maxHeartbeats 4000000 in
theorem c_X12_in_W {l : Launch} {D : va_G} {c : Nat → ClassId} {H0 : Heap} {sa : Nat × Nat × (Nat → Int32)} {w : mW} {μ : mM} (hw : mWF w) (hT : mT w μ) {p1 : Int} (hp1 : (-2147483648) ≤ p1 ∧ p1 ≤ 2147483647) {p2 : Int} (hp2 : (-2147483648) ≤ p2 ∧ p2 ≤ 2147483647) {p3 : Int} (hp3 : (-2147483648) ≤ p3 ∧ p3 ≤ 2147483647) {Q : Int → mM → Prop} (hQ : WP_X12_in_W w μ p1 p2 p3 Q) : sC (gG l D c H0 sa) mX12_in 1 0 0 [iv p1, iv p2, iv p3] (mk w μ) (qP w μ (fun z => (0 ≤ z ∧ z ≤ 1) ∧ (z = 1 → p2 ≤ p1 ∧ p1 ≤ p3) ∧ (z = 0 → p1 < p2 ∨ p3 < p1) ∧ Q z μ ∧ True)) := by
  refine sC.of rfl (by decide) (le_t rfl) ?_
  refine mr_lvE (lv' := [(0, iv p1), (1, iv p2), (2, iv p3)]) rfl ?_
  refine mr_iload_n (pc := 0) (z := p1) dX12_in_0 rfl rfl ?_
  refine mr_iload_n (pc := 1) (z := p2) dX12_in_1 rfl rfl ?_
  refine mr_icmp_lt (pc := 2) (tgt := 14) dX12_in_2 (by decide) hp1 hp2 (fun h5 => ?_) (fun h5 => ?_)
  · have h6 : (-2147483648) ≤ p1 ∧ p1 ≤ 2147483646 := (vc_X12_in_1 h5 hp1 hp2)
    have h7 : (-2147483647) ≤ p2 ∧ p2 ≤ 2147483647 := (vc_X12_in_2 h5 h6 hp2)
    refine mr_iconst (pc := 14) (z := 0) dX12_in_14 ?_
    exact mr_zretP dX12_in_15 rfl (rW (c := 0) (d := 1) (rR (x := 0)) rfl) (le_t rfl) (le_t rfl) ⟨(rW (c := 0) (d := 1) (rR (x := 0)) rfl), (vc_X12_in_3 h5 h6 h7 hp3), (vc_X12_in_4 h5 h6 h7 hp3), (hQ.1 h5), trivial⟩
  refine mr_iload_n (pc := 5) (z := p1) dX12_in_5 rfl rfl ?_
  refine mr_iload_n (pc := 6) (z := p3) dX12_in_6 rfl rfl ?_
  refine mr_icmp_gt (pc := 7) (tgt := 14) dX12_in_7 (by decide) hp1 hp3 (fun h10 => ?_) (fun h10 => ?_)
  · have h11 : (-2147483647) ≤ p1 ∧ p1 ≤ 2147483647 := (vc_X12_in_5 h10 h5 hp1 hp2 hp3)
    have h12 : (-2147483648) ≤ p3 ∧ p3 ≤ 2147483646 := (vc_X12_in_6 h10 h5 h11 hp2 hp3)
    refine mr_iconst (pc := 14) (z := 0) dX12_in_14 ?_
    exact mr_zretP dX12_in_15 rfl (rW (c := 0) (d := 1) (rR (x := 0)) rfl) (le_t rfl) (le_t rfl) ⟨(rW (c := 0) (d := 1) (rR (x := 0)) rfl), (vc_X12_in_7 h5 h10 h11 hp2 h12), (vc_X12_in_8 h5 h10 h11 hp2 h12), ((hQ.2 h5).1 h10), trivial⟩
  refine mr_iconst (pc := 10) (z := 1) dX12_in_10 ?_
  refine sv_goto (pc := 11) (tgt := 15) dX12_in_11 (by decide) ?_
  exact mr_zretP dX12_in_15 rfl (rW (c := 0) (d := 1) (rR (x := 1)) rfl) (le_t rfl) (le_t rfl) ⟨(rW (c := 0) (d := 1) (rR (x := 1)) rfl), (vc_X12_in_9 h5 h10 hp1 hp2 hp3), (vc_X12_in_10 h5 h10 hp1 hp2 hp3), ((hQ.2 h5).2 h10), trivial⟩
def WL_X12_nextEvent_Wev_1 (μ : mM) (Q : Int → mM → Prop) (rec1 : (Int × Int × Int × Int) → Prop) (s : (Int × Int × Int × Int)) : Prop := ∀ z372 : Int, ∀ z371 : Int, ∀ z370 : Int, ∀ z369 : Int, s = (z372, z371, z370, z369) → ((-99999999) ≤ z372 ∧ z372 ≤ 799) → (0 ≤ z371 ∧ z371 ≤ 2000000000) → ((-2147483648) ≤ z370 ∧ z370 ≤ 2147483647) → (0 ≤ z369 ∧ z369 ≤ 800) → ((800 ≤ z369) → Q z372 μ) ∧ ((z369 < 800) → ((400 ≤ z369) → ∀ z427 : Int, μ 159 ((z369 - 400).toNat) = z427 → ((-1) ≤ z427 ∧ z427 ≤ 2000001000) → ∀ z430 : Int, μ 160 ((z369 - 400).toNat) = z430 → ((-2147483648) ≤ z430 ∧ z430 ≤ 2147483647) → ((z427 < 0) → rec1 (z372, z371, z370, (z369 + 1))) ∧ ((0 ≤ z427) → ((2000000000 < z427) → rec1 (z372, z371, z370, (z369 + 1))) ∧ ((z427 ≤ 2000000000) → ((z372 = (-99999999)) → rec1 (z369, z427, z430, (z369 + 1))) ∧ ((¬ z372 = (-99999999)) → ((z427 < z371) → rec1 (z369, z427, z430, (z369 + 1))) ∧ ((z371 ≤ z427) → ((¬ z427 = z371) → rec1 (z372, z371, z370, (z369 + 1))) ∧ ((z427 = z371) → ((z370 ≤ z430) → rec1 (z372, z371, z370, (z369 + 1))) ∧ ((z430 < z370) → rec1 (z369, z427, z430, (z369 + 1))))))))) ∧ ((z369 < 400) → ∀ z450 : Int, μ 157 (z369.toNat) = z450 → ((-1) ≤ z450 ∧ z450 ≤ 2000001000) → ∀ z453 : Int, μ 158 (z369.toNat) = z453 → ((-2147483648) ≤ z453 ∧ z453 ≤ 2147483647) → ((z450 < 0) → rec1 (z372, z371, z370, (z369 + 1))) ∧ ((0 ≤ z450) → ((2000000000 < z450) → rec1 (z372, z371, z370, (z369 + 1))) ∧ ((z450 ≤ 2000000000) → ((z372 = (-99999999)) → rec1 (z369, z450, z453, (z369 + 1))) ∧ ((¬ z372 = (-99999999)) → ((z450 < z371) → rec1 (z369, z450, z453, (z369 + 1))) ∧ ((z371 ≤ z450) → ((¬ z450 = z371) → rec1 (z372, z371, z370, (z369 + 1))) ∧ ((z450 = z371) → ((z370 ≤ z453) → rec1 (z372, z371, z370, (z369 + 1))) ∧ ((z453 < z370) → rec1 (z369, z450, z453, (z369 + 1))))))))))
def WP_X12_nextEvent_Wev (w : mW) (μ : mM) (Q : Int → mM → Prop) : Prop := loopF (WL_X12_nextEvent_Wev_1 μ Q) False 802 (((-99999999) : Int), (0 : Int), (0 : Int), (0 : Int))
theorem vc_X12_nextEvent_Wev_2 {z369 : Int} (h0 : 800 ≤ z369) (h1 : 0 ≤ z369 ∧ z369 ≤ 800) : 800 ≤ z369 ∧ z369 ≤ 800 := by omega
theorem vc_X12_nextEvent_Wev_3 {z369 : Int} (h0 : 800 ≤ z369) (h1 : 800 ≤ z369 ∧ z369 ≤ 800) : z369 = 800 := by omega
theorem vc_X12_nextEvent_Wev_4 {z372 : Int} (h0 : (-99999999) ≤ z372 ∧ z372 ≤ 799) (h1 : z372 = (-99999999) ∨ (0 ≤ z372 ∧ z372 ≤ 799)) : z372 = -99999999 ∨ (0 ≤ z372 ∧ z372 ≤ 799) := by omega
theorem vc_X12_nextEvent_Wev_5 {z369 : Int} (h0 : z369 < 800) (h1 : 0 ≤ z369 ∧ z369 ≤ 800) : 0 ≤ z369 ∧ z369 ≤ 799 := by omega
theorem vc_X12_nextEvent_Wev_6 {z369 : Int} (h0 : 400 ≤ z369) (h1 : z369 < 800) (h2 : 0 ≤ z369 ∧ z369 ≤ 799) : 400 ≤ z369 ∧ z369 ≤ 799 := by omega
theorem vc_X12_nextEvent_Wev_7 {z369 : Int} (h0 : z369 < 400) (h1 : 400 ≤ z369 ∧ z369 ≤ 799) : False := by omega
theorem vc_X12_nextEvent_Wev_9 {N z369 : Int} (h0 : (801 - z369) < N + 1) (h1 : z369 < 800) (h2 : 400 ≤ z369) (h3 : 400 ≤ z369 ∧ z369 ≤ 799) : (801 - (z369 + 1)) < N := by omega
theorem vc_X12_nextEvent_Wev_10 {z369 : Int} (h0 : z369 < 800) (h1 : 400 ≤ z369) (h2 : 400 ≤ z369 ∧ z369 ≤ 799) : 400 ≤ z369 := by omega
theorem vc_X12_nextEvent_Wev_11 {z369 : Int} (h0 : z369 < 800) (h1 : 400 ≤ z369) (h2 : 400 ≤ z369 ∧ z369 ≤ 799) : 0 ≤ z369 := by omega
theorem vc_X12_nextEvent_Wev_12 {z370 z371 z372 z427 z430 : Int} (h0 : z427 < 0) (h1 : (-2147483648) ≤ z370 ∧ z370 ≤ 2147483647) (h2 : 0 ≤ z371 ∧ z371 ≤ 2000000000) (h3 : (-99999999) ≤ z372 ∧ z372 ≤ 799) (h4 : z372 = (-99999999) ∨ (0 ≤ z372 ∧ z372 ≤ 799)) (h5 : (-1) ≤ z427 ∧ z427 ≤ (-1)) (h6 : (-2147483648) ≤ z430 ∧ z430 ≤ 2147483647) : ¬ (0 ≤ z427 ∧ z427 ≤ 2000000000 ∧ (z372 = -99999999 ∨ z427 < z371 ∨ (z427 = z371 ∧ z430 < z370))) := by omega
theorem vc_X12_nextEvent_Wev_13 {z372 : Int} (h0 : (-99999999) ≤ z372 ∧ z372 ≤ 799) (h1 : z372 = (-99999999) ∨ (0 ≤ z372 ∧ z372 ≤ 799)) : z372 = (-99999999) ∨ (0 ≤ z372 ∧ z372 ≤ 799) := by omega
theorem vc_X12_nextEvent_Wev_15 {z427 : Int} (h0 : 2000000000 < z427) (h1 : 0 ≤ z427) (h2 : 0 ≤ z427 ∧ z427 ≤ 2000001000) : 2000000001 ≤ z427 ∧ z427 ≤ 2000001000 := by omega
theorem vc_X12_nextEvent_Wev_16 {z370 z371 z372 z427 z430 : Int} (h0 : 0 ≤ z427) (h1 : 2000000000 < z427) (h2 : (-2147483648) ≤ z370 ∧ z370 ≤ 2147483647) (h3 : 0 ≤ z371 ∧ z371 ≤ 2000000000) (h4 : (-99999999) ≤ z372 ∧ z372 ≤ 799) (h5 : z372 = (-99999999) ∨ (0 ≤ z372 ∧ z372 ≤ 799)) (h6 : 2000000001 ≤ z427 ∧ z427 ≤ 2000001000) (h7 : (-2147483648) ≤ z430 ∧ z430 ≤ 2147483647) : ¬ (0 ≤ z427 ∧ z427 ≤ 2000000000 ∧ (z372 = -99999999 ∨ z427 < z371 ∨ (z427 = z371 ∧ z430 < z370))) := by omega
theorem vc_X12_nextEvent_Wev_17 {z427 : Int} (h0 : z427 ≤ 2000000000) (h1 : 0 ≤ z427) (h2 : 0 ≤ z427 ∧ z427 ≤ 2000001000) : 0 ≤ z427 ∧ z427 ≤ 2000000000 := by omega
theorem vc_X12_nextEvent_Wev_18 {z372 : Int} (h0 : z372 = (-99999999)) (h1 : (-99999999) ≤ z372 ∧ z372 ≤ 799) (h2 : z372 = (-99999999) ∨ (0 ≤ z372 ∧ z372 ≤ 799)) : (-99999999) ≤ z372 ∧ z372 ≤ (-99999999) := by omega
theorem vc_X12_nextEvent_Wev_19 {z370 z371 z372 z427 z430 : Int} (h0 : 0 ≤ z427) (h1 : z427 ≤ 2000000000) (h2 : z372 = (-99999999)) (h3 : (-2147483648) ≤ z370 ∧ z370 ≤ 2147483647) (h4 : 0 ≤ z371 ∧ z371 ≤ 2000000000) (h5 : (-99999999) ≤ z372 ∧ z372 ≤ (-99999999)) (h6 : z372 = (-99999999) ∨ (0 ≤ z372 ∧ z372 ≤ 799)) (h7 : 0 ≤ z427 ∧ z427 ≤ 2000000000) (h8 : (-2147483648) ≤ z430 ∧ z430 ≤ 2147483647) : 0 ≤ z427 ∧ z427 ≤ 2000000000 ∧ (z372 = -99999999 ∨ z427 < z371 ∨ (z427 = z371 ∧ z430 < z370)) := by omega
theorem vc_X12_nextEvent_Wev_20 {z369 : Int} (h0 : z369 < 800) (h1 : 400 ≤ z369) (h2 : 400 ≤ z369 ∧ z369 ≤ 799) : z369 = (-99999999) ∨ (0 ≤ z369 ∧ z369 ≤ 799) := by omega
theorem vc_X12_nextEvent_Wev_21 {z372 : Int} (h0 : ¬ z372 = (-99999999)) (h1 : (-99999999) ≤ z372 ∧ z372 ≤ 799) (h2 : z372 = (-99999999) ∨ (0 ≤ z372 ∧ z372 ≤ 799)) : 0 ≤ z372 ∧ z372 ≤ 799 := by omega
theorem vc_X12_nextEvent_Wev_22 {z371 z427 : Int} (h0 : z427 < z371) (h1 : 0 ≤ z427) (h2 : z427 ≤ 2000000000) (h3 : 0 ≤ z371 ∧ z371 ≤ 2000000000) (h4 : 0 ≤ z427 ∧ z427 ≤ 2000000000) : 0 ≤ z427 ∧ z427 ≤ 1999999999 := by omega
theorem vc_X12_nextEvent_Wev_23 {z371 z427 : Int} (h0 : z427 < z371) (h1 : 0 ≤ z427) (h2 : z427 ≤ 2000000000) (h3 : 0 ≤ z371 ∧ z371 ≤ 2000000000) (h4 : 0 ≤ z427 ∧ z427 ≤ 1999999999) : 1 ≤ z371 ∧ z371 ≤ 2000000000 := by omega
theorem vc_X12_nextEvent_Wev_24 {z370 z371 z372 z427 z430 : Int} (h0 : 0 ≤ z427) (h1 : z427 ≤ 2000000000) (h2 : ¬ z372 = (-99999999)) (h3 : z427 < z371) (h4 : (-2147483648) ≤ z370 ∧ z370 ≤ 2147483647) (h5 : 1 ≤ z371 ∧ z371 ≤ 2000000000) (h6 : 0 ≤ z372 ∧ z372 ≤ 799) (h7 : z372 = (-99999999) ∨ (0 ≤ z372 ∧ z372 ≤ 799)) (h8 : 0 ≤ z427 ∧ z427 ≤ 1999999999) (h9 : (-2147483648) ≤ z430 ∧ z430 ≤ 2147483647) : 0 ≤ z427 ∧ z427 ≤ 2000000000 ∧ (z372 = -99999999 ∨ z427 < z371 ∨ (z427 = z371 ∧ z430 < z370)) := by omega
theorem vc_X12_nextEvent_Wev_25 {z370 z371 z372 z427 z430 : Int} (h0 : 0 ≤ z427) (h1 : z427 ≤ 2000000000) (h2 : ¬ z372 = (-99999999)) (h3 : z371 ≤ z427) (h4 : ¬ z427 = z371) (h5 : (-2147483648) ≤ z370 ∧ z370 ≤ 2147483647) (h6 : 0 ≤ z371 ∧ z371 ≤ 2000000000) (h7 : 0 ≤ z372 ∧ z372 ≤ 799) (h8 : z372 = (-99999999) ∨ (0 ≤ z372 ∧ z372 ≤ 799)) (h9 : 0 ≤ z427 ∧ z427 ≤ 2000000000) (h10 : (-2147483648) ≤ z430 ∧ z430 ≤ 2147483647) : ¬ (0 ≤ z427 ∧ z427 ≤ 2000000000 ∧ (z372 = -99999999 ∨ z427 < z371 ∨ (z427 = z371 ∧ z430 < z370))) := by omega
theorem vc_X12_nextEvent_Wev_26 {z372 : Int} (h0 : ¬ z372 = (-99999999)) (h1 : 0 ≤ z372 ∧ z372 ≤ 799) (h2 : z372 = (-99999999) ∨ (0 ≤ z372 ∧ z372 ≤ 799)) : z372 = (-99999999) ∨ (0 ≤ z372 ∧ z372 ≤ 799) := by omega
theorem vc_X12_nextEvent_Wev_27 {z370 z371 z372 z427 z430 : Int} (h0 : 0 ≤ z427) (h1 : z427 ≤ 2000000000) (h2 : ¬ z372 = (-99999999)) (h3 : z371 ≤ z427) (h4 : z427 = z371) (h5 : z370 ≤ z430) (h6 : (-2147483648) ≤ z370 ∧ z370 ≤ 2147483647) (h7 : 0 ≤ z371 ∧ z371 ≤ 2000000000) (h8 : 0 ≤ z372 ∧ z372 ≤ 799) (h9 : z372 = (-99999999) ∨ (0 ≤ z372 ∧ z372 ≤ 799)) (h10 : 0 ≤ z427 ∧ z427 ≤ 2000000000) (h11 : (-2147483648) ≤ z430 ∧ z430 ≤ 2147483647) : ¬ (0 ≤ z427 ∧ z427 ≤ 2000000000 ∧ (z372 = -99999999 ∨ z427 < z371 ∨ (z427 = z371 ∧ z430 < z370))) := by omega
theorem vc_X12_nextEvent_Wev_30 {z370 z371 z372 z427 z430 : Int} (h0 : 0 ≤ z427) (h1 : z427 ≤ 2000000000) (h2 : ¬ z372 = (-99999999)) (h3 : z371 ≤ z427) (h4 : z427 = z371) (h5 : z430 < z370) (h6 : (-2147483647) ≤ z370 ∧ z370 ≤ 2147483647) (h7 : 0 ≤ z371 ∧ z371 ≤ 2000000000) (h8 : 0 ≤ z372 ∧ z372 ≤ 799) (h9 : z372 = (-99999999) ∨ (0 ≤ z372 ∧ z372 ≤ 799)) (h10 : 0 ≤ z427 ∧ z427 ≤ 2000000000) (h11 : (-2147483648) ≤ z430 ∧ z430 ≤ 2147483646) : 0 ≤ z427 ∧ z427 ≤ 2000000000 ∧ (z372 = -99999999 ∨ z427 < z371 ∨ (z427 = z371 ∧ z430 < z370)) := by omega
theorem vc_X12_nextEvent_Wev_31 {z369 : Int} (h0 : z369 < 400) (h1 : z369 < 800) (h2 : 0 ≤ z369 ∧ z369 ≤ 799) : 0 ≤ z369 ∧ z369 ≤ 399 := by omega
theorem vc_X12_nextEvent_Wev_32 {z369 : Int} (h0 : 400 ≤ z369) (h1 : 0 ≤ z369 ∧ z369 ≤ 399) : False := by omega
theorem vc_X12_nextEvent_Wev_34 {N z369 : Int} (h0 : (801 - z369) < N + 1) (h1 : z369 < 800) (h2 : z369 < 400) (h3 : 0 ≤ z369 ∧ z369 ≤ 399) : (801 - (z369 + 1)) < N := by omega
theorem vc_X12_nextEvent_Wev_35 {z369 : Int} (h0 : z369 < 800) (h1 : z369 < 400) (h2 : 0 ≤ z369 ∧ z369 ≤ 399) : z369 < 400 := by omega
theorem vc_X12_nextEvent_Wev_36 {z369 : Int} (h0 : z369 < 800) (h1 : z369 < 400) (h2 : 0 ≤ z369 ∧ z369 ≤ 399) : 0 ≤ z369 := by omega
theorem vc_X12_nextEvent_Wev_43 {z369 : Int} (h0 : z369 < 800) (h1 : z369 < 400) (h2 : 0 ≤ z369 ∧ z369 ≤ 399) : z369 = (-99999999) ∨ (0 ≤ z369 ∧ z369 ≤ 799) := by omega
theorem vc_X12_nextEvent_Wev_53  : (((-99999999) : Int) : Int) = ((-99999999) : Int) ∨ ((0 : Int) ≤ (((-99999999) : Int) : Int) ∧ (((-99999999) : Int) : Int) ≤ (799 : Int)) := by omega
set_option maxRecDepth 4000 in
set_option maxHeartbeats 4000000 in
theorem c_X12_nextEvent_Wev {l : Launch} {D : va_G} {c : Nat → ClassId} {H0 : Heap} {sa : Nat × Nat × (Nat → Int32)} {w : mW} {μ : mM} (hw : mWF w) (hT : mT w μ) {Q : Int → mM → Prop} (hQ : WP_X12_nextEvent_Wev w μ  Q) : sC (gG l D c H0 sa) mX12_nextEvent 1 0 0 [.ref 106] (mk w μ) (qP w μ (fun z => ((-99999999) ≤ z ∧ z ≤ 799) ∧ z = nevF μ  ∧ (z = -99999999 ∨ (0 ≤ z ∧ z ≤ 799)) ∧ Q z μ ∧ True)) := by
  refine sC.of rfl (by decide) (le_t rfl) ?_
  refine mr_lvE (lv' := [(0, .ref 106)]) rfl ?_
  refine mr_ldc (pc := 0) (z := (-99999999)) dX12_nextEvent_0 wG_X12_29 (by decide) ?_
  refine mr_istore_n (pc := 2) (lv' := [(1, iv (-99999999)), (0, .ref 106)]) dX12_nextEvent_2 rfl (by decide) rfl ?_
  refine mr_iconst (pc := 3) (z := 0) dX12_nextEvent_3 ?_
  refine mr_istore_n (pc := 4) (lv' := [(2, iv 0), (1, iv (-99999999)), (0, .ref 106)]) dX12_nextEvent_4 rfl (by decide) rfl ?_
  refine mr_iconst (pc := 5) (z := 0) dX12_nextEvent_5 ?_
  refine mr_istore_n (pc := 6) (lv' := [(3, iv 0), (2, iv 0), (1, iv (-99999999)), (0, .ref 106)]) dX12_nextEvent_6 rfl (by decide) rfl ?_
  refine mr_iconst (pc := 7) (z := 0) dX12_nextEvent_7 ?_
  refine mr_istore (pc := 8) (lv' := [(4, iv 0), (3, iv 0), (2, iv 0), (1, iv (-99999999)), (0, .ref 106)]) dX12_nextEvent_8 (by decide) rfl ?_
  have L373 : ∀ (nL373 : Nat) (z372 z371 z370 z369 : Int), True → ((-99999999) ≤ z372 ∧ z372 ≤ 799) → (0 ≤ z371 ∧ z371 ≤ 2000000000) → ((-2147483648) ≤ z370 ∧ z370 ≤ 2147483647) → (0 ≤ z369 ∧ z369 ≤ 800) → nevL μ (z369).toNat = (z372, z371, z370) → (z372 = (-99999999) ∨ (0 ≤ z372 ∧ z372 ≤ 799)) → (801 - z369) < (nL373 : Int) → loopF (WL_X12_nextEvent_Wev_1 μ Q) False nL373 (z372, z371, z370, z369) → sV (gG l D c H0 sa) mX12_nextEvent (sRm 1 0 0) (sZ (gG l D c H0 sa) 0 0 (qP w μ (fun z => ((-99999999) ≤ z ∧ z ≤ 799) ∧ z = nevF μ  ∧ (z = -99999999 ∨ (0 ≤ z ∧ z ≤ 799)) ∧ Q z μ ∧ True))) 10 [(0, .ref 106), (1, iv z372), (2, iv z371), (3, iv z370), (4, iv z369)] [] (mk w μ) 0 0 := by
    intro nL373
    induction nL373 with
    | zero => intro z372 z371 z370 z369 _ h374 h375 h376 h377 R381 h382 h383 W384; exact ((vc_X8_cancel_W_2 h383 h377)).elim
    | succ nL373 ih385 =>
      intro z372 z371 z370 z369 _ h374 h375 h376 h377 R381 h382 h383 W384
      refine mr_iload (pc := 10) (z := z369) dX12_nextEvent_10 rfl ?_
      refine mr_sipush (pc := 12) (z := 800) dX12_nextEvent_12 (by decide) ?_
      refine mr_icmp_ge (pc := 15) (tgt := 132) dX12_nextEvent_15 (by decide) (r32 h377 rfl) (r32 (rR (x := 800)) rfl) (fun h422 => ?_) (fun h422 => ?_)
      · have h423 : 800 ≤ z369 ∧ z369 ≤ 800 := (vc_X12_nextEvent_Wev_2 h422 h377)
        refine mr_iload_n (pc := 132) (z := z372) dX12_nextEvent_132 rfl rfl ?_
        exact mr_iretP dX12_nextEvent_133 rfl (le_t rfl) (le_t rfl) ⟨h374, (nev.fin R381 (vc_X12_nextEvent_Wev_3 h422 h423)), (vc_X12_nextEvent_Wev_4 h374 h382), ((W384 z372 z371 z370 z369 rfl h374 h375 h376 h377).1 h422), trivial⟩
      have h424 : 0 ≤ z369 ∧ z369 ≤ 799 := (vc_X12_nextEvent_Wev_5 h422 h377)
      refine mr_iload (pc := 18) (z := z369) dX12_nextEvent_18 rfl ?_
      refine mr_sipush (pc := 20) (z := 400) dX12_nextEvent_20 (by decide) ?_
      refine mr_icmp_ge (pc := 23) (tgt := 36) dX12_nextEvent_23 (by decide) (r32 h424 rfl) (r32 (rR (x := 400)) rfl) (fun h425 => ?_) (fun h425 => ?_)
      · have h426 : 400 ≤ z369 ∧ z369 ≤ 799 := (vc_X12_nextEvent_Wev_6 h425 h422 h424)
        refine sv_aload_n (pc := 36) dX12_nextEvent_36 rfl rfl ?_
        refine gf_X12_79 (pc := 37) dX12_nextEvent_37 wF_X12_439 (A_106 hw) hT ?_
        refine mr_iload (pc := 40) (z := z369) dX12_nextEvent_40 rfl ?_
        refine mr_sipush (pc := 42) (z := 400) dX12_nextEvent_42 (by decide) ?_
        refine mr_isub (pc := 45) (x := z369) (y := 400) dX12_nextEvent_45 ?_
        refine la_159 (pc := 46) dX12_nextEvent_46 (A_159 hw) hT (rIx (n := 400) (rSub (e := 0) (f := 399) h426 (rR (x := 400)) rfl) rfl) fun z427 q428 h429 => ?_
        refine mr_istore (pc := 47) (lv' := [(5, iv z427), (0, .ref 106), (1, iv z372), (2, iv z371), (3, iv z370), (4, iv z369)]) dX12_nextEvent_47 (by decide) rfl ?_
        refine mr_iload (pc := 49) (z := z369) dX12_nextEvent_49 rfl ?_
        refine mr_sipush (pc := 51) (z := 400) dX12_nextEvent_51 (by decide) ?_
        refine mr_icmp_ge (pc := 54) (tgt := 67) dX12_nextEvent_54 (by decide) (r32 h426 rfl) (r32 (rR (x := 400)) rfl) (fun _ => ?_) (fun h => ((vc_X12_nextEvent_Wev_7 h h426)).elim)
        refine sv_aload_n (pc := 67) dX12_nextEvent_67 rfl rfl ?_
        refine gf_X12_80 (pc := 68) dX12_nextEvent_68 wF_X12_442 (A_106 hw) hT ?_
        refine mr_iload (pc := 71) (z := z369) dX12_nextEvent_71 rfl ?_
        refine mr_sipush (pc := 73) (z := 400) dX12_nextEvent_73 (by decide) ?_
        refine mr_isub (pc := 76) (x := z369) (y := 400) dX12_nextEvent_76 ?_
        refine la_160 (pc := 77) dX12_nextEvent_77 (A_160 hw) hT (rIx (n := 400) (rSub (e := 0) (f := 399) h426 (rR (x := 400)) rfl) rfl) fun z430 q431 h432 => ?_
        refine mr_istore (pc := 78) (lv' := [(6, iv z430), (5, iv z427), (0, .ref 106), (1, iv z372), (2, iv z371), (3, iv z370), (4, iv z369)]) dX12_nextEvent_78 (by decide) rfl ?_
        refine mr_iload (pc := 80) (z := z427) dX12_nextEvent_80 rfl ?_
        refine mr_if_lt (pc := 82) (tgt := 126) dX12_nextEvent_82 (by decide) (r32 h429 rfl) (fun h433 => ?_) (fun h433 => ?_)
        · have h434 : (-1) ≤ z427 ∧ z427 ≤ (-1) := (vc_X12_count_17 h433 h429)
          refine mr_iinc (pc := 126) (lv' := [(4, iv (z369 + 1)), (6, iv z430), (5, iv z427), (0, .ref 106), (1, iv z372), (2, iv z371), (3, iv z370)]) dX12_nextEvent_126 rfl (by decide) rfl ?_
          refine sv_goto (pc := 129) (tgt := 10) dX12_nextEvent_129 (by decide) ?_
          refine mr_lvS (lv' := [(0, .ref 106), (1, iv z372), (2, iv z371), (3, iv z370), (4, iv (z369 + 1))]) (List.forall_mem_cons.mpr ⟨rfl, List.forall_mem_cons.mpr ⟨rfl, List.forall_mem_cons.mpr ⟨rfl, List.forall_mem_cons.mpr ⟨rfl, List.forall_mem_cons.mpr ⟨rfl, fun _ h => absurd h List.not_mem_nil⟩⟩⟩⟩⟩) ?_
          exact ih385 z372 z371 z370 (z369 + 1) trivial h374 h375 h376 (rW (c := 0) (d := 800) (rAdd (e := 401) (f := 800) h426 (rR (x := 1)) rfl) rfl) (nev.not R381 (vc_X12_nextEvent_Wev_11 h422 h425 h426) (evF.hi (vc_X12_nextEvent_Wev_10 h422 h425 h426) rfl q428) (evM.hi (vc_X12_nextEvent_Wev_10 h422 h425 h426) rfl q431) (vc_X12_nextEvent_Wev_12 h433 h376 h375 h374 h382 h434 h432)) (vc_X12_nextEvent_Wev_13 h374 h382) (vc_X12_nextEvent_Wev_9 (nS h383) h422 h425 h426) ((((((W384 z372 z371 z370 z369 rfl h374 h375 h376 h377).2 h422).1 h425) z427 q428 h429) z430 q431 h432).1 h433)
        have h435 : 0 ≤ z427 ∧ z427 ≤ 2000001000 := (vc_X12_count_19 h433 h429)
        refine mr_iload (pc := 85) (z := z427) dX12_nextEvent_85 rfl ?_
        refine mr_ldcw (pc := 87) (z := 2000000000) dX12_nextEvent_87 wG_X12_606 (by decide) ?_
        refine mr_icmp_gt (pc := 90) (tgt := 126) dX12_nextEvent_90 (by decide) (r32 h435 rfl) (r32 (rR (x := 2000000000)) rfl) (fun h436 => ?_) (fun h436 => ?_)
        · have h437 : 2000000001 ≤ z427 ∧ z427 ≤ 2000001000 := (vc_X12_nextEvent_Wev_15 h436 h433 h435)
          refine mr_iinc (pc := 126) (lv' := [(4, iv (z369 + 1)), (6, iv z430), (5, iv z427), (0, .ref 106), (1, iv z372), (2, iv z371), (3, iv z370)]) dX12_nextEvent_126 rfl (by decide) rfl ?_
          refine sv_goto (pc := 129) (tgt := 10) dX12_nextEvent_129 (by decide) ?_
          refine mr_lvS (lv' := [(0, .ref 106), (1, iv z372), (2, iv z371), (3, iv z370), (4, iv (z369 + 1))]) (List.forall_mem_cons.mpr ⟨rfl, List.forall_mem_cons.mpr ⟨rfl, List.forall_mem_cons.mpr ⟨rfl, List.forall_mem_cons.mpr ⟨rfl, List.forall_mem_cons.mpr ⟨rfl, fun _ h => absurd h List.not_mem_nil⟩⟩⟩⟩⟩) ?_
          exact ih385 z372 z371 z370 (z369 + 1) trivial h374 h375 h376 (rW (c := 0) (d := 800) (rAdd (e := 401) (f := 800) h426 (rR (x := 1)) rfl) rfl) (nev.not R381 (vc_X12_nextEvent_Wev_11 h422 h425 h426) (evF.hi (vc_X12_nextEvent_Wev_10 h422 h425 h426) rfl q428) (evM.hi (vc_X12_nextEvent_Wev_10 h422 h425 h426) rfl q431) (vc_X12_nextEvent_Wev_16 h433 h436 h376 h375 h374 h382 h437 h432)) (vc_X12_nextEvent_Wev_13 h374 h382) (vc_X12_nextEvent_Wev_9 (nS h383) h422 h425 h426) (((((((W384 z372 z371 z370 z369 rfl h374 h375 h376 h377).2 h422).1 h425) z427 q428 h429) z430 q431 h432).2 h433).1 h436)
        have h438 : 0 ≤ z427 ∧ z427 ≤ 2000000000 := (vc_X12_nextEvent_Wev_17 h436 h433 h435)
        refine mr_iload_n (pc := 93) (z := z372) dX12_nextEvent_93 rfl rfl ?_
        refine mr_ldc (pc := 94) (z := (-99999999)) dX12_nextEvent_94 wG_X12_29 (by decide) ?_
        refine mr_icmp_eq (pc := 96) (tgt := 117) dX12_nextEvent_96 (by decide) (r32 h374 rfl) (r32 (rR (x := (-99999999))) rfl) (fun h439 => ?_) (fun h439 => ?_)
        · have h440 : (-99999999) ≤ z372 ∧ z372 ≤ (-99999999) := (vc_X12_nextEvent_Wev_18 h439 h374 h382)
          refine mr_iload (pc := 117) (z := z369) dX12_nextEvent_117 rfl ?_
          refine mr_istore_n (pc := 119) (lv' := [(1, iv z369), (6, iv z430), (5, iv z427), (0, .ref 106), (2, iv z371), (3, iv z370), (4, iv z369)]) dX12_nextEvent_119 rfl (by decide) rfl ?_
          refine mr_iload (pc := 120) (z := z427) dX12_nextEvent_120 rfl ?_
          refine mr_istore_n (pc := 122) (lv' := [(2, iv z427), (1, iv z369), (6, iv z430), (5, iv z427), (0, .ref 106), (3, iv z370), (4, iv z369)]) dX12_nextEvent_122 rfl (by decide) rfl ?_
          refine mr_iload (pc := 123) (z := z430) dX12_nextEvent_123 rfl ?_
          refine mr_istore_n (pc := 125) (lv' := [(3, iv z430), (2, iv z427), (1, iv z369), (6, iv z430), (5, iv z427), (0, .ref 106), (4, iv z369)]) dX12_nextEvent_125 rfl (by decide) rfl ?_
          refine mr_iinc (pc := 126) (lv' := [(4, iv (z369 + 1)), (3, iv z430), (2, iv z427), (1, iv z369), (6, iv z430), (5, iv z427), (0, .ref 106)]) dX12_nextEvent_126 rfl (by decide) rfl ?_
          refine sv_goto (pc := 129) (tgt := 10) dX12_nextEvent_129 (by decide) ?_
          refine mr_lvS (lv' := [(0, .ref 106), (1, iv z369), (2, iv z427), (3, iv z430), (4, iv (z369 + 1))]) (List.forall_mem_cons.mpr ⟨rfl, List.forall_mem_cons.mpr ⟨rfl, List.forall_mem_cons.mpr ⟨rfl, List.forall_mem_cons.mpr ⟨rfl, List.forall_mem_cons.mpr ⟨rfl, fun _ h => absurd h List.not_mem_nil⟩⟩⟩⟩⟩) ?_
          exact ih385 z369 z427 z430 (z369 + 1) trivial (rW (c := (-99999999)) (d := 799) h426 rfl) h438 h432 (rW (c := 0) (d := 800) (rAdd (e := 401) (f := 800) h426 (rR (x := 1)) rfl) rfl) (nev.upd R381 (vc_X12_nextEvent_Wev_11 h422 h425 h426) (evF.hi (vc_X12_nextEvent_Wev_10 h422 h425 h426) rfl q428) (evM.hi (vc_X12_nextEvent_Wev_10 h422 h425 h426) rfl q431) (vc_X12_nextEvent_Wev_19 h433 h436 h439 h376 h375 h440 h382 h438 h432)) (vc_X12_nextEvent_Wev_20 h422 h425 h426) (vc_X12_nextEvent_Wev_9 (nS h383) h422 h425 h426) ((((((((W384 z372 z371 z370 z369 rfl h374 h375 h376 h377).2 h422).1 h425) z427 q428 h429) z430 q431 h432).2 h433).2 h436).1 h439)
        have h441 : 0 ≤ z372 ∧ z372 ≤ 799 := (vc_X12_nextEvent_Wev_21 h439 h374 h382)
        refine mr_iload (pc := 99) (z := z427) dX12_nextEvent_99 rfl ?_
        refine mr_iload_n (pc := 101) (z := z371) dX12_nextEvent_101 rfl rfl ?_
        refine mr_icmp_lt (pc := 102) (tgt := 117) dX12_nextEvent_102 (by decide) (r32 h438 rfl) (r32 h375 rfl) (fun h442 => ?_) (fun h442 => ?_)
        · have h443 : 0 ≤ z427 ∧ z427 ≤ 1999999999 := (vc_X12_nextEvent_Wev_22 h442 h433 h436 h375 h438)
          have h444 : 1 ≤ z371 ∧ z371 ≤ 2000000000 := (vc_X12_nextEvent_Wev_23 h442 h433 h436 h375 h443)
          refine mr_iload (pc := 117) (z := z369) dX12_nextEvent_117 rfl ?_
          refine mr_istore_n (pc := 119) (lv' := [(1, iv z369), (6, iv z430), (5, iv z427), (0, .ref 106), (2, iv z371), (3, iv z370), (4, iv z369)]) dX12_nextEvent_119 rfl (by decide) rfl ?_
          refine mr_iload (pc := 120) (z := z427) dX12_nextEvent_120 rfl ?_
          refine mr_istore_n (pc := 122) (lv' := [(2, iv z427), (1, iv z369), (6, iv z430), (5, iv z427), (0, .ref 106), (3, iv z370), (4, iv z369)]) dX12_nextEvent_122 rfl (by decide) rfl ?_
          refine mr_iload (pc := 123) (z := z430) dX12_nextEvent_123 rfl ?_
          refine mr_istore_n (pc := 125) (lv' := [(3, iv z430), (2, iv z427), (1, iv z369), (6, iv z430), (5, iv z427), (0, .ref 106), (4, iv z369)]) dX12_nextEvent_125 rfl (by decide) rfl ?_
          refine mr_iinc (pc := 126) (lv' := [(4, iv (z369 + 1)), (3, iv z430), (2, iv z427), (1, iv z369), (6, iv z430), (5, iv z427), (0, .ref 106)]) dX12_nextEvent_126 rfl (by decide) rfl ?_
          refine sv_goto (pc := 129) (tgt := 10) dX12_nextEvent_129 (by decide) ?_
          refine mr_lvS (lv' := [(0, .ref 106), (1, iv z369), (2, iv z427), (3, iv z430), (4, iv (z369 + 1))]) (List.forall_mem_cons.mpr ⟨rfl, List.forall_mem_cons.mpr ⟨rfl, List.forall_mem_cons.mpr ⟨rfl, List.forall_mem_cons.mpr ⟨rfl, List.forall_mem_cons.mpr ⟨rfl, fun _ h => absurd h List.not_mem_nil⟩⟩⟩⟩⟩) ?_
          exact ih385 z369 z427 z430 (z369 + 1) trivial (rW (c := (-99999999)) (d := 799) h426 rfl) (rW (c := 0) (d := 2000000000) h443 rfl) h432 (rW (c := 0) (d := 800) (rAdd (e := 401) (f := 800) h426 (rR (x := 1)) rfl) rfl) (nev.upd R381 (vc_X12_nextEvent_Wev_11 h422 h425 h426) (evF.hi (vc_X12_nextEvent_Wev_10 h422 h425 h426) rfl q428) (evM.hi (vc_X12_nextEvent_Wev_10 h422 h425 h426) rfl q431) (vc_X12_nextEvent_Wev_24 h433 h436 h439 h442 h376 h444 h441 h382 h443 h432)) (vc_X12_nextEvent_Wev_20 h422 h425 h426) (vc_X12_nextEvent_Wev_9 (nS h383) h422 h425 h426) (((((((((W384 z372 z371 z370 z369 rfl h374 h375 h376 h377).2 h422).1 h425) z427 q428 h429) z430 q431 h432).2 h433).2 h436).2 h439).1 h442)
        refine mr_iload (pc := 105) (z := z427) dX12_nextEvent_105 rfl ?_
        refine mr_iload_n (pc := 107) (z := z371) dX12_nextEvent_107 rfl rfl ?_
        refine mr_icmp_ne (pc := 108) (tgt := 126) dX12_nextEvent_108 (by decide) (r32 h438 rfl) (r32 h375 rfl) (fun h445 => ?_) (fun h445 => ?_)
        · refine mr_iinc (pc := 126) (lv' := [(4, iv (z369 + 1)), (6, iv z430), (5, iv z427), (0, .ref 106), (1, iv z372), (2, iv z371), (3, iv z370)]) dX12_nextEvent_126 rfl (by decide) rfl ?_
          refine sv_goto (pc := 129) (tgt := 10) dX12_nextEvent_129 (by decide) ?_
          refine mr_lvS (lv' := [(0, .ref 106), (1, iv z372), (2, iv z371), (3, iv z370), (4, iv (z369 + 1))]) (List.forall_mem_cons.mpr ⟨rfl, List.forall_mem_cons.mpr ⟨rfl, List.forall_mem_cons.mpr ⟨rfl, List.forall_mem_cons.mpr ⟨rfl, List.forall_mem_cons.mpr ⟨rfl, fun _ h => absurd h List.not_mem_nil⟩⟩⟩⟩⟩) ?_
          exact ih385 z372 z371 z370 (z369 + 1) trivial (rW (c := (-99999999)) (d := 799) h441 rfl) h375 h376 (rW (c := 0) (d := 800) (rAdd (e := 401) (f := 800) h426 (rR (x := 1)) rfl) rfl) (nev.not R381 (vc_X12_nextEvent_Wev_11 h422 h425 h426) (evF.hi (vc_X12_nextEvent_Wev_10 h422 h425 h426) rfl q428) (evM.hi (vc_X12_nextEvent_Wev_10 h422 h425 h426) rfl q431) (vc_X12_nextEvent_Wev_25 h433 h436 h439 h442 h445 h376 h375 h441 h382 h438 h432)) (vc_X12_nextEvent_Wev_26 h439 h441 h382) (vc_X12_nextEvent_Wev_9 (nS h383) h422 h425 h426) ((((((((((W384 z372 z371 z370 z369 rfl h374 h375 h376 h377).2 h422).1 h425) z427 q428 h429) z430 q431 h432).2 h433).2 h436).2 h439).2 h442).1 h445)
        refine mr_iload (pc := 111) (z := z430) dX12_nextEvent_111 rfl ?_
        refine mr_iload_n (pc := 113) (z := z370) dX12_nextEvent_113 rfl rfl ?_
        refine mr_icmp_ge (pc := 114) (tgt := 126) dX12_nextEvent_114 (by decide) h432 h376 (fun h446 => ?_) (fun h446 => ?_)
        · refine mr_iinc (pc := 126) (lv' := [(4, iv (z369 + 1)), (6, iv z430), (5, iv z427), (0, .ref 106), (1, iv z372), (2, iv z371), (3, iv z370)]) dX12_nextEvent_126 rfl (by decide) rfl ?_
          refine sv_goto (pc := 129) (tgt := 10) dX12_nextEvent_129 (by decide) ?_
          refine mr_lvS (lv' := [(0, .ref 106), (1, iv z372), (2, iv z371), (3, iv z370), (4, iv (z369 + 1))]) (List.forall_mem_cons.mpr ⟨rfl, List.forall_mem_cons.mpr ⟨rfl, List.forall_mem_cons.mpr ⟨rfl, List.forall_mem_cons.mpr ⟨rfl, List.forall_mem_cons.mpr ⟨rfl, fun _ h => absurd h List.not_mem_nil⟩⟩⟩⟩⟩) ?_
          exact ih385 z372 z371 z370 (z369 + 1) trivial (rW (c := (-99999999)) (d := 799) h441 rfl) h375 h376 (rW (c := 0) (d := 800) (rAdd (e := 401) (f := 800) h426 (rR (x := 1)) rfl) rfl) (nev.not R381 (vc_X12_nextEvent_Wev_11 h422 h425 h426) (evF.hi (vc_X12_nextEvent_Wev_10 h422 h425 h426) rfl q428) (evM.hi (vc_X12_nextEvent_Wev_10 h422 h425 h426) rfl q431) (vc_X12_nextEvent_Wev_27 h433 h436 h439 h442 h445 h446 h376 h375 h441 h382 h438 h432)) (vc_X12_nextEvent_Wev_26 h439 h441 h382) (vc_X12_nextEvent_Wev_9 (nS h383) h422 h425 h426) (((((((((((W384 z372 z371 z370 z369 rfl h374 h375 h376 h377).2 h422).1 h425) z427 q428 h429) z430 q431 h432).2 h433).2 h436).2 h439).2 h442).2 h445).1 h446)
        have h447 : (-2147483648) ≤ z430 ∧ z430 ≤ 2147483646 := (vc_X7_addMark_W_16 h446 h376 h432)
        have h448 : (-2147483647) ≤ z370 ∧ z370 ≤ 2147483647 := (vc_X7_addMark_W_17 h446 h376 h447)
        refine mr_iload (pc := 117) (z := z369) dX12_nextEvent_117 rfl ?_
        refine mr_istore_n (pc := 119) (lv' := [(1, iv z369), (6, iv z430), (5, iv z427), (0, .ref 106), (2, iv z371), (3, iv z370), (4, iv z369)]) dX12_nextEvent_119 rfl (by decide) rfl ?_
        refine mr_iload (pc := 120) (z := z427) dX12_nextEvent_120 rfl ?_
        refine mr_istore_n (pc := 122) (lv' := [(2, iv z427), (1, iv z369), (6, iv z430), (5, iv z427), (0, .ref 106), (3, iv z370), (4, iv z369)]) dX12_nextEvent_122 rfl (by decide) rfl ?_
        refine mr_iload (pc := 123) (z := z430) dX12_nextEvent_123 rfl ?_
        refine mr_istore_n (pc := 125) (lv' := [(3, iv z430), (2, iv z427), (1, iv z369), (6, iv z430), (5, iv z427), (0, .ref 106), (4, iv z369)]) dX12_nextEvent_125 rfl (by decide) rfl ?_
        refine mr_iinc (pc := 126) (lv' := [(4, iv (z369 + 1)), (3, iv z430), (2, iv z427), (1, iv z369), (6, iv z430), (5, iv z427), (0, .ref 106)]) dX12_nextEvent_126 rfl (by decide) rfl ?_
        refine sv_goto (pc := 129) (tgt := 10) dX12_nextEvent_129 (by decide) ?_
        refine mr_lvS (lv' := [(0, .ref 106), (1, iv z369), (2, iv z427), (3, iv z430), (4, iv (z369 + 1))]) (List.forall_mem_cons.mpr ⟨rfl, List.forall_mem_cons.mpr ⟨rfl, List.forall_mem_cons.mpr ⟨rfl, List.forall_mem_cons.mpr ⟨rfl, List.forall_mem_cons.mpr ⟨rfl, fun _ h => absurd h List.not_mem_nil⟩⟩⟩⟩⟩) ?_
        exact ih385 z369 z427 z430 (z369 + 1) trivial (rW (c := (-99999999)) (d := 799) h426 rfl) h438 (rW (c := (-2147483648)) (d := 2147483647) h447 rfl) (rW (c := 0) (d := 800) (rAdd (e := 401) (f := 800) h426 (rR (x := 1)) rfl) rfl) (nev.upd R381 (vc_X12_nextEvent_Wev_11 h422 h425 h426) (evF.hi (vc_X12_nextEvent_Wev_10 h422 h425 h426) rfl q428) (evM.hi (vc_X12_nextEvent_Wev_10 h422 h425 h426) rfl q431) (vc_X12_nextEvent_Wev_30 h433 h436 h439 h442 h445 h446 h448 h375 h441 h382 h438 h447)) (vc_X12_nextEvent_Wev_20 h422 h425 h426) (vc_X12_nextEvent_Wev_9 (nS h383) h422 h425 h426) (((((((((((W384 z372 z371 z370 z369 rfl h374 h375 h376 h377).2 h422).1 h425) z427 q428 h429) z430 q431 h432).2 h433).2 h436).2 h439).2 h442).2 h445).2 h446)
      have h449 : 0 ≤ z369 ∧ z369 ≤ 399 := (vc_X12_nextEvent_Wev_31 h425 h422 h424)
      refine sv_aload_n (pc := 26) dX12_nextEvent_26 rfl rfl ?_
      refine gf_X12_77 (pc := 27) dX12_nextEvent_27 wF_X12_433 (A_106 hw) hT ?_
      refine mr_iload (pc := 30) (z := z369) dX12_nextEvent_30 rfl ?_
      refine la_157 (pc := 32) dX12_nextEvent_32 (A_157 hw) hT (rIx (n := 400) h449 rfl) fun z450 q451 h452 => ?_
      refine sv_goto (pc := 33) (tgt := 47) dX12_nextEvent_33 (by decide) ?_
      refine mr_istore (pc := 47) (lv' := [(5, iv z450), (0, .ref 106), (1, iv z372), (2, iv z371), (3, iv z370), (4, iv z369)]) dX12_nextEvent_47 (by decide) rfl ?_
      refine mr_iload (pc := 49) (z := z369) dX12_nextEvent_49 rfl ?_
      refine mr_sipush (pc := 51) (z := 400) dX12_nextEvent_51 (by decide) ?_
      refine mr_icmp_ge (pc := 54) (tgt := 67) dX12_nextEvent_54 (by decide) (r32 h449 rfl) (r32 (rR (x := 400)) rfl) (fun h => ((vc_X12_nextEvent_Wev_32 h h449)).elim) (fun _ => ?_)
      refine sv_aload_n (pc := 57) dX12_nextEvent_57 rfl rfl ?_
      refine gf_X12_78 (pc := 58) dX12_nextEvent_58 wF_X12_436 (A_106 hw) hT ?_
      refine mr_iload (pc := 61) (z := z369) dX12_nextEvent_61 rfl ?_
      refine la_158 (pc := 63) dX12_nextEvent_63 (A_158 hw) hT (rIx (n := 400) h449 rfl) fun z453 q454 h455 => ?_
      refine sv_goto (pc := 64) (tgt := 78) dX12_nextEvent_64 (by decide) ?_
      refine mr_istore (pc := 78) (lv' := [(6, iv z453), (5, iv z450), (0, .ref 106), (1, iv z372), (2, iv z371), (3, iv z370), (4, iv z369)]) dX12_nextEvent_78 (by decide) rfl ?_
      refine mr_iload (pc := 80) (z := z450) dX12_nextEvent_80 rfl ?_
      refine mr_if_lt (pc := 82) (tgt := 126) dX12_nextEvent_82 (by decide) (r32 h452 rfl) (fun h456 => ?_) (fun h456 => ?_)
      · have h457 : (-1) ≤ z450 ∧ z450 ≤ (-1) := (vc_X12_count_17 h456 h452)
        refine mr_iinc (pc := 126) (lv' := [(4, iv (z369 + 1)), (6, iv z453), (5, iv z450), (0, .ref 106), (1, iv z372), (2, iv z371), (3, iv z370)]) dX12_nextEvent_126 rfl (by decide) rfl ?_
        refine sv_goto (pc := 129) (tgt := 10) dX12_nextEvent_129 (by decide) ?_
        refine mr_lvS (lv' := [(0, .ref 106), (1, iv z372), (2, iv z371), (3, iv z370), (4, iv (z369 + 1))]) (List.forall_mem_cons.mpr ⟨rfl, List.forall_mem_cons.mpr ⟨rfl, List.forall_mem_cons.mpr ⟨rfl, List.forall_mem_cons.mpr ⟨rfl, List.forall_mem_cons.mpr ⟨rfl, fun _ h => absurd h List.not_mem_nil⟩⟩⟩⟩⟩) ?_
        exact ih385 z372 z371 z370 (z369 + 1) trivial h374 h375 h376 (rW (c := 0) (d := 800) (rAdd (e := 1) (f := 400) h449 (rR (x := 1)) rfl) rfl) (nev.not R381 (vc_X12_nextEvent_Wev_36 h422 h425 h449) (evF.lo (vc_X12_nextEvent_Wev_35 h422 h425 h449) q451) (evM.lo (vc_X12_nextEvent_Wev_35 h422 h425 h449) q454) (vc_X12_nextEvent_Wev_12 h456 h376 h375 h374 h382 h457 h455)) (vc_X12_nextEvent_Wev_13 h374 h382) (vc_X12_nextEvent_Wev_34 (nS h383) h422 h425 h449) ((((((W384 z372 z371 z370 z369 rfl h374 h375 h376 h377).2 h422).2 h425) z450 q451 h452) z453 q454 h455).1 h456)
      have h458 : 0 ≤ z450 ∧ z450 ≤ 2000001000 := (vc_X12_count_19 h456 h452)
      refine mr_iload (pc := 85) (z := z450) dX12_nextEvent_85 rfl ?_
      refine mr_ldcw (pc := 87) (z := 2000000000) dX12_nextEvent_87 wG_X12_606 (by decide) ?_
      refine mr_icmp_gt (pc := 90) (tgt := 126) dX12_nextEvent_90 (by decide) (r32 h458 rfl) (r32 (rR (x := 2000000000)) rfl) (fun h459 => ?_) (fun h459 => ?_)
      · have h460 : 2000000001 ≤ z450 ∧ z450 ≤ 2000001000 := (vc_X12_nextEvent_Wev_15 h459 h456 h458)
        refine mr_iinc (pc := 126) (lv' := [(4, iv (z369 + 1)), (6, iv z453), (5, iv z450), (0, .ref 106), (1, iv z372), (2, iv z371), (3, iv z370)]) dX12_nextEvent_126 rfl (by decide) rfl ?_
        refine sv_goto (pc := 129) (tgt := 10) dX12_nextEvent_129 (by decide) ?_
        refine mr_lvS (lv' := [(0, .ref 106), (1, iv z372), (2, iv z371), (3, iv z370), (4, iv (z369 + 1))]) (List.forall_mem_cons.mpr ⟨rfl, List.forall_mem_cons.mpr ⟨rfl, List.forall_mem_cons.mpr ⟨rfl, List.forall_mem_cons.mpr ⟨rfl, List.forall_mem_cons.mpr ⟨rfl, fun _ h => absurd h List.not_mem_nil⟩⟩⟩⟩⟩) ?_
        exact ih385 z372 z371 z370 (z369 + 1) trivial h374 h375 h376 (rW (c := 0) (d := 800) (rAdd (e := 1) (f := 400) h449 (rR (x := 1)) rfl) rfl) (nev.not R381 (vc_X12_nextEvent_Wev_36 h422 h425 h449) (evF.lo (vc_X12_nextEvent_Wev_35 h422 h425 h449) q451) (evM.lo (vc_X12_nextEvent_Wev_35 h422 h425 h449) q454) (vc_X12_nextEvent_Wev_16 h456 h459 h376 h375 h374 h382 h460 h455)) (vc_X12_nextEvent_Wev_13 h374 h382) (vc_X12_nextEvent_Wev_34 (nS h383) h422 h425 h449) (((((((W384 z372 z371 z370 z369 rfl h374 h375 h376 h377).2 h422).2 h425) z450 q451 h452) z453 q454 h455).2 h456).1 h459)
      have h461 : 0 ≤ z450 ∧ z450 ≤ 2000000000 := (vc_X12_nextEvent_Wev_17 h459 h456 h458)
      refine mr_iload_n (pc := 93) (z := z372) dX12_nextEvent_93 rfl rfl ?_
      refine mr_ldc (pc := 94) (z := (-99999999)) dX12_nextEvent_94 wG_X12_29 (by decide) ?_
      refine mr_icmp_eq (pc := 96) (tgt := 117) dX12_nextEvent_96 (by decide) (r32 h374 rfl) (r32 (rR (x := (-99999999))) rfl) (fun h462 => ?_) (fun h462 => ?_)
      · have h463 : (-99999999) ≤ z372 ∧ z372 ≤ (-99999999) := (vc_X12_nextEvent_Wev_18 h462 h374 h382)
        refine mr_iload (pc := 117) (z := z369) dX12_nextEvent_117 rfl ?_
        refine mr_istore_n (pc := 119) (lv' := [(1, iv z369), (6, iv z453), (5, iv z450), (0, .ref 106), (2, iv z371), (3, iv z370), (4, iv z369)]) dX12_nextEvent_119 rfl (by decide) rfl ?_
        refine mr_iload (pc := 120) (z := z450) dX12_nextEvent_120 rfl ?_
        refine mr_istore_n (pc := 122) (lv' := [(2, iv z450), (1, iv z369), (6, iv z453), (5, iv z450), (0, .ref 106), (3, iv z370), (4, iv z369)]) dX12_nextEvent_122 rfl (by decide) rfl ?_
        refine mr_iload (pc := 123) (z := z453) dX12_nextEvent_123 rfl ?_
        refine mr_istore_n (pc := 125) (lv' := [(3, iv z453), (2, iv z450), (1, iv z369), (6, iv z453), (5, iv z450), (0, .ref 106), (4, iv z369)]) dX12_nextEvent_125 rfl (by decide) rfl ?_
        refine mr_iinc (pc := 126) (lv' := [(4, iv (z369 + 1)), (3, iv z453), (2, iv z450), (1, iv z369), (6, iv z453), (5, iv z450), (0, .ref 106)]) dX12_nextEvent_126 rfl (by decide) rfl ?_
        refine sv_goto (pc := 129) (tgt := 10) dX12_nextEvent_129 (by decide) ?_
        refine mr_lvS (lv' := [(0, .ref 106), (1, iv z369), (2, iv z450), (3, iv z453), (4, iv (z369 + 1))]) (List.forall_mem_cons.mpr ⟨rfl, List.forall_mem_cons.mpr ⟨rfl, List.forall_mem_cons.mpr ⟨rfl, List.forall_mem_cons.mpr ⟨rfl, List.forall_mem_cons.mpr ⟨rfl, fun _ h => absurd h List.not_mem_nil⟩⟩⟩⟩⟩) ?_
        exact ih385 z369 z450 z453 (z369 + 1) trivial (rW (c := (-99999999)) (d := 799) h449 rfl) h461 h455 (rW (c := 0) (d := 800) (rAdd (e := 1) (f := 400) h449 (rR (x := 1)) rfl) rfl) (nev.upd R381 (vc_X12_nextEvent_Wev_36 h422 h425 h449) (evF.lo (vc_X12_nextEvent_Wev_35 h422 h425 h449) q451) (evM.lo (vc_X12_nextEvent_Wev_35 h422 h425 h449) q454) (vc_X12_nextEvent_Wev_19 h456 h459 h462 h376 h375 h463 h382 h461 h455)) (vc_X12_nextEvent_Wev_43 h422 h425 h449) (vc_X12_nextEvent_Wev_34 (nS h383) h422 h425 h449) ((((((((W384 z372 z371 z370 z369 rfl h374 h375 h376 h377).2 h422).2 h425) z450 q451 h452) z453 q454 h455).2 h456).2 h459).1 h462)
      have h464 : 0 ≤ z372 ∧ z372 ≤ 799 := (vc_X12_nextEvent_Wev_21 h462 h374 h382)
      refine mr_iload (pc := 99) (z := z450) dX12_nextEvent_99 rfl ?_
      refine mr_iload_n (pc := 101) (z := z371) dX12_nextEvent_101 rfl rfl ?_
      refine mr_icmp_lt (pc := 102) (tgt := 117) dX12_nextEvent_102 (by decide) (r32 h461 rfl) (r32 h375 rfl) (fun h465 => ?_) (fun h465 => ?_)
      · have h466 : 0 ≤ z450 ∧ z450 ≤ 1999999999 := (vc_X12_nextEvent_Wev_22 h465 h456 h459 h375 h461)
        have h467 : 1 ≤ z371 ∧ z371 ≤ 2000000000 := (vc_X12_nextEvent_Wev_23 h465 h456 h459 h375 h466)
        refine mr_iload (pc := 117) (z := z369) dX12_nextEvent_117 rfl ?_
        refine mr_istore_n (pc := 119) (lv' := [(1, iv z369), (6, iv z453), (5, iv z450), (0, .ref 106), (2, iv z371), (3, iv z370), (4, iv z369)]) dX12_nextEvent_119 rfl (by decide) rfl ?_
        refine mr_iload (pc := 120) (z := z450) dX12_nextEvent_120 rfl ?_
        refine mr_istore_n (pc := 122) (lv' := [(2, iv z450), (1, iv z369), (6, iv z453), (5, iv z450), (0, .ref 106), (3, iv z370), (4, iv z369)]) dX12_nextEvent_122 rfl (by decide) rfl ?_
        refine mr_iload (pc := 123) (z := z453) dX12_nextEvent_123 rfl ?_
        refine mr_istore_n (pc := 125) (lv' := [(3, iv z453), (2, iv z450), (1, iv z369), (6, iv z453), (5, iv z450), (0, .ref 106), (4, iv z369)]) dX12_nextEvent_125 rfl (by decide) rfl ?_
        refine mr_iinc (pc := 126) (lv' := [(4, iv (z369 + 1)), (3, iv z453), (2, iv z450), (1, iv z369), (6, iv z453), (5, iv z450), (0, .ref 106)]) dX12_nextEvent_126 rfl (by decide) rfl ?_
        refine sv_goto (pc := 129) (tgt := 10) dX12_nextEvent_129 (by decide) ?_
        refine mr_lvS (lv' := [(0, .ref 106), (1, iv z369), (2, iv z450), (3, iv z453), (4, iv (z369 + 1))]) (List.forall_mem_cons.mpr ⟨rfl, List.forall_mem_cons.mpr ⟨rfl, List.forall_mem_cons.mpr ⟨rfl, List.forall_mem_cons.mpr ⟨rfl, List.forall_mem_cons.mpr ⟨rfl, fun _ h => absurd h List.not_mem_nil⟩⟩⟩⟩⟩) ?_
        exact ih385 z369 z450 z453 (z369 + 1) trivial (rW (c := (-99999999)) (d := 799) h449 rfl) (rW (c := 0) (d := 2000000000) h466 rfl) h455 (rW (c := 0) (d := 800) (rAdd (e := 1) (f := 400) h449 (rR (x := 1)) rfl) rfl) (nev.upd R381 (vc_X12_nextEvent_Wev_36 h422 h425 h449) (evF.lo (vc_X12_nextEvent_Wev_35 h422 h425 h449) q451) (evM.lo (vc_X12_nextEvent_Wev_35 h422 h425 h449) q454) (vc_X12_nextEvent_Wev_24 h456 h459 h462 h465 h376 h467 h464 h382 h466 h455)) (vc_X12_nextEvent_Wev_43 h422 h425 h449) (vc_X12_nextEvent_Wev_34 (nS h383) h422 h425 h449) (((((((((W384 z372 z371 z370 z369 rfl h374 h375 h376 h377).2 h422).2 h425) z450 q451 h452) z453 q454 h455).2 h456).2 h459).2 h462).1 h465)
      refine mr_iload (pc := 105) (z := z450) dX12_nextEvent_105 rfl ?_
      refine mr_iload_n (pc := 107) (z := z371) dX12_nextEvent_107 rfl rfl ?_
      refine mr_icmp_ne (pc := 108) (tgt := 126) dX12_nextEvent_108 (by decide) (r32 h461 rfl) (r32 h375 rfl) (fun h468 => ?_) (fun h468 => ?_)
      · refine mr_iinc (pc := 126) (lv' := [(4, iv (z369 + 1)), (6, iv z453), (5, iv z450), (0, .ref 106), (1, iv z372), (2, iv z371), (3, iv z370)]) dX12_nextEvent_126 rfl (by decide) rfl ?_
        refine sv_goto (pc := 129) (tgt := 10) dX12_nextEvent_129 (by decide) ?_
        refine mr_lvS (lv' := [(0, .ref 106), (1, iv z372), (2, iv z371), (3, iv z370), (4, iv (z369 + 1))]) (List.forall_mem_cons.mpr ⟨rfl, List.forall_mem_cons.mpr ⟨rfl, List.forall_mem_cons.mpr ⟨rfl, List.forall_mem_cons.mpr ⟨rfl, List.forall_mem_cons.mpr ⟨rfl, fun _ h => absurd h List.not_mem_nil⟩⟩⟩⟩⟩) ?_
        exact ih385 z372 z371 z370 (z369 + 1) trivial (rW (c := (-99999999)) (d := 799) h464 rfl) h375 h376 (rW (c := 0) (d := 800) (rAdd (e := 1) (f := 400) h449 (rR (x := 1)) rfl) rfl) (nev.not R381 (vc_X12_nextEvent_Wev_36 h422 h425 h449) (evF.lo (vc_X12_nextEvent_Wev_35 h422 h425 h449) q451) (evM.lo (vc_X12_nextEvent_Wev_35 h422 h425 h449) q454) (vc_X12_nextEvent_Wev_25 h456 h459 h462 h465 h468 h376 h375 h464 h382 h461 h455)) (vc_X12_nextEvent_Wev_26 h462 h464 h382) (vc_X12_nextEvent_Wev_34 (nS h383) h422 h425 h449) ((((((((((W384 z372 z371 z370 z369 rfl h374 h375 h376 h377).2 h422).2 h425) z450 q451 h452) z453 q454 h455).2 h456).2 h459).2 h462).2 h465).1 h468)
      refine mr_iload (pc := 111) (z := z453) dX12_nextEvent_111 rfl ?_
      refine mr_iload_n (pc := 113) (z := z370) dX12_nextEvent_113 rfl rfl ?_
      refine mr_icmp_ge (pc := 114) (tgt := 126) dX12_nextEvent_114 (by decide) h455 h376 (fun h469 => ?_) (fun h469 => ?_)
      · refine mr_iinc (pc := 126) (lv' := [(4, iv (z369 + 1)), (6, iv z453), (5, iv z450), (0, .ref 106), (1, iv z372), (2, iv z371), (3, iv z370)]) dX12_nextEvent_126 rfl (by decide) rfl ?_
        refine sv_goto (pc := 129) (tgt := 10) dX12_nextEvent_129 (by decide) ?_
        refine mr_lvS (lv' := [(0, .ref 106), (1, iv z372), (2, iv z371), (3, iv z370), (4, iv (z369 + 1))]) (List.forall_mem_cons.mpr ⟨rfl, List.forall_mem_cons.mpr ⟨rfl, List.forall_mem_cons.mpr ⟨rfl, List.forall_mem_cons.mpr ⟨rfl, List.forall_mem_cons.mpr ⟨rfl, fun _ h => absurd h List.not_mem_nil⟩⟩⟩⟩⟩) ?_
        exact ih385 z372 z371 z370 (z369 + 1) trivial (rW (c := (-99999999)) (d := 799) h464 rfl) h375 h376 (rW (c := 0) (d := 800) (rAdd (e := 1) (f := 400) h449 (rR (x := 1)) rfl) rfl) (nev.not R381 (vc_X12_nextEvent_Wev_36 h422 h425 h449) (evF.lo (vc_X12_nextEvent_Wev_35 h422 h425 h449) q451) (evM.lo (vc_X12_nextEvent_Wev_35 h422 h425 h449) q454) (vc_X12_nextEvent_Wev_27 h456 h459 h462 h465 h468 h469 h376 h375 h464 h382 h461 h455)) (vc_X12_nextEvent_Wev_26 h462 h464 h382) (vc_X12_nextEvent_Wev_34 (nS h383) h422 h425 h449) (((((((((((W384 z372 z371 z370 z369 rfl h374 h375 h376 h377).2 h422).2 h425) z450 q451 h452) z453 q454 h455).2 h456).2 h459).2 h462).2 h465).2 h468).1 h469)
      have h470 : (-2147483648) ≤ z453 ∧ z453 ≤ 2147483646 := (vc_X7_addMark_W_16 h469 h376 h455)
      have h471 : (-2147483647) ≤ z370 ∧ z370 ≤ 2147483647 := (vc_X7_addMark_W_17 h469 h376 h470)
      refine mr_iload (pc := 117) (z := z369) dX12_nextEvent_117 rfl ?_
      refine mr_istore_n (pc := 119) (lv' := [(1, iv z369), (6, iv z453), (5, iv z450), (0, .ref 106), (2, iv z371), (3, iv z370), (4, iv z369)]) dX12_nextEvent_119 rfl (by decide) rfl ?_
      refine mr_iload (pc := 120) (z := z450) dX12_nextEvent_120 rfl ?_
      refine mr_istore_n (pc := 122) (lv' := [(2, iv z450), (1, iv z369), (6, iv z453), (5, iv z450), (0, .ref 106), (3, iv z370), (4, iv z369)]) dX12_nextEvent_122 rfl (by decide) rfl ?_
      refine mr_iload (pc := 123) (z := z453) dX12_nextEvent_123 rfl ?_
      refine mr_istore_n (pc := 125) (lv' := [(3, iv z453), (2, iv z450), (1, iv z369), (6, iv z453), (5, iv z450), (0, .ref 106), (4, iv z369)]) dX12_nextEvent_125 rfl (by decide) rfl ?_
      refine mr_iinc (pc := 126) (lv' := [(4, iv (z369 + 1)), (3, iv z453), (2, iv z450), (1, iv z369), (6, iv z453), (5, iv z450), (0, .ref 106)]) dX12_nextEvent_126 rfl (by decide) rfl ?_
      refine sv_goto (pc := 129) (tgt := 10) dX12_nextEvent_129 (by decide) ?_
      refine mr_lvS (lv' := [(0, .ref 106), (1, iv z369), (2, iv z450), (3, iv z453), (4, iv (z369 + 1))]) (List.forall_mem_cons.mpr ⟨rfl, List.forall_mem_cons.mpr ⟨rfl, List.forall_mem_cons.mpr ⟨rfl, List.forall_mem_cons.mpr ⟨rfl, List.forall_mem_cons.mpr ⟨rfl, fun _ h => absurd h List.not_mem_nil⟩⟩⟩⟩⟩) ?_
      exact ih385 z369 z450 z453 (z369 + 1) trivial (rW (c := (-99999999)) (d := 799) h449 rfl) h461 (rW (c := (-2147483648)) (d := 2147483647) h470 rfl) (rW (c := 0) (d := 800) (rAdd (e := 1) (f := 400) h449 (rR (x := 1)) rfl) rfl) (nev.upd R381 (vc_X12_nextEvent_Wev_36 h422 h425 h449) (evF.lo (vc_X12_nextEvent_Wev_35 h422 h425 h449) q451) (evM.lo (vc_X12_nextEvent_Wev_35 h422 h425 h449) q454) (vc_X12_nextEvent_Wev_30 h456 h459 h462 h465 h468 h469 h471 h375 h464 h382 h461 h470)) (vc_X12_nextEvent_Wev_43 h422 h425 h449) (vc_X12_nextEvent_Wev_34 (nS h383) h422 h425 h449) (((((((((((W384 z372 z371 z370 z369 rfl h374 h375 h376 h377).2 h422).2 h425) z450 q451 h452) z453 q454 h455).2 h456).2 h459).2 h462).2 h465).2 h468).2 h469)
  refine mr_lvS (lv' := [(0, .ref 106), (1, iv (-99999999)), (2, iv 0), (3, iv 0), (4, iv 0)]) (List.forall_mem_cons.mpr ⟨rfl, List.forall_mem_cons.mpr ⟨rfl, List.forall_mem_cons.mpr ⟨rfl, List.forall_mem_cons.mpr ⟨rfl, List.forall_mem_cons.mpr ⟨rfl, fun _ h => absurd h List.not_mem_nil⟩⟩⟩⟩⟩) ?_
  exact L373 802 (-99999999) 0 0 0 trivial (rW (c := (-99999999)) (d := 799) (rR (x := (-99999999))) rfl) (rW (c := 0) (d := 2000000000) (rR (x := 0)) rfl) (rW (c := (-2147483648)) (d := 2147483647) (rR (x := 0)) rfl) (rW (c := 0) (d := 800) (rR (x := 0)) rfl) nev.zero vc_X12_nextEvent_Wev_53 vc_X8_cancel_W_12 hQ
def WL_X12_go_W_1 (w : mW) (μ : mM) (p1 : Int) (Q : Int → mM → Prop) (rec1 : (Int × mM) → Prop) (s : (Int × mM)) : Prop := ∀ z296 : Int, ∀ μ297 : mM, s = (z296, μ297) → (0 ≤ z296 ∧ z296 ≤ 500) → mT w μ297 → mF [106026, 106027, 106028, 106029, 106030, 106031, 106071, 106072, 106073, 126999, 151999, 152999, 153999, 154999, 155999, 156999, 157999, 158999, 159999, 160999, 161999, 165999] w μ μ297 → ((p1 ≤ z296) → Q z296 μ297) ∧ ((z296 < p1) → WP_X12_nextEvent_Wev w μ297  (fun z338 _ => ((-99999999) ≤ z338 ∧ z338 ≤ 799) → ((z338 = (-99999999)) → Q z296 μ297) ∧ ((¬ z338 = (-99999999)) → WP_X12_nextEvent_Wev w μ297  (fun z361 _ => ((-99999999) ≤ z361 ∧ z361 ≤ 799) → ∀ z363 : Int, μ297 106 6 = z363 → (0 ≤ z363 ∧ z363 ≤ 20) → WP_X12_doEvent_W w μ297 z361 (fun μ366 => mT w μ366 → mF [106026, 106027, 106028, 106029, 106030, 106031, 106071, 106072, 106073, 126999, 151999, 152999, 153999, 154999, 155999, 156999, 157999, 158999, 159999, 160999, 161999, 165999] w μ297 μ366 → rec1 ((z296 + 1), μ366))))))
def WP_X12_go_W (w : mW) (μ : mM) (p1 : Int) (Q : Int → mM → Prop) : Prop := WP_X12_in_W w μ p1 (1) (500) (fun z5 _ => (0 ≤ z5 ∧ z5 ≤ 1) → ((¬ z5 = 0) → loopF (WL_X12_go_W_1 w μ p1 Q) False 502 ((0 : Int), μ)) ∧ ((z5 = 0) → Q ((-1) : Int) μ))
theorem vc_X12_go_W_1 {p1 z5 : Int} (h0 : ¬ z5 = 0) (h1 : (z5 = 1 → (1 : Int) ≤ p1 ∧ p1 ≤ (500 : Int))) (h2 : (z5 = 0 → p1 < (1 : Int) ∨ (500 : Int) < p1)) (h3 : (-2147483648) ≤ p1 ∧ p1 ≤ 2147483647) (h4 : 0 ≤ z5 ∧ z5 ≤ 1) : 1 ≤ z5 ∧ z5 ≤ 1 := by omega
theorem vc_X12_go_W_2 {p1 z5 : Int} (h0 : (z5 = 1 → (1 : Int) ≤ p1 ∧ p1 ≤ (500 : Int))) (h1 : (z5 = 0 → p1 < (1 : Int) ∨ (500 : Int) < p1)) (h2 : ¬ z5 = 0) (h3 : (-2147483648) ≤ p1 ∧ p1 ≤ 2147483647) (h4 : 1 ≤ z5 ∧ z5 ≤ 1) : z5 = 1 := by omega
theorem vc_X12_go_W_3 {p1 z5 : Int} (h0 : (1 : Int) ≤ p1 ∧ p1 ≤ (500 : Int)) (h1 : (z5 = 1 → (1 : Int) ≤ p1 ∧ p1 ≤ (500 : Int))) (h2 : (z5 = 0 → p1 < (1 : Int) ∨ (500 : Int) < p1)) (h3 : (-2147483648) ≤ p1 ∧ p1 ≤ 2147483647) (h4 : 1 ≤ z5 ∧ z5 ≤ 1) : 1 ≤ p1 ∧ p1 ≤ 500 := by omega
theorem vc_X12_go_W_5 {p1 z296 z5 : Int} (h0 : p1 ≤ z296) (h1 : (z5 = 1 → (1 : Int) ≤ p1 ∧ p1 ≤ (500 : Int))) (h2 : (z5 = 0 → p1 < (1 : Int) ∨ (500 : Int) < p1)) (h3 : (1 : Int) ≤ p1 ∧ p1 ≤ (500 : Int)) (h4 : 1 ≤ p1 ∧ p1 ≤ 500) (h5 : 0 ≤ z296 ∧ z296 ≤ 500) (h6 : 1 ≤ z5 ∧ z5 ≤ 1) : 1 ≤ z296 ∧ z296 ≤ 500 := by omega
theorem vc_X12_go_W_6 {p1 z296 z5 : Int} (h0 : z296 < p1) (h1 : (z5 = 1 → (1 : Int) ≤ p1 ∧ p1 ≤ (500 : Int))) (h2 : (z5 = 0 → p1 < (1 : Int) ∨ (500 : Int) < p1)) (h3 : (1 : Int) ≤ p1 ∧ p1 ≤ (500 : Int)) (h4 : 1 ≤ p1 ∧ p1 ≤ 500) (h5 : 0 ≤ z296 ∧ z296 ≤ 500) (h6 : 1 ≤ z5 ∧ z5 ≤ 1) : 0 ≤ z296 ∧ z296 ≤ 499 := by omega
theorem vc_X12_go_W_7 {z338 : Int} (h0 : z338 = (-99999999)) (h1 : z338 = -99999999 ∨ (0 ≤ z338 ∧ z338 ≤ 799)) (h2 : (-99999999) ≤ z338 ∧ z338 ≤ 799) : (-99999999) ≤ z338 ∧ z338 ≤ (-99999999) := by omega
theorem vc_X12_go_W_8 {z338 : Int} (h0 : ¬ z338 = (-99999999)) (h1 : z338 = -99999999 ∨ (0 ≤ z338 ∧ z338 ≤ 799)) (h2 : (-99999999) ≤ z338 ∧ z338 ≤ 799) : 0 ≤ z338 ∧ z338 ≤ 799 := by omega
theorem vc_X12_go_W_9 {z338 z361 : Int} (h0 : z361 = z338) (h1 : z338 = -99999999 ∨ (0 ≤ z338 ∧ z338 ≤ 799)) (h2 : ¬ z338 = (-99999999)) (h3 : 0 ≤ z338 ∧ z338 ≤ 799) (h4 : (-99999999) ≤ z361 ∧ z361 ≤ 799) : 0 ≤ z361 ∧ z361 ≤ 799 := by omega
theorem vc_X12_go_W_10 {z338 z361 : Int} (h0 : z338 = -99999999 ∨ (0 ≤ z338 ∧ z338 ≤ 799)) (h1 : ¬ z338 = (-99999999)) (h2 : z361 = z338) (h3 : 0 ≤ z338 ∧ z338 ≤ 799) (h4 : 0 ≤ z361 ∧ z361 ≤ 799) : z361 = z338 := by omega
theorem vc_X12_go_W_11 {z338 z361 : Int} (h0 : z361 = z338) (h1 : z338 = -99999999 ∨ (0 ≤ z338 ∧ z338 ≤ 799)) (h2 : ¬ z338 = (-99999999)) (h3 : 0 ≤ z338 ∧ z338 ≤ 799) (h4 : 0 ≤ z361 ∧ z361 ≤ 799) : ¬ z361 = -99999999 := by omega
theorem vc_X12_go_W_12 {N p1 z296 z5 : Int} (h0 : (501 - z296) < N + 1) (h1 : z296 < p1) (h2 : (z5 = 1 → (1 : Int) ≤ p1 ∧ p1 ≤ (500 : Int))) (h3 : (z5 = 0 → p1 < (1 : Int) ∨ (500 : Int) < p1)) (h4 : (1 : Int) ≤ p1 ∧ p1 ≤ (500 : Int)) (h5 : 1 ≤ p1 ∧ p1 ≤ 500) (h6 : 0 ≤ z296 ∧ z296 ≤ 499) (h7 : 1 ≤ z5 ∧ z5 ≤ 1) : (501 - (z296 + 1)) < N := by omega
theorem vc_X12_go_W_14 {p1 z5 : Int} (h0 : z5 = 0) (h1 : (z5 = 1 → (1 : Int) ≤ p1 ∧ p1 ≤ (500 : Int))) (h2 : (z5 = 0 → p1 < (1 : Int) ∨ (500 : Int) < p1)) (h3 : (-2147483648) ≤ p1 ∧ p1 ≤ 2147483647) (h4 : 0 ≤ z5 ∧ z5 ≤ 1) : 0 ≤ z5 ∧ z5 ≤ 0 := by omega
theorem vc_X12_go_W_15 {p1 z5 : Int} (h0 : (z5 = 1 → (1 : Int) ≤ p1 ∧ p1 ≤ (500 : Int))) (h1 : (z5 = 0 → p1 < (1 : Int) ∨ (500 : Int) < p1)) (h2 : z5 = 0) (h3 : (-2147483648) ≤ p1 ∧ p1 ≤ 2147483647) (h4 : 0 ≤ z5 ∧ z5 ≤ 0) : z5 = 0 := by omega
set_option maxRecDepth 4000 in
set_option maxHeartbeats 4000000 in
theorem c_X12_go_W {l : Launch} {D : va_G} {c : Nat → ClassId} {H0 : Heap} {sa : Nat × Nat × (Nat → Int32)} {w : mW} {μ : mM} (hw : mWF w) (hT : mT w μ) {p1 : Int} (hp1 : (-2147483648) ≤ p1 ∧ p1 ≤ 2147483647) (hIG1 : G1 μ) (hIEV : EV μ) (hIPK : PK μ) {Q : Int → mM → Prop} (hQ : WP_X12_go_W w μ p1 Q) : sC (gG l D c H0 sa) mX12_go 12 0 0 [.ref 106, iv p1] (mk w μ) (qI w [106026, 106027, 106028, 106029, 106030, 106031, 106071, 106072, 106073, 126999, 151999, 152999, 153999, 154999, 155999, 156999, 157999, 158999, 159999, 160999, 161999, 165999] μ (fun z μ1 => ((-2147483648) ≤ z ∧ z ≤ 2147483647) ∧ G1 μ1 ∧ EV μ1 ∧ Q z μ1 ∧ True)) := by
  refine sC.of rfl (by decide) (le_t rfl) ?_
  refine mr_lvE (lv' := [(0, .ref 106), (1, iv p1)]) rfl ?_
  refine mr_iload_n (pc := 0) (z := p1) dX12_go_0 rfl rfl ?_
  refine mr_iconst (pc := 1) (z := 1) dX12_go_1 ?_
  refine mr_sipush (pc := 2) (z := 500) dX12_go_2 (by decide) ?_
  refine mr_cSP (pc := 5) (c_X12_in_W hw hT hp1 (rW (c := (-2147483648)) (d := 2147483647) (rR (x := 1)) rfl) (rW (c := (-2147483648)) (d := 2147483647) (rR (x := 500)) rfl) hQ) (gOk _ _ _ _ _) dX12_go_5 (tX12_in _ _ _ _ _) wS_X12_in wM_X12_18 ⟨le_t rfl, le_t rfl⟩ ⟨le_t rfl, le_t rfl⟩ rfl (le_t rfl) fun z5 h4 => ?_
  refine mr_if_ne (pc := 8) (tgt := 13) dX12_go_8 (by decide) (r32 h4.1 rfl) (fun h6 => ?_) (fun h6 => ?_)
  · have h7 : 1 ≤ z5 ∧ z5 ≤ 1 := (vc_X12_go_W_1 h6 h4.2.1 h4.2.2.1 hp1 h4.1)
    have h8 : (1 : Int) ≤ p1 ∧ p1 ≤ (500 : Int) := (h4.2.1 (vc_X12_go_W_2 h4.2.1 h4.2.2.1 h6 hp1 h7))
    have h9 : 1 ≤ p1 ∧ p1 ≤ 500 := (vc_X12_go_W_3 h8 h4.2.1 h4.2.2.1 hp1 h7)
    refine mr_iconst (pc := 13) (z := 0) dX12_go_13 ?_
    refine mr_istore_n (pc := 14) (lv' := [(2, iv 0), (0, .ref 106), (1, iv p1)]) dX12_go_14 rfl (by decide) rfl ?_
    have L298 : ∀ (nL298 : Nat) (z296 : Int) (μ297 : mM), mT w μ297 → mF [106026, 106027, 106028, 106029, 106030, 106031, 106071, 106072, 106073, 126999, 151999, 152999, 153999, 154999, 155999, 156999, 157999, 158999, 159999, 160999, 161999, 165999] w μ μ297 → (0 ≤ z296 ∧ z296 ≤ 500) → G1 μ297 → EV μ297 → PK μ297 → (501 - z296) < (nL298 : Int) → loopF (WL_X12_go_W_1 w μ p1 Q) False nL298 (z296, μ297) → sV (gG l D c H0 sa) mX12_go (sRm 12 0 0) (sZ (gG l D c H0 sa) 0 0 (qI w [106026, 106027, 106028, 106029, 106030, 106031, 106071, 106072, 106073, 126999, 151999, 152999, 153999, 154999, 155999, 156999, 157999, 158999, 159999, 160999, 161999, 165999] μ (fun z μ1 => ((-2147483648) ≤ z ∧ z ≤ 2147483647) ∧ G1 μ1 ∧ EV μ1 ∧ Q z μ1 ∧ True))) 15 [(0, .ref 106), (1, iv p1), (2, iv z296)] [] (mk w μ297) 0 0 := by
      intro nL298
      induction nL298 with
      | zero => intro z296 μ297 T300 F301 h299 I303 I304 I305 h306 W307; exact ((vc_X11_go_W_4 h306 h299)).elim
      | succ nL298 ih308 =>
        intro z296 μ297 T300 F301 h299 I303 I304 I305 h306 W307
        refine mr_iload_n (pc := 15) (z := z296) dX12_go_15 rfl rfl ?_
        refine mr_iload_n (pc := 16) (z := p1) dX12_go_16 rfl rfl ?_
        refine mr_icmp_ge (pc := 17) (tgt := 43) dX12_go_17 (by decide) (r32 h299 rfl) (r32 h9 rfl) (fun h331 => ?_) (fun h331 => ?_)
        · have h332 : 1 ≤ z296 ∧ z296 ≤ 500 := (vc_X12_go_W_5 h331 h4.2.1 h4.2.2.1 h8 h9 h299 h7)
          refine mr_iload_n (pc := 43) (z := z296) dX12_go_43 rfl rfl ?_
          exact mr_iret dX12_go_44 rfl (le_t rfl) (le_t rfl) T300 (mF.call mF.refl F301 rfl) ⟨(rW (c := (-2147483648)) (d := 2147483647) h332 rfl), I303, I304, ((W307 z296 μ297 rfl h299 T300 F301).1 h331), trivial⟩
        have h333 : 0 ≤ z296 ∧ z296 ≤ 499 := (vc_X12_go_W_6 h331 h4.2.1 h4.2.2.1 h8 h9 h299 h7)
        refine sv_aload_n (pc := 20) dX12_go_20 rfl rfl ?_
        refine mr_cVP (pc := 21) (c_X12_nextEvent_Wev hw T300 ((W307 z296 μ297 rfl h299 T300 F301).2 h331)) (gOk _ _ _ _ _) dX12_go_21 (tX12_nextEvent _ _ _ _ _) ⟨wV_X12_nextEvent, wL_X12_nextEvent⟩ wM_X12_613 (gCX12 _ _ _ _ _) rfl (A_106 hw) rfl ⟨le_t rfl, le_t rfl⟩ ⟨le_t rfl, le_t rfl⟩ rfl (le_t rfl) fun z338 h337 => ?_
        refine mr_ldc (pc := 24) (z := (-99999999)) dX12_go_24 wG_X12_29 (by decide) ?_
        refine mr_icmp_eq (pc := 26) (tgt := 43) dX12_go_26 (by decide) (r32 h337.1 rfl) (r32 (rR (x := (-99999999))) rfl) (fun h354 => ?_) (fun h354 => ?_)
        · have h355 : (-99999999) ≤ z338 ∧ z338 ≤ (-99999999) := (vc_X12_go_W_7 h354 h337.2.2.1 h337.1)
          refine mr_iload_n (pc := 43) (z := z296) dX12_go_43 rfl rfl ?_
          exact mr_iret dX12_go_44 rfl (le_t rfl) (le_t rfl) T300 (mF.call mF.refl F301 rfl) ⟨(rW (c := (-2147483648)) (d := 2147483647) h333 rfl), I303, I304, ((h337.2.2.2.1 h337.1).1 h354), trivial⟩
        have h356 : 0 ≤ z338 ∧ z338 ≤ 799 := (vc_X12_go_W_8 h354 h337.2.2.1 h337.1)
        refine sv_aload_n (pc := 29) dX12_go_29 rfl rfl ?_
        refine sv_aload_n (pc := 30) dX12_go_30 rfl rfl ?_
        refine mr_cVP (pc := 31) (c_X12_nextEvent_Wev hw T300 ((h337.2.2.2.1 h337.1).2 h354)) (gOk _ _ _ _ _) dX12_go_31 (tX12_nextEvent _ _ _ _ _) ⟨wV_X12_nextEvent, wL_X12_nextEvent⟩ wM_X12_613 (gCX12 _ _ _ _ _) rfl (A_106 hw) rfl ⟨le_t rfl, le_t rfl⟩ ⟨le_t rfl, le_t rfl⟩ rfl (le_t rfl) fun z361 h360 => ?_
        have h362 : 0 ≤ z361 ∧ z361 ≤ 799 := (vc_X12_go_W_9 (h360.2.1.trans h337.2.1.symm) h337.2.2.1 h354 h356 h360.1)
        obtain ⟨z363, q364⟩ : ∃ z, μ297 106 6 = z := ⟨_, rfl⟩
        have h365 : (0 ≤ z363 ∧ z363 ≤ 20) := by rw [← q364]; exact T300 106 106 (A_106 hw) 6
        refine mr_cVV (pc := 34) (c_X12_doEvent_W hw T300 h362 q364 I303 I304 I305 (nev.ok h337.2.1.symm (vc_X12_go_W_10 h337.2.2.1 h354 (h360.2.1.trans h337.2.1.symm) h356 h362) (vc_X12_go_W_11 (h360.2.1.trans h337.2.1.symm) h337.2.2.1 h354 h356 h362)) ((h360.2.2.2.1 h360.1) z363 q364 h365)) (gOk _ _ _ _ _) dX12_go_34 (tX12_doEvent _ _ _ _ _) ⟨wV_X12_doEvent, wL_X12_doEvent⟩ wM_X12_616 (gCX12 _ _ _ _ _) rfl (A_106 hw) rfl ⟨le_t rfl, le_t rfl⟩ ⟨le_t rfl, le_t rfl⟩ rfl (le_t rfl) fun μ366 T367 F368 h369 => ?_
        refine mr_iinc (pc := 37) (lv' := [(2, iv (z296 + 1)), (0, .ref 106), (1, iv p1)]) dX12_go_37 rfl (by decide) rfl ?_
        refine sv_goto (pc := 40) (tgt := 15) dX12_go_40 (by decide) ?_
        refine mr_lvS (lv' := [(0, .ref 106), (1, iv p1), (2, iv (z296 + 1))]) (List.forall_mem_cons.mpr ⟨rfl, List.forall_mem_cons.mpr ⟨rfl, List.forall_mem_cons.mpr ⟨rfl, fun _ h => absurd h List.not_mem_nil⟩⟩⟩) ?_
        exact ih308 (z296 + 1) μ366 T367 (mF.call (mF.call mF.refl F301 rfl) F368 rfl) (rW (c := 0) (d := 500) (rAdd (e := 1) (f := 500) h333 (rR (x := 1)) rfl) rfl) h369.1 h369.2.1 (PK.keep I305 hw ((mF.call mF.refl F368 rfl) : mF [106026, 106027, 106028, 106029, 106030, 106031, 106071, 106072, 106073, 126999, 151999, 152999, 153999, 154999, 155999, 156999, 157999, 158999, 159999, 160999, 161999, 165999] w μ297 μ366) rfl) (vc_X12_go_W_12 (nS h306) h331 h4.2.1 h4.2.2.1 h8 h9 h333 h7) (h369.2.2.1 T367 F368)
    refine mr_lvS (lv' := [(0, .ref 106), (1, iv p1), (2, iv 0)]) (List.forall_mem_cons.mpr ⟨rfl, List.forall_mem_cons.mpr ⟨rfl, List.forall_mem_cons.mpr ⟨rfl, fun _ h => absurd h List.not_mem_nil⟩⟩⟩) ?_
    exact L298 502 0 μ hT mF.refl (rW (c := 0) (d := 500) (rR (x := 0)) rfl) hIG1 hIEV hIPK vc_X11_go_W_10 ((h4.2.2.2.1 h4.1).1 h6)
  have h370 : 0 ≤ z5 ∧ z5 ≤ 0 := (vc_X12_go_W_14 h6 h4.2.1 h4.2.2.1 hp1 h4.1)
  have h371 : p1 < (1 : Int) ∨ (500 : Int) < p1 := (h4.2.2.1 (vc_X12_go_W_15 h4.2.1 h4.2.2.1 h6 hp1 h370))
  refine mr_iconst (pc := 11) (z := (-1)) dX12_go_11 ?_
  exact mr_iret dX12_go_12 rfl (le_t rfl) (le_t rfl) hT mF.refl ⟨(rW (c := (-2147483648)) (d := 2147483647) (rR (x := (-1))) rfl), hIG1, hIEV, ((h4.2.2.2.1 h4.1).2 h6), trivial⟩
def WP_X12_eventAt_W (w : mW) (μ : mM) (p1 : Int) (Q : Int → mM → Prop) : Prop := ((400 ≤ p1) → ∀ z11 : Int, μ 159 ((p1 - 400).toNat) = z11 → ((-1) ≤ z11 ∧ z11 ≤ 2000001000) → Q z11 μ) ∧ ((p1 < 400) → ∀ z15 : Int, μ 157 (p1.toNat) = z15 → ((-1) ≤ z15 ∧ z15 ≤ 2000001000) → Q z15 μ)
set_option maxRecDepth 4000 in
set_option maxHeartbeats 4000000 in
theorem c_X12_eventAt_W {l : Launch} {D : va_G} {c : Nat → ClassId} {H0 : Heap} {sa : Nat × Nat × (Nat → Int32)} {w : mW} {μ : mM} (hw : mWF w) (hT : mT w μ) {p1 : Int} (hp1 : 0 ≤ p1 ∧ p1 ≤ 799) {Q : Int → mM → Prop} (hQ : WP_X12_eventAt_W w μ p1 Q) : sC (gG l D c H0 sa) mX12_eventAt 1 0 0 [.ref 106, iv p1] (mk w μ) (qP w μ (fun z => ((-1) ≤ z ∧ z ≤ 2000001000) ∧ Q z μ ∧ True)) := by
  refine sC.of rfl (by decide) (le_t rfl) ?_
  refine mr_lvE (lv' := [(0, .ref 106), (1, iv p1)]) rfl ?_
  refine mr_iload_n (pc := 0) (z := p1) dX12_eventAt_0 rfl rfl ?_
  refine mr_sipush (pc := 1) (z := 400) dX12_eventAt_1 (by decide) ?_
  refine mr_icmp_ge (pc := 4) (tgt := 16) dX12_eventAt_4 (by decide) (r32 hp1 rfl) (r32 (rR (x := 400)) rfl) (fun h9 => ?_) (fun h9 => ?_)
  · have h10 : 400 ≤ p1 ∧ p1 ≤ 799 := (vc_X12_eventAt_Wf_1 h9 hp1)
    refine sv_aload_n (pc := 16) dX12_eventAt_16 rfl rfl ?_
    refine gf_X12_79 (pc := 17) dX12_eventAt_17 wF_X12_439 (A_106 hw) hT ?_
    refine mr_iload_n (pc := 20) (z := p1) dX12_eventAt_20 rfl rfl ?_
    refine mr_sipush (pc := 21) (z := 400) dX12_eventAt_21 (by decide) ?_
    refine mr_isub (pc := 24) (x := p1) (y := 400) dX12_eventAt_24 ?_
    refine la_159 (pc := 25) dX12_eventAt_25 (A_159 hw) hT (rIx (n := 400) (rSub (e := 0) (f := 399) h10 (rR (x := 400)) rfl) rfl) fun z11 q12 h13 => ?_
    exact mr_iretP dX12_eventAt_26 rfl (le_t rfl) (le_t rfl) ⟨h13, ((hQ.1 h9) z11 q12 h13), trivial⟩
  have h14 : 0 ≤ p1 ∧ p1 ≤ 399 := (vc_X12_eventAt_Wf_3 h9 hp1)
  refine sv_aload_n (pc := 7) dX12_eventAt_7 rfl rfl ?_
  refine gf_X12_77 (pc := 8) dX12_eventAt_8 wF_X12_433 (A_106 hw) hT ?_
  refine mr_iload_n (pc := 11) (z := p1) dX12_eventAt_11 rfl rfl ?_
  refine la_157 (pc := 12) dX12_eventAt_12 (A_157 hw) hT (rIx (n := 400) h14 rfl) fun z15 q16 h17 => ?_
  refine sv_goto (pc := 13) (tgt := 26) dX12_eventAt_13 (by decide) ?_
  exact mr_iretP dX12_eventAt_26 rfl (le_t rfl) (le_t rfl) ⟨h17, ((hQ.2 h9) z15 q16 h17), trivial⟩
def WJ_X12_until_W_2 (w : mW) (p1 : Int) (Q : Int → mM → Prop) (z448 : Int) (z447 : Int) (μ449 : mM) : Prop := ((z447 = (-99999999)) → ∀ μ506 : mM, mU μ449 106 (71) p1 μ506 → mT w μ506 → Q z448 μ506) ∧ ((¬ z447 = (-99999999)) → WP_X12_eventAt_W w μ449 z447 (fun z514 _ => ((-1) ≤ z514 ∧ z514 ≤ 2000001000) → ((z514 ≤ p1) → Q z448 μ449) ∧ ((p1 < z514) → ∀ μ523 : mM, mU μ449 106 (71) p1 μ523 → mT w μ523 → Q z448 μ523)))
def WL_X12_until_W_1 (w : mW) (μ : mM) (p1 : Int) (Q : Int → mM → Prop) (rec1 : (Int × Int × mM) → Prop) (s : (Int × Int × mM)) : Prop := ∀ z448 : Int, ∀ z447 : Int, ∀ μ449 : mM, s = (z448, z447, μ449) → (0 ≤ z448 ∧ z448 ≤ 500) → ((-99999999) ≤ z447 ∧ z447 ≤ 799) → mT w μ449 → mF [106026, 106027, 106028, 106029, 106030, 106031, 106071, 106072, 106073, 126999, 151999, 152999, 153999, 154999, 155999, 156999, 157999, 158999, 159999, 160999, 161999, 165999] w μ μ449 → ((500 ≤ z448) → (WJ_X12_until_W_2 w p1 Q z448 z447 μ449) ) ∧ ((z448 < 500) → ((z447 = (-99999999)) → (WJ_X12_until_W_2 w p1 Q z448 z447 μ449) ) ∧ ((¬ z447 = (-99999999)) → WP_X12_eventAt_W w μ449 z447 (fun z536 _ => ((-1) ≤ z536 ∧ z536 ≤ 2000001000) → ((p1 < z536) → (WJ_X12_until_W_2 w p1 Q z448 z447 μ449) ) ∧ ((z536 ≤ p1) → ∀ z540 : Int, μ449 106 6 = z540 → (0 ≤ z540 ∧ z540 ≤ 20) → WP_X12_doEvent_W w μ449 z447 (fun μ543 => mT w μ543 → mF [106026, 106027, 106028, 106029, 106030, 106031, 106071, 106072, 106073, 126999, 151999, 152999, 153999, 154999, 155999, 156999, 157999, 158999, 159999, 160999, 161999, 165999] w μ449 μ543 → WP_X12_nextEvent_Wev w μ543  (fun z551 _ => ((-99999999) ≤ z551 ∧ z551 ≤ 799) → rec1 ((z448 + 1), z551, μ543)))))))
def WP_X12_until_W (w : mW) (μ : mM) (p1 : Int) (Q : Int → mM → Prop) : Prop := ∀ z1 : Int, μ 106 71 = z1 → (0 ≤ z1 ∧ z1 ≤ 2000000000) → ((p1 < z1) → Q ((-1) : Int) μ) ∧ ((z1 ≤ p1) → ((p1 ≤ 1000000000) → WP_X12_nextEvent_Wev w μ  (fun z13 _ => ((-99999999) ≤ z13 ∧ z13 ≤ 799) → loopF (WL_X12_until_W_1 w μ p1 Q) False 502 ((0 : Int), z13, μ))) ∧ ((1000000000 < p1) → Q ((-1) : Int) μ))
theorem vc_X12_until_W_1 {p1 z1 : Int} (h0 : p1 < z1) (h1 : (-2147483648) ≤ p1 ∧ p1 ≤ 2147483647) (h2 : 0 ≤ z1 ∧ z1 ≤ 2000000000) : (-2147483648) ≤ p1 ∧ p1 ≤ 1999999999 := by omega
theorem vc_X12_until_W_2 {p1 z1 : Int} (h0 : z1 ≤ p1) (h1 : (-2147483648) ≤ p1 ∧ p1 ≤ 2147483647) (h2 : 0 ≤ z1 ∧ z1 ≤ 2000000000) : 0 ≤ p1 ∧ p1 ≤ 2147483647 := by omega
theorem vc_X12_until_W_3 {p1 z1 : Int} (h0 : p1 ≤ 1000000000) (h1 : z1 ≤ p1) (h2 : 0 ≤ p1 ∧ p1 ≤ 2147483647) (h3 : 0 ≤ z1 ∧ z1 ≤ 2000000000) : 0 ≤ p1 ∧ p1 ≤ 1000000000 := by omega
theorem vc_X12_until_W_7 {p1 z1 z514 : Int} (h0 : z514 ≤ p1) (h1 : z1 ≤ p1) (h2 : p1 ≤ 1000000000) (h3 : 0 ≤ p1 ∧ p1 ≤ 1000000000) (h4 : 0 ≤ z1 ∧ z1 ≤ 2000000000) (h5 : (-1) ≤ z514 ∧ z514 ≤ 2000001000) : (-1) ≤ z514 ∧ z514 ≤ 1000000000 := by omega
theorem vc_X12_until_W_8 {p1 z1 z514 : Int} (h0 : p1 < z514) (h1 : z1 ≤ p1) (h2 : p1 ≤ 1000000000) (h3 : 0 ≤ p1 ∧ p1 ≤ 1000000000) (h4 : 0 ≤ z1 ∧ z1 ≤ 2000000000) (h5 : (-1) ≤ z514 ∧ z514 ≤ 2000001000) : 1 ≤ z514 ∧ z514 ≤ 2000001000 := by omega
theorem vc_X12_until_W_13 {z447 : Int} (h0 : ¬ z447 = (-99999999)) (h1 : 0 ≤ z447 ∧ z447 ≤ 799) (h2 : z447 = (-99999999) ∨ (0 ≤ z447 ∧ z447 ≤ 799)) : ¬ z447 = -99999999 := by omega
theorem vc_X12_until_W_15 {z551 : Int} (h0 : z551 = -99999999 ∨ (0 ≤ z551 ∧ z551 ≤ 799)) (h1 : (-99999999) ≤ z551 ∧ z551 ≤ 799) : z551 = (-99999999) ∨ (0 ≤ z551 ∧ z551 ≤ 799) := by omega
theorem vc_X12_until_W_18 {p1 z1 : Int} (h0 : 1000000000 < p1) (h1 : z1 ≤ p1) (h2 : 0 ≤ p1 ∧ p1 ≤ 2147483647) (h3 : 0 ≤ z1 ∧ z1 ≤ 2000000000) : 1000000001 ≤ p1 ∧ p1 ≤ 2147483647 := by omega
set_option maxRecDepth 4000 in
set_option maxHeartbeats 4000000 in
theorem c_X12_until_W {l : Launch} {D : va_G} {c : Nat → ClassId} {H0 : Heap} {sa : Nat × Nat × (Nat → Int32)} {w : mW} {μ : mM} (hw : mWF w) (hT : mT w μ) {p1 : Int} (hp1 : (-2147483648) ≤ p1 ∧ p1 ≤ 2147483647) (hIG1 : G1 μ) (hIEV : EV μ) (hIPK : PK μ) {Q : Int → mM → Prop} (hQ : WP_X12_until_W w μ p1 Q) : sC (gG l D c H0 sa) mX12_until 12 0 0 [.ref 106, iv p1] (mk w μ) (qI w [106026, 106027, 106028, 106029, 106030, 106031, 106071, 106072, 106073, 126999, 151999, 152999, 153999, 154999, 155999, 156999, 157999, 158999, 159999, 160999, 161999, 165999] μ (fun z μ1 => ((-2147483648) ≤ z ∧ z ≤ 2147483647) ∧ G1 μ1 ∧ EV μ1 ∧ Q z μ1 ∧ True)) := by
  refine sC.of rfl (by decide) (le_t rfl) ?_
  refine mr_lvE (lv' := [(0, .ref 106), (1, iv p1)]) rfl ?_
  refine mr_iload_n (pc := 0) (z := p1) dX12_until_0 rfl rfl ?_
  refine sv_aload_n (pc := 1) dX12_until_1 rfl rfl ?_
  refine gf_X12_71 (pc := 2) dX12_until_2 wF_X12_591 (A_106 hw) hT fun z1 q2 h3 => ?_
  refine mr_icmp_lt (pc := 5) (tgt := 15) dX12_until_5 (by decide) hp1 (r32 h3 rfl) (fun h4 => ?_) (fun h4 => ?_)
  · have h5 : (-2147483648) ≤ p1 ∧ p1 ≤ 1999999999 := (vc_X12_until_W_1 h4 hp1 h3)
    refine mr_iconst (pc := 15) (z := (-1)) dX12_until_15 ?_
    exact mr_iret dX12_until_16 rfl (le_t rfl) (le_t rfl) hT mF.refl ⟨(rW (c := (-2147483648)) (d := 2147483647) (rR (x := (-1))) rfl), hIG1, hIEV, ((hQ z1 q2 h3).1 h4), trivial⟩
  have h6 : 0 ≤ p1 ∧ p1 ≤ 2147483647 := (vc_X12_until_W_2 h4 hp1 h3)
  refine mr_iload_n (pc := 8) (z := p1) dX12_until_8 rfl rfl ?_
  refine mr_ldcw (pc := 9) (z := 1000000000) dX12_until_9 wG_X12_619 (by decide) ?_
  refine mr_icmp_le (pc := 12) (tgt := 17) dX12_until_12 (by decide) (r32 h6 rfl) (r32 (rR (x := 1000000000)) rfl) (fun h7 => ?_) (fun h7 => ?_)
  · have h8 : 0 ≤ p1 ∧ p1 ≤ 1000000000 := (vc_X12_until_W_3 h7 h4 h6 h3)
    refine mr_iconst (pc := 17) (z := 0) dX12_until_17 ?_
    refine mr_istore_n (pc := 18) (lv' := [(2, iv 0), (0, .ref 106), (1, iv p1)]) dX12_until_18 rfl (by decide) rfl ?_
    refine sv_aload_n (pc := 19) dX12_until_19 rfl rfl ?_
    refine mr_cVP (pc := 20) (c_X12_nextEvent_Wev hw hT (((hQ z1 q2 h3).2 h4).1 h7)) (gOk _ _ _ _ _) dX12_until_20 (tX12_nextEvent _ _ _ _ _) ⟨wV_X12_nextEvent, wL_X12_nextEvent⟩ wM_X12_613 (gCX12 _ _ _ _ _) rfl (A_106 hw) rfl ⟨le_t rfl, le_t rfl⟩ ⟨le_t rfl, le_t rfl⟩ rfl (le_t rfl) fun z13 h12 => ?_
    refine mr_istore_n (pc := 23) (lv' := [(3, iv z13), (2, iv 0), (0, .ref 106), (1, iv p1)]) dX12_until_23 rfl (by decide) rfl ?_
    have L450 : ∀ (nL450 : Nat) (z448 z447 : Int) (μ449 : mM), mT w μ449 → mF [106026, 106027, 106028, 106029, 106030, 106031, 106071, 106072, 106073, 126999, 151999, 152999, 153999, 154999, 155999, 156999, 157999, 158999, 159999, 160999, 161999, 165999] w μ μ449 → (0 ≤ z448 ∧ z448 ≤ 500) → ((-99999999) ≤ z447 ∧ z447 ≤ 799) → G1 μ449 → EV μ449 → PK μ449 → nevF μ449 = z447 → (z447 = (-99999999) ∨ (0 ≤ z447 ∧ z447 ≤ 799)) → (501 - z448) < (nL450 : Int) → loopF (WL_X12_until_W_1 w μ p1 Q) False nL450 (z448, z447, μ449) → sV (gG l D c H0 sa) mX12_until (sRm 12 0 0) (sZ (gG l D c H0 sa) 0 0 (qI w [106026, 106027, 106028, 106029, 106030, 106031, 106071, 106072, 106073, 126999, 151999, 152999, 153999, 154999, 155999, 156999, 157999, 158999, 159999, 160999, 161999, 165999] μ (fun z μ1 => ((-2147483648) ≤ z ∧ z ≤ 2147483647) ∧ G1 μ1 ∧ EV μ1 ∧ Q z μ1 ∧ True))) 24 [(0, .ref 106), (1, iv p1), (2, iv z448), (3, iv z447)] [] (mk w μ449) 0 0 := by
      intro nL450
      induction nL450 with
      | zero => intro z448 z447 μ449 T453 F454 h451 h452 I456 I457 I458 R459 h460 h461 W462; exact ((vc_X11_go_W_4 h461 h451)).elim
      | succ nL450 ih463 =>
        intro z448 z447 μ449 T453 F454 h451 h452 I456 I457 I458 R459 h460 h461 W462
        refine mr_iload_n (pc := 24) (z := z448) dX12_until_24 rfl rfl ?_
        refine mr_sipush (pc := 25) (z := 500) dX12_until_25 (by decide) ?_
        have J487 : ((WJ_X12_until_W_2 w p1 Q z448 z447 μ449) ) → sV (gG l D c H0 sa) mX12_until (sRm 12 0 0) (sZ (gG l D c H0 sa) 0 0 (qI w [106026, 106027, 106028, 106029, 106030, 106031, 106071, 106072, 106073, 126999, 151999, 152999, 153999, 154999, 155999, 156999, 157999, 158999, 159999, 160999, 161999, 165999] μ (fun z μ1 => ((-2147483648) ≤ z ∧ z ≤ 2147483647) ∧ G1 μ1 ∧ EV μ1 ∧ Q z μ1 ∧ True))) 62 [(0, .ref 106), (1, iv p1), (2, iv z448), (3, iv z447)] [] (mk w μ449) 0 0 := by
          intro W488
          refine mr_iload_n (pc := 62) (z := z447) dX12_until_62 rfl rfl ?_
          refine mr_ldc (pc := 63) (z := (-99999999)) dX12_until_63 wG_X12_29 (by decide) ?_
          refine mr_icmp_eq (pc := 65) (tgt := 77) dX12_until_65 (by decide) (r32 h452 rfl) (r32 (rR (x := (-99999999))) rfl) (fun h504 => ?_) (fun h504 => ?_)
          · have h505 : (-99999999) ≤ z447 ∧ z447 ≤ (-99999999) := (vc_X12_nextEvent_Wev_18 h504 h452 h460)
            refine sv_aload_n (pc := 77) dX12_until_77 rfl rfl ?_
            refine mr_iload_n (pc := 78) (z := p1) dX12_until_78 rfl rfl ?_
            refine pf_X12_71 (pc := 79) dX12_until_79 wF_X12_591 (A_106 hw) T453 (rW (c := 0) (d := 2000000000) h8 rfl) fun μ506 u507 T508 => ?_
            refine mr_iload_n (pc := 82) (z := z448) dX12_until_82 rfl rfl ?_
            exact mr_iret dX12_until_83 rfl (le_t rfl) (le_t rfl) T508 (mF.up (mF.call mF.refl F454 rfl) (A_106 hw) u507 rfl) ⟨(rW (c := (-2147483648)) (d := 2147483647) h451 rfl), (G1.keep I456 hw ((mF.up mF.refl (A_106 hw) u507 rfl) : mF [106071] w μ449 μ506) rfl rfl ((mG.upO mG.refl u507 rfl) : mG [] μ449 μ506) (fun _ h => absurd h List.not_mem_nil)), (EV.keep I457 hw ((mF.up mF.refl (A_106 hw) u507 rfl) : mF [106071] w μ449 μ506) rfl), (((W488).1 h504) μ506 u507 T508), trivial⟩
          have h509 : 0 ≤ z447 ∧ z447 ≤ 799 := (vc_X12_nextEvent_Wev_21 h504 h452 h460)
          refine sv_aload_n (pc := 68) dX12_until_68 rfl rfl ?_
          refine mr_iload_n (pc := 69) (z := z447) dX12_until_69 rfl rfl ?_
          refine mr_cVP (pc := 70) (c_X12_eventAt_W hw T453 h509 ((W488).2 h504)) (gOk _ _ _ _ _) dX12_until_70 (tX12_eventAt _ _ _ _ _) ⟨wV_X12_eventAt, wL_X12_eventAt⟩ wM_X12_607 (gCX12 _ _ _ _ _) rfl (A_106 hw) rfl ⟨le_t rfl, le_t rfl⟩ ⟨le_t rfl, le_t rfl⟩ rfl (le_t rfl) fun z514 h513 => ?_
          refine mr_iload_n (pc := 73) (z := p1) dX12_until_73 rfl rfl ?_
          refine mr_icmp_le (pc := 74) (tgt := 82) dX12_until_74 (by decide) (r32 h513.1 rfl) (r32 h8 rfl) (fun h520 => ?_) (fun h520 => ?_)
          · have h521 : (-1) ≤ z514 ∧ z514 ≤ 1000000000 := (vc_X12_until_W_7 h520 h4 h7 h8 h3 h513.1)
            refine mr_iload_n (pc := 82) (z := z448) dX12_until_82 rfl rfl ?_
            exact mr_iret dX12_until_83 rfl (le_t rfl) (le_t rfl) T453 (mF.call mF.refl F454 rfl) ⟨(rW (c := (-2147483648)) (d := 2147483647) h451 rfl), I456, I457, ((h513.2.1 h513.1).1 h520), trivial⟩
          have h522 : 1 ≤ z514 ∧ z514 ≤ 2000001000 := (vc_X12_until_W_8 h520 h4 h7 h8 h3 h513.1)
          refine sv_aload_n (pc := 77) dX12_until_77 rfl rfl ?_
          refine mr_iload_n (pc := 78) (z := p1) dX12_until_78 rfl rfl ?_
          refine pf_X12_71 (pc := 79) dX12_until_79 wF_X12_591 (A_106 hw) T453 (rW (c := 0) (d := 2000000000) h8 rfl) fun μ523 u524 T525 => ?_
          refine mr_iload_n (pc := 82) (z := z448) dX12_until_82 rfl rfl ?_
          exact mr_iret dX12_until_83 rfl (le_t rfl) (le_t rfl) T525 (mF.up (mF.call mF.refl F454 rfl) (A_106 hw) u524 rfl) ⟨(rW (c := (-2147483648)) (d := 2147483647) h451 rfl), (G1.keep I456 hw ((mF.up mF.refl (A_106 hw) u524 rfl) : mF [106071] w μ449 μ523) rfl rfl ((mG.upO mG.refl u524 rfl) : mG [] μ449 μ523) (fun _ h => absurd h List.not_mem_nil)), (EV.keep I457 hw ((mF.up mF.refl (A_106 hw) u524 rfl) : mF [106071] w μ449 μ523) rfl), (((h513.2.1 h513.1).2 h520) μ523 u524 T525), trivial⟩
        refine mr_icmp_ge (pc := 28) (tgt := 62) dX12_until_28 (by decide) (r32 h451 rfl) (r32 (rR (x := 500)) rfl) (fun h526 => ?_) (fun h526 => ?_)
        · have h527 : 500 ≤ z448 ∧ z448 ≤ 500 := (vc_X1_doActs_W12_35 h526 h451)
          exact J487 ((W462 z448 z447 μ449 rfl h451 h452 T453 F454).1 h526)
        have h528 : 0 ≤ z448 ∧ z448 ≤ 499 := (vc_X1_doActs_W12_10 h526 h451)
        refine mr_iload_n (pc := 31) (z := z447) dX12_until_31 rfl rfl ?_
        refine mr_ldc (pc := 32) (z := (-99999999)) dX12_until_32 wG_X12_29 (by decide) ?_
        refine mr_icmp_eq (pc := 34) (tgt := 62) dX12_until_34 (by decide) (r32 h452 rfl) (r32 (rR (x := (-99999999))) rfl) (fun h529 => ?_) (fun h529 => ?_)
        · have h530 : (-99999999) ≤ z447 ∧ z447 ≤ (-99999999) := (vc_X12_nextEvent_Wev_18 h529 h452 h460)
          exact J487 (((W462 z448 z447 μ449 rfl h451 h452 T453 F454).2 h526).1 h529)
        have h531 : 0 ≤ z447 ∧ z447 ≤ 799 := (vc_X12_nextEvent_Wev_21 h529 h452 h460)
        refine sv_aload_n (pc := 37) dX12_until_37 rfl rfl ?_
        refine mr_iload_n (pc := 38) (z := z447) dX12_until_38 rfl rfl ?_
        refine mr_cVP (pc := 39) (c_X12_eventAt_W hw T453 h531 (((W462 z448 z447 μ449 rfl h451 h452 T453 F454).2 h526).2 h529)) (gOk _ _ _ _ _) dX12_until_39 (tX12_eventAt _ _ _ _ _) ⟨wV_X12_eventAt, wL_X12_eventAt⟩ wM_X12_607 (gCX12 _ _ _ _ _) rfl (A_106 hw) rfl ⟨le_t rfl, le_t rfl⟩ ⟨le_t rfl, le_t rfl⟩ rfl (le_t rfl) fun z536 h535 => ?_
        refine mr_iload_n (pc := 42) (z := p1) dX12_until_42 rfl rfl ?_
        refine mr_icmp_gt (pc := 43) (tgt := 62) dX12_until_43 (by decide) (r32 h535.1 rfl) (r32 h8 rfl) (fun h537 => ?_) (fun h537 => ?_)
        · have h538 : 1 ≤ z536 ∧ z536 ≤ 2000001000 := (vc_X12_until_W_8 h537 h4 h7 h8 h3 h535.1)
          exact J487 ((h535.2.1 h535.1).1 h537)
        have h539 : (-1) ≤ z536 ∧ z536 ≤ 1000000000 := (vc_X12_until_W_7 h537 h4 h7 h8 h3 h535.1)
        refine sv_aload_n (pc := 46) dX12_until_46 rfl rfl ?_
        refine mr_iload_n (pc := 47) (z := z447) dX12_until_47 rfl rfl ?_
        obtain ⟨z540, q541⟩ : ∃ z, μ449 106 6 = z := ⟨_, rfl⟩
        have h542 : (0 ≤ z540 ∧ z540 ≤ 20) := by rw [← q541]; exact T453 106 106 (A_106 hw) 6
        refine mr_cVV (pc := 48) (c_X12_doEvent_W hw T453 h531 q541 I456 I457 I458 (nev.ok R459 rfl (vc_X12_until_W_13 h529 h531 h460)) (((h535.2.1 h535.1).2 h537) z540 q541 h542)) (gOk _ _ _ _ _) dX12_until_48 (tX12_doEvent _ _ _ _ _) ⟨wV_X12_doEvent, wL_X12_doEvent⟩ wM_X12_616 (gCX12 _ _ _ _ _) rfl (A_106 hw) rfl ⟨le_t rfl, le_t rfl⟩ ⟨le_t rfl, le_t rfl⟩ rfl (le_t rfl) fun μ543 T544 F545 h546 => ?_
        refine mr_iinc (pc := 51) (lv' := [(2, iv (z448 + 1)), (0, .ref 106), (1, iv p1), (3, iv z447)]) dX12_until_51 rfl (by decide) rfl ?_
        refine sv_aload_n (pc := 54) dX12_until_54 rfl rfl ?_
        refine mr_cVP (pc := 55) (c_X12_nextEvent_Wev hw T544 (h546.2.2.1 T544 F545)) (gOk _ _ _ _ _) dX12_until_55 (tX12_nextEvent _ _ _ _ _) ⟨wV_X12_nextEvent, wL_X12_nextEvent⟩ wM_X12_613 (gCX12 _ _ _ _ _) rfl (A_106 hw) rfl ⟨le_t rfl, le_t rfl⟩ ⟨le_t rfl, le_t rfl⟩ rfl (le_t rfl) fun z551 h550 => ?_
        refine mr_istore_n (pc := 58) (lv' := [(3, iv z551), (2, iv (z448 + 1)), (0, .ref 106), (1, iv p1)]) dX12_until_58 rfl (by decide) rfl ?_
        refine sv_goto (pc := 59) (tgt := 24) dX12_until_59 (by decide) ?_
        refine mr_lvS (lv' := [(0, .ref 106), (1, iv p1), (2, iv (z448 + 1)), (3, iv z551)]) (List.forall_mem_cons.mpr ⟨rfl, List.forall_mem_cons.mpr ⟨rfl, List.forall_mem_cons.mpr ⟨rfl, List.forall_mem_cons.mpr ⟨rfl, fun _ h => absurd h List.not_mem_nil⟩⟩⟩⟩) ?_
        exact ih463 (z448 + 1) z551 μ543 T544 (mF.call (mF.call mF.refl F454 rfl) F545 rfl) (rW (c := 0) (d := 500) (rAdd (e := 1) (f := 500) h528 (rR (x := 1)) rfl) rfl) h550.1 h546.1 h546.2.1 (PK.keep I458 hw ((mF.call mF.refl F545 rfl) : mF [106026, 106027, 106028, 106029, 106030, 106031, 106071, 106072, 106073, 126999, 151999, 152999, 153999, 154999, 155999, 156999, 157999, 158999, 159999, 160999, 161999, 165999] w μ449 μ543) rfl) h550.2.1.symm (vc_X12_until_W_15 h550.2.2.1 h550.1) (vc_X11_until_W_9 (nS h461) h526 h528) (h550.2.2.2.1 h550.1)
    refine mr_lvS (lv' := [(0, .ref 106), (1, iv p1), (2, iv 0), (3, iv z13)]) (List.forall_mem_cons.mpr ⟨rfl, List.forall_mem_cons.mpr ⟨rfl, List.forall_mem_cons.mpr ⟨rfl, List.forall_mem_cons.mpr ⟨rfl, fun _ h => absurd h List.not_mem_nil⟩⟩⟩⟩) ?_
    exact L450 502 0 z13 μ hT mF.refl (rW (c := 0) (d := 500) (rR (x := 0)) rfl) h12.1 hIG1 hIEV hIPK h12.2.1.symm (vc_X12_until_W_15 h12.2.2.1 h12.1) vc_X11_go_W_10 (h12.2.2.2.1 h12.1)
  have h552 : 1000000001 ≤ p1 ∧ p1 ≤ 2147483647 := (vc_X12_until_W_18 h7 h4 h6 h3)
  refine mr_iconst (pc := 15) (z := (-1)) dX12_until_15 ?_
  exact mr_iret dX12_until_16 rfl (le_t rfl) (le_t rfl) hT mF.refl ⟨(rW (c := (-2147483648)) (d := 2147483647) (rR (x := (-1))) rfl), hIG1, hIEV, (((hQ z1 q2 h3).2 h4).2 h7), trivial⟩
def WP_X11_isDomain_W (w : mW) (μ : mM) (p1 : Int) (Q : Int → mM → Prop) : Prop := ∀ f_n : Int, μ 6 15 = f_n → (f_n = w.2.2.2 0 ∧ 0 ≤ f_n ∧ f_n ≤ 10) → ((p1 < 0) → Q (0 : Int) μ) ∧ ((0 ≤ p1) → ((f_n ≤ p1) → Q (0 : Int) μ) ∧ ((p1 < f_n) → Q (1 : Int) μ))
set_option maxRecDepth 4000 in
set_option maxHeartbeats 4000000 in
theorem c_X11_isDomain_W {l : Launch} {D : va_G} {c : Nat → ClassId} {H0 : Heap} {sa : Nat × Nat × (Nat → Int32)} {w : mW} {μ : mM} (hw : mWF w) (hT : mT w μ) {p1 : Int} (hp1 : (-2147483648) ≤ p1 ∧ p1 ≤ 2147483647) {f_n : Int} (q_f_n : μ 6 15 = f_n) {Q : Int → mM → Prop} (hQ : WP_X11_isDomain_W w μ p1 Q) : sC (gG l D c H0 sa) mX11_isDomain 1 0 0 [.ref 0, iv p1] (mk w μ) (qP w μ (fun z => (0 ≤ z ∧ z ≤ 1) ∧ (z = 1 → 0 ≤ p1 ∧ p1 < f_n) ∧ (z = 0 → p1 < 0 ∨ f_n ≤ p1) ∧ Q z μ ∧ True)) := by
  refine sC.of rfl (by decide) (le_t rfl) ?_
  have ht_f_n : (f_n = w.2.2.2 0 ∧ 0 ≤ f_n ∧ f_n ≤ 10) := by rw [← q_f_n]; exact hT 6 6 (A_6 hw) 15
  refine mr_lvE (lv' := [(0, .ref 0), (1, iv p1)]) rfl ?_
  refine mr_iload_n (pc := 0) (z := p1) dX11_isDomain_0 rfl rfl ?_
  refine mr_if_lt (pc := 1) (tgt := 19) dX11_isDomain_1 (by decide) hp1 (fun h17 => ?_) (fun h17 => ?_)
  · have h18 : (-2147483648) ≤ p1 ∧ p1 ≤ (-1) := (vc_X12_ring_60 h17 hp1)
    refine mr_iconst (pc := 19) (z := 0) dX11_isDomain_19 ?_
    exact mr_zretP dX11_isDomain_20 rfl (rW (c := 0) (d := 1) (rR (x := 0)) rfl) (le_t rfl) (le_t rfl) ⟨(rW (c := 0) (d := 1) (rR (x := 0)) rfl), (vc_X11_isDomain_2 ht_f_n.1 h17 ht_f_n.2 h18), (vc_X11_isDomain_3 ht_f_n.1 h17 ht_f_n.2 h18), ((hQ f_n q_f_n ht_f_n).1 h17), trivial⟩
  have h19 : 0 ≤ p1 ∧ p1 ≤ 2147483647 := (vc_X12_ring_1 h17 hp1)
  refine mr_iload_n (pc := 4) (z := p1) dX11_isDomain_4 rfl rfl ?_
  refine sv_aload_n (pc := 5) dX11_isDomain_5 rfl rfl ?_
  refine gf_X11_3 (pc := 6) dX11_isDomain_6 wF_X11_26 (A_0 hw) hT ?_
  refine gk_X10_15 (pc := 9) dX11_isDomain_9 wF_X11_98 (A_6 hw) q_f_n ?_
  refine mr_icmp_ge (pc := 12) (tgt := 19) dX11_isDomain_12 (by decide) (r32 h19 rfl) (r32 ht_f_n.2 rfl) (fun h22 => ?_) (fun h22 => ?_)
  · refine mr_iconst (pc := 19) (z := 0) dX11_isDomain_19 ?_
    exact mr_zretP dX11_isDomain_20 rfl (rW (c := 0) (d := 1) (rR (x := 0)) rfl) (le_t rfl) (le_t rfl) ⟨(rW (c := 0) (d := 1) (rR (x := 0)) rfl), (vc_X11_isDomain_5 ht_f_n.1 h17 h22 ht_f_n.2 h19), (vc_X11_isDomain_6 ht_f_n.1 h17 h22 ht_f_n.2 h19), (((hQ f_n q_f_n ht_f_n).2 h17).1 h22), trivial⟩
  have h23 : 0 ≤ p1 ∧ p1 ≤ 9 := (vc_X11_isDomain_7 h22 ht_f_n.1 h17 ht_f_n.2 h19)
  have h24 : 1 ≤ f_n ∧ f_n ≤ 10 := (vc_X11_isDomain_8 h22 ht_f_n.1 h17 ht_f_n.2 h23)
  refine mr_iconst (pc := 15) (z := 1) dX11_isDomain_15 ?_
  refine sv_goto (pc := 16) (tgt := 20) dX11_isDomain_16 (by decide) ?_
  exact mr_zretP dX11_isDomain_20 rfl (rW (c := 0) (d := 1) (rR (x := 1)) rfl) (le_t rfl) (le_t rfl) ⟨(rW (c := 0) (d := 1) (rR (x := 1)) rfl), (vc_X11_isDomain_9 ht_f_n.1 h17 h22 h24 h23), (vc_X11_isDomain_10 ht_f_n.1 h17 h22 h24 h23), (((hQ f_n q_f_n ht_f_n).2 h17).2 h22), trivial⟩
def WP_X11_isPrefix_W (w : mW) (μ : mM) (p1 : Int) (Q : Int → mM → Prop) : Prop := ∀ f_n : Int, μ 6 14 = f_n → (0 ≤ f_n ∧ f_n ≤ 10) → ((p1 < 0) → Q (0 : Int) μ) ∧ ((0 ≤ p1) → ((f_n ≤ p1) → Q (0 : Int) μ) ∧ ((p1 < f_n) → Q (1 : Int) μ))
set_option maxRecDepth 4000 in
set_option maxHeartbeats 4000000 in
theorem c_X11_isPrefix_W {l : Launch} {D : va_G} {c : Nat → ClassId} {H0 : Heap} {sa : Nat × Nat × (Nat → Int32)} {w : mW} {μ : mM} (hw : mWF w) (hT : mT w μ) {p1 : Int} (hp1 : (-2147483648) ≤ p1 ∧ p1 ≤ 2147483647) {f_n : Int} (q_f_n : μ 6 14 = f_n) {Q : Int → mM → Prop} (hQ : WP_X11_isPrefix_W w μ p1 Q) : sC (gG l D c H0 sa) mX11_isPrefix 1 0 0 [.ref 0, iv p1] (mk w μ) (qP w μ (fun z => (0 ≤ z ∧ z ≤ 1) ∧ (z = 1 → 0 ≤ p1 ∧ p1 < f_n) ∧ (z = 0 → p1 < 0 ∨ f_n ≤ p1) ∧ Q z μ ∧ True)) := by
  refine sC.of rfl (by decide) (le_t rfl) ?_
  have ht_f_n : (0 ≤ f_n ∧ f_n ≤ 10) := by rw [← q_f_n]; exact hT 6 6 (A_6 hw) 14
  refine mr_lvE (lv' := [(0, .ref 0), (1, iv p1)]) rfl ?_
  refine mr_iload_n (pc := 0) (z := p1) dX11_isPrefix_0 rfl rfl ?_
  refine mr_if_lt (pc := 1) (tgt := 19) dX11_isPrefix_1 (by decide) hp1 (fun h17 => ?_) (fun h17 => ?_)
  · have h18 : (-2147483648) ≤ p1 ∧ p1 ≤ (-1) := (vc_X12_ring_60 h17 hp1)
    refine mr_iconst (pc := 19) (z := 0) dX11_isPrefix_19 ?_
    exact mr_zretP dX11_isPrefix_20 rfl (rW (c := 0) (d := 1) (rR (x := 0)) rfl) (le_t rfl) (le_t rfl) ⟨(rW (c := 0) (d := 1) (rR (x := 0)) rfl), (vc_X11_isPrefix_2 h17 ht_f_n h18), (vc_X11_isPrefix_3 h17 ht_f_n h18), ((hQ f_n q_f_n ht_f_n).1 h17), trivial⟩
  have h19 : 0 ≤ p1 ∧ p1 ≤ 2147483647 := (vc_X12_ring_1 h17 hp1)
  refine mr_iload_n (pc := 4) (z := p1) dX11_isPrefix_4 rfl rfl ?_
  refine sv_aload_n (pc := 5) dX11_isPrefix_5 rfl rfl ?_
  refine gf_X11_3 (pc := 6) dX11_isPrefix_6 wF_X11_26 (A_0 hw) hT ?_
  refine gk_X10_14 (pc := 9) dX11_isPrefix_9 wF_X11_92 (A_6 hw) q_f_n ?_
  refine mr_icmp_ge (pc := 12) (tgt := 19) dX11_isPrefix_12 (by decide) (r32 h19 rfl) (r32 ht_f_n rfl) (fun h22 => ?_) (fun h22 => ?_)
  · refine mr_iconst (pc := 19) (z := 0) dX11_isPrefix_19 ?_
    exact mr_zretP dX11_isPrefix_20 rfl (rW (c := 0) (d := 1) (rR (x := 0)) rfl) (le_t rfl) (le_t rfl) ⟨(rW (c := 0) (d := 1) (rR (x := 0)) rfl), (vc_X11_isPrefix_5 h17 h22 ht_f_n h19), (vc_X11_isPrefix_6 h17 h22 ht_f_n h19), (((hQ f_n q_f_n ht_f_n).2 h17).1 h22), trivial⟩
  have h23 : 0 ≤ p1 ∧ p1 ≤ 9 := (vc_X11_isPrefix_7 h22 h17 ht_f_n h19)
  have h24 : 1 ≤ f_n ∧ f_n ≤ 10 := (vc_X11_isPrefix_8 h22 h17 ht_f_n h23)
  refine mr_iconst (pc := 15) (z := 1) dX11_isPrefix_15 ?_
  refine sv_goto (pc := 16) (tgt := 20) dX11_isPrefix_16 (by decide) ?_
  exact mr_zretP dX11_isPrefix_20 rfl (rW (c := 0) (d := 1) (rR (x := 1)) rfl) (le_t rfl) (le_t rfl) ⟨(rW (c := 0) (d := 1) (rR (x := 1)) rfl), (vc_X11_isPrefix_9 h17 h22 h24 h23), (vc_X11_isPrefix_10 h17 h22 h24 h23), (((hQ f_n q_f_n ht_f_n).2 h17).2 h22), trivial⟩
def WP_X11_picked_W (w : mW) (μ : mM) (p1 : Int) (p2 : Int) (Q : Int → mM → Prop) : Prop := ∀ z1 : Int, μ 6 15 = z1 → (z1 = w.2.2.2 0 ∧ 0 ≤ z1 ∧ z1 ≤ 10) → WP_X11_isDomain_W w μ p1 (fun z8 _ => (0 ≤ z8 ∧ z8 ≤ 1) → ((z8 = 0) → Q ((-1) : Int) μ) ∧ ((¬ z8 = 0) → ∀ z16 : Int, μ 6 14 = z16 → (0 ≤ z16 ∧ z16 ≤ 10) → WP_X11_isPrefix_W w μ p2 (fun z23 _ => (0 ≤ z23 ∧ z23 ≤ 1) → ((¬ z23 = 0) → ∀ b28 : Nat, μ 10 (p1.toNat) = (b28 : Int) → mAt w b28 210 → ∀ z32 : Int, μ (b28 + 3) (p2.toNat) = z32 → ((z32 = -99999999 ∨ z32 = -4 ∨ (0 ≤ z32 ∧ z32 ≤ 19)) ∧ (0 ≤ z32 → z32 < w.2.2.2 1)) → ((z32 = (-99999999)) → Q z32 μ) ∧ ((¬ z32 = (-99999999)) → ∀ b51 : Nat, μ (b28 + 4) (p2.toNat) = (b51 : Int) → mAt w b51 200 → WP_X7_become_W w μ 3 b51 (fun μ54 => mT w μ54 → mF [200002, 200003, 200004, 200005, 200006, 200007, 200008, 201999, 202999] w μ μ54 → Q z32 μ54))) ∧ ((z23 = 0) → Q ((-1) : Int) μ))))
set_option maxRecDepth 4000 in
set_option maxHeartbeats 4000000 in
theorem c_X11_picked_W {l : Launch} {D : va_G} {c : Nat → ClassId} {H0 : Heap} {sa : Nat × Nat × (Nat → Int32)} {w : mW} {μ : mM} (hw : mWF w) (hT : mT w μ) {p1 : Int} (hp1 : (-2147483648) ≤ p1 ∧ p1 ≤ 2147483647) {p2 : Int} (hp2 : (-2147483648) ≤ p2 ∧ p2 ≤ 2147483647) {Q : Int → mM → Prop} (hQ : WP_X11_picked_W w μ p1 p2 Q) : sC (gG l D c H0 sa) mX11_picked 4 0 0 [.ref 0, iv p1, iv p2] (mk w μ) (qI w [200002, 200003, 200004, 200005, 200006, 200007, 200008, 201999, 202999] μ (fun z μ1 => ((-2147483648) ≤ z ∧ z ≤ 2147483647) ∧ Q z μ1 ∧ True)) := by
  refine sC.of rfl (by decide) (le_t rfl) ?_
  refine mr_lvE (lv' := [(0, .ref 0), (1, iv p1), (2, iv p2)]) rfl ?_
  refine sv_aload_n (pc := 0) dX11_picked_0 rfl rfl ?_
  refine mr_iload_n (pc := 1) (z := p1) dX11_picked_1 rfl rfl ?_
  obtain ⟨z1, q2⟩ : ∃ z, μ 6 15 = z := ⟨_, rfl⟩
  have h3 : (z1 = w.2.2.2 0 ∧ 0 ≤ z1 ∧ z1 ≤ 10) := by rw [← q2]; exact hT 6 6 (A_6 hw) 15
  refine mr_cVP (pc := 2) (c_X11_isDomain_W hw hT hp1 q2 (hQ z1 q2 h3)) (gOk _ _ _ _ _) dX11_picked_2 (tX11_isDomain _ _ _ _ _) ⟨wV_X11_isDomain, wL_X11_isDomain⟩ wM_X11_105 (gCX11 _ _ _ _ _) rfl (A_0 hw) rfl ⟨le_t rfl, le_t rfl⟩ ⟨le_t rfl, le_t rfl⟩ rfl (le_t rfl) fun z8 h7 => ?_
  refine mr_if_eq (pc := 5) (tgt := 16) dX11_picked_5 (by decide) (r32 h7.1 rfl) (fun h9 => ?_) (fun h9 => ?_)
  · have h10 : 0 ≤ z8 ∧ z8 ≤ 0 := (vc_X12_write_78 h9 h7.2.1 h7.2.2.1 hp1 h3.2 h7.1)
    have h11 : p1 < 0 ∨ z1 ≤ p1 := (h7.2.2.1 (vc_X11_letter_2 h7.2.1 h7.2.2.1 h9 h3.1 hp1 h3.2 h10))
    refine mr_iconst (pc := 16) (z := (-1)) dX11_picked_16 ?_
    exact mr_iret dX11_picked_17 rfl (le_t rfl) (le_t rfl) hT mF.refl ⟨(rW (c := (-2147483648)) (d := 2147483647) (rR (x := (-1))) rfl), ((h7.2.2.2.1 h7.1).1 h9), trivial⟩
  have h12 : 1 ≤ z8 ∧ z8 ≤ 1 := (vc_X12_write_12 h9 h7.2.1 h7.2.2.1 hp1 h3.2 h7.1)
  have h13 : 0 ≤ p1 ∧ p1 < z1 := (h7.2.1 (vc_X11_letter_4 h7.2.1 h7.2.2.1 h9 h3.1 hp1 h3.2 h12))
  have h14 : 0 ≤ p1 ∧ p1 ≤ 9 := (vc_X11_letter_5 h13 h3.1 h7.2.1 h7.2.2.1 hp1 h3.2 h12)
  have h15 : 1 ≤ z1 ∧ z1 ≤ 10 := (vc_X11_letter_6 h13 h3.1 h7.2.1 h7.2.2.1 h14 h3.2 h12)
  refine sv_aload_n (pc := 8) dX11_picked_8 rfl rfl ?_
  refine mr_iload_n (pc := 9) (z := p2) dX11_picked_9 rfl rfl ?_
  obtain ⟨z16, q17⟩ : ∃ z, μ 6 14 = z := ⟨_, rfl⟩
  have h18 : (0 ≤ z16 ∧ z16 ≤ 10) := by rw [← q17]; exact hT 6 6 (A_6 hw) 14
  refine mr_cVP (pc := 10) (c_X11_isPrefix_W hw hT hp2 q17 (((h7.2.2.2.1 h7.1).2 h9) z16 q17 h18)) (gOk _ _ _ _ _) dX11_picked_10 (tX11_isPrefix _ _ _ _ _) ⟨wV_X11_isPrefix, wL_X11_isPrefix⟩ wM_X11_182 (gCX11 _ _ _ _ _) rfl (A_0 hw) rfl ⟨le_t rfl, le_t rfl⟩ ⟨le_t rfl, le_t rfl⟩ rfl (le_t rfl) fun z23 h22 => ?_
  refine mr_if_ne (pc := 13) (tgt := 18) dX11_picked_13 (by decide) (r32 h22.1 rfl) (fun h24 => ?_) (fun h24 => ?_)
  · have h25 : 1 ≤ z23 ∧ z23 ≤ 1 := (vc_X12_write_12 h24 h22.2.1 h22.2.2.1 hp2 h18 h22.1)
    have h26 : 0 ≤ p2 ∧ p2 < z16 := (h22.2.1 (vc_X12_write_13 h22.2.1 h22.2.2.1 h24 hp2 h18 h25))
    have h27 : 0 ≤ p2 ∧ p2 ≤ 9 := (vc_X12_write_14 h26 h22.2.1 h22.2.2.1 hp2 h18 h25)
    refine sv_aload_n (pc := 18) dX11_picked_18 rfl rfl ?_
    refine gf_X11_3 (pc := 19) dX11_picked_19 wF_X11_26 (A_0 hw) hT ?_
    refine gf_X10_3 (pc := 22) dX11_picked_22 wF_X11_283 (A_6 hw) hT ?_
    refine mr_iload_n (pc := 25) (z := p1) dX11_picked_25 rfl rfl ?_
    refine la_10 (pc := 26) dX11_picked_26 (A_10 hw) hT (rIx (n := 10) h14 rfl) (vc_X11_letter_7 h3.1 h7.2.1 h7.2.2.1 h13 h9 h14 h15 h12) fun b28 q29 A30 => ?_
    refine mr_astore_n (pc := 27) (lv' := [(3, .ref b28), (0, .ref 0), (1, iv p1), (2, iv p2)]) dX11_picked_27 rfl (by decide) rfl ?_
    refine sv_aload_n (pc := 28) dX11_picked_28 rfl rfl ?_
    refine gf_X0_2 (pc := 29) dX11_picked_29 wF_X11_310 A30 hT fun A31 => ?_
    refine mr_iload_n (pc := 32) (z := p2) dX11_picked_32 rfl rfl ?_
    refine la_213 (pc := 33) dX11_picked_33 A31 hT (rIx (n := 10) h27 rfl) fun z32 q33 h34 => ?_
    have h35 : (-99999999) ≤ z32 ∧ z32 ≤ 19 := (vc_X12_sends_3 h34.1)
    refine mr_ldc (pc := 34) (z := (-99999999)) dX11_picked_34 wG_X11_165 (by decide) ?_
    refine mr_icmp_eq (pc := 36) (tgt := 52) dX11_picked_36 (by decide) (r32 h35 rfl) (r32 (rR (x := (-99999999))) rfl) (fun h46 => ?_) (fun h46 => ?_)
    · have h47 : (-99999999) ≤ z32 ∧ z32 ≤ (-99999999) := (vc_X2_tieFor_12 h46 h34.2 h35 h34.1)
      refine sv_aload_n (pc := 52) dX11_picked_52 rfl rfl ?_
      refine gf_X0_2 (pc := 53) dX11_picked_53 wF_X11_310 A30 hT fun A48 => ?_
      refine mr_iload_n (pc := 56) (z := p2) dX11_picked_56 rfl rfl ?_
      refine lk_213 (pc := 57) dX11_picked_57 A48 (rIx (n := 10) h27 rfl) q33 ?_
      exact mr_iret dX11_picked_58 rfl (le_t rfl) (le_t rfl) hT mF.refl ⟨(rW (c := (-2147483648)) (d := 2147483647) h47 rfl), (((((h22.2.2.2.1 h22.1).1 h24) b28 q29 A30) z32 q33 h34).1 h46), trivial⟩
    have h49 : (-4) ≤ z32 ∧ z32 ≤ 19 := (vc_X2_tieFor_15 h46 h34.2 h35 h34.1)
    refine sv_aload_n (pc := 39) dX11_picked_39 rfl rfl ?_
    refine gf_X11_2 (pc := 40) dX11_picked_40 wF_X11_19 (A_0 hw) hT ?_
    refine sv_aload_n (pc := 43) dX11_picked_43 rfl rfl ?_
    refine gf_X0_3 (pc := 44) dX11_picked_44 wF_X11_313 A30 hT fun A50 => ?_
    refine mr_iload_n (pc := 47) (z := p2) dX11_picked_47 rfl rfl ?_
    refine la_214 (pc := 48) dX11_picked_48 A50 hT (rIx (n := 10) h27 rfl) fun b51 q52 A53 => ?_
    refine mr_cVV (pc := 49) (c_X7_become_W hw hT (A_3 hw) A53 ((((((h22.2.2.2.1 h22.1).1 h24) b28 q29 A30) z32 q33 h34).2 h46) b51 q52 A53)) (gOk _ _ _ _ _) dX11_picked_49 (tX7_become _ _ _ _ _) ⟨wV_X7_become, wL_X7_become⟩ wM_X11_317 (gCX7 _ _ _ _ _) rfl (A_3 hw) rfl ⟨le_t rfl, le_t rfl⟩ ⟨le_t rfl, le_t rfl⟩ rfl (le_t rfl) fun μ54 T55 F56 h57 => ?_
    refine sv_aload_n (pc := 52) dX11_picked_52 rfl rfl ?_
    refine gf_X0_2 (pc := 53) dX11_picked_53 wF_X11_310 A30 T55 fun A58 => ?_
    refine mr_iload_n (pc := 56) (z := p2) dX11_picked_56 rfl rfl ?_
    refine lk_213 (pc := 57) dX11_picked_57 A58 (rIx (n := 10) h27 rfl) (F56.f A58 rfl q33) ?_
    exact mr_iret dX11_picked_58 rfl (le_t rfl) (le_t rfl) T55 (mF.call mF.refl F56 rfl) ⟨(rW (c := (-2147483648)) (d := 2147483647) h49 rfl), (h57.1 T55 F56), trivial⟩
  have h59 : 0 ≤ z23 ∧ z23 ≤ 0 := (vc_X12_write_78 h24 h22.2.1 h22.2.2.1 hp2 h18 h22.1)
  have h60 : p2 < 0 ∨ z16 ≤ p2 := (h22.2.2.1 (vc_X12_write_79 h22.2.1 h22.2.2.1 h24 hp2 h18 h59))
  refine mr_iconst (pc := 16) (z := (-1)) dX11_picked_16 ?_
  exact mr_iret dX11_picked_17 rfl (le_t rfl) (le_t rfl) hT mF.refl ⟨(rW (c := (-2147483648)) (d := 2147483647) (rR (x := (-1))) rfl), ((h22.2.2.2.1 h22.1).2 h24), trivial⟩
def WP_X12_isDomain_W (w : mW) (μ : mM) (p1 : Int) (Q : Int → mM → Prop) : Prop := ∀ f_domains : Int, μ 106 5 = f_domains → (0 ≤ f_domains ∧ f_domains ≤ 10) → WP_X12_in_W w μ p1 (0) (f_domains - 1) (fun z20 _ => (0 ≤ z20 ∧ z20 ≤ 1) → Q z20 μ)
set_option maxRecDepth 4000 in
set_option maxHeartbeats 4000000 in
theorem c_X12_isDomain_W {l : Launch} {D : va_G} {c : Nat → ClassId} {H0 : Heap} {sa : Nat × Nat × (Nat → Int32)} {w : mW} {μ : mM} (hw : mWF w) (hT : mT w μ) {p1 : Int} (hp1 : (-2147483648) ≤ p1 ∧ p1 ≤ 2147483647) {f_domains : Int} (q_f_domains : μ 106 5 = f_domains) {Q : Int → mM → Prop} (hQ : WP_X12_isDomain_W w μ p1 Q) : sC (gG l D c H0 sa) mX12_isDomain 2 0 0 [.ref 106, iv p1] (mk w μ) (qP w μ (fun z => (0 ≤ z ∧ z ≤ 1) ∧ (z = 1 → 0 ≤ p1 ∧ p1 < f_domains) ∧ (z = 0 → p1 < 0 ∨ f_domains ≤ p1) ∧ Q z μ ∧ True)) := by
  refine sC.of rfl (by decide) (le_t rfl) ?_
  have ht_f_domains : (0 ≤ f_domains ∧ f_domains ≤ 10) := by rw [← q_f_domains]; exact hT 106 106 (A_106 hw) 5
  refine mr_lvE (lv' := [(0, .ref 106), (1, iv p1)]) rfl ?_
  refine mr_iload_n (pc := 0) (z := p1) dX12_isDomain_0 rfl rfl ?_
  refine mr_iconst (pc := 1) (z := 0) dX12_isDomain_1 ?_
  refine sv_aload_n (pc := 2) dX12_isDomain_2 rfl rfl ?_
  refine gk_X12_5 (pc := 3) dX12_isDomain_3 wF_X12_34 (A_106 hw) q_f_domains ?_
  refine mr_iconst (pc := 6) (z := 1) dX12_isDomain_6 ?_
  refine mr_isub (pc := 7) (x := f_domains) (y := 1) dX12_isDomain_7 ?_
  refine mr_cSP (pc := 8) (c_X12_in_W hw hT hp1 (rW (c := (-2147483648)) (d := 2147483647) (rR (x := 0)) rfl) (rW (c := (-2147483648)) (d := 2147483647) (rSub (e := (-1)) (f := 9) ht_f_domains (rR (x := 1)) rfl) rfl) (hQ f_domains q_f_domains ht_f_domains)) (gOk _ _ _ _ _) dX12_isDomain_8 (tX12_in _ _ _ _ _) wS_X12_in wM_X12_18 ⟨le_t rfl, le_t rfl⟩ ⟨le_t rfl, le_t rfl⟩ rfl (le_t rfl) fun z20 h19 => ?_
  exact mr_zretP dX12_isDomain_11 rfl h19.1 (le_t rfl) (le_t rfl) ⟨h19.1, (vc_X12_isPrefix_1 h19.2.1 h19.2.2.1 ht_f_domains hp1 h19.1), (vc_X12_isPrefix_2 h19.2.1 h19.2.2.1 ht_f_domains hp1 h19.1), (h19.2.2.2.1 h19.1), trivial⟩
def WP_X12_isPrefix_W (w : mW) (μ : mM) (p1 : Int) (Q : Int → mM → Prop) : Prop := ∀ f_prefixes : Int, μ 106 2 = f_prefixes → (0 ≤ f_prefixes ∧ f_prefixes ≤ 10) → WP_X12_in_W w μ p1 (0) (f_prefixes - 1) (fun z20 _ => (0 ≤ z20 ∧ z20 ≤ 1) → Q z20 μ)
set_option maxRecDepth 4000 in
set_option maxHeartbeats 4000000 in
theorem c_X12_isPrefix_W {l : Launch} {D : va_G} {c : Nat → ClassId} {H0 : Heap} {sa : Nat × Nat × (Nat → Int32)} {w : mW} {μ : mM} (hw : mWF w) (hT : mT w μ) {p1 : Int} (hp1 : (-2147483648) ≤ p1 ∧ p1 ≤ 2147483647) {f_prefixes : Int} (q_f_prefixes : μ 106 2 = f_prefixes) {Q : Int → mM → Prop} (hQ : WP_X12_isPrefix_W w μ p1 Q) : sC (gG l D c H0 sa) mX12_isPrefix 2 0 0 [.ref 106, iv p1] (mk w μ) (qP w μ (fun z => (0 ≤ z ∧ z ≤ 1) ∧ (z = 1 → 0 ≤ p1 ∧ p1 < f_prefixes) ∧ (z = 0 → p1 < 0 ∨ f_prefixes ≤ p1) ∧ Q z μ ∧ True)) := by
  refine sC.of rfl (by decide) (le_t rfl) ?_
  have ht_f_prefixes : (0 ≤ f_prefixes ∧ f_prefixes ≤ 10) := by rw [← q_f_prefixes]; exact hT 106 106 (A_106 hw) 2
  refine mr_lvE (lv' := [(0, .ref 106), (1, iv p1)]) rfl ?_
  refine mr_iload_n (pc := 0) (z := p1) dX12_isPrefix_0 rfl rfl ?_
  refine mr_iconst (pc := 1) (z := 0) dX12_isPrefix_1 ?_
  refine sv_aload_n (pc := 2) dX12_isPrefix_2 rfl rfl ?_
  refine gk_X12_2 (pc := 3) dX12_isPrefix_3 wF_X12_15 (A_106 hw) q_f_prefixes ?_
  refine mr_iconst (pc := 6) (z := 1) dX12_isPrefix_6 ?_
  refine mr_isub (pc := 7) (x := f_prefixes) (y := 1) dX12_isPrefix_7 ?_
  refine mr_cSP (pc := 8) (c_X12_in_W hw hT hp1 (rW (c := (-2147483648)) (d := 2147483647) (rR (x := 0)) rfl) (rW (c := (-2147483648)) (d := 2147483647) (rSub (e := (-1)) (f := 9) ht_f_prefixes (rR (x := 1)) rfl) rfl) (hQ f_prefixes q_f_prefixes ht_f_prefixes)) (gOk _ _ _ _ _) dX12_isPrefix_8 (tX12_in _ _ _ _ _) wS_X12_in wM_X12_18 ⟨le_t rfl, le_t rfl⟩ ⟨le_t rfl, le_t rfl⟩ rfl (le_t rfl) fun z20 h19 => ?_
  exact mr_zretP dX12_isPrefix_11 rfl h19.1 (le_t rfl) (le_t rfl) ⟨h19.1, (vc_X12_isPrefix_1 h19.2.1 h19.2.2.1 ht_f_prefixes hp1 h19.1), (vc_X12_isPrefix_2 h19.2.1 h19.2.2.1 ht_f_prefixes hp1 h19.1), (h19.2.2.2.1 h19.1), trivial⟩
def WP_X12_picked_W (w : mW) (μ : mM) (p1 : Int) (p2 : Int) (Q : Int → mM → Prop) : Prop := ∀ z1 : Int, μ 106 5 = z1 → (0 ≤ z1 ∧ z1 ≤ 10) → WP_X12_isDomain_W w μ p1 (fun z8 _ => (0 ≤ z8 ∧ z8 ≤ 1) → ((z8 = 0) → Q ((-1) : Int) μ) ∧ ((¬ z8 = 0) → ∀ z16 : Int, μ 106 2 = z16 → (0 ≤ z16 ∧ z16 ≤ 10) → WP_X12_isPrefix_W w μ p2 (fun z23 _ => (0 ≤ z23 ∧ z23 ≤ 1) → ((¬ z23 = 0) → ∀ z28 : Int, μ 161 (((10 * p1) + p2).toNat) = z28 → (z28 = -99999999 ∨ z28 = -4 ∨ (0 ≤ z28 ∧ z28 ≤ 19)) → ((¬ z28 = (-99999999)) → ∀ z34 : Int, μ 126 ((40 * (30 + ((10 * p1) + p2))).toNat) = z34 → ((-2147483648 ≤ z34 ∧ z34 ≤ 2147483647) ∧ ((40 * (30 + ((10 * p1) + p2))) % 40 = 0 → -1 ≤ z34 ∧ z34 ≤ 9) ∧ ((40 * (30 + ((10 * p1) + p2))) % 40 = 4 → 0 ≤ z34 ∧ z34 ≤ 20) ∧ ((40 * (30 + ((10 * p1) + p2))) % 40 = 5 → 0 ≤ z34 ∧ z34 ≤ 8)) → WP_X12_copy_W w μ (30 + ((10 * p1) + p2)) (0) (fun μ38 => mT w μ38 → mF [126999] w μ μ38 → ∀ z42 : Int, μ38 126 (((40 * 0) : Int).toNat) = z42 → ∀ μ48 : mM, mU μ38 106 (70) (1 : Int) μ48 → mT w μ48 → Q z28 μ48)) ∧ ((z28 = (-99999999)) → Q ((-99999999) : Int) μ)) ∧ ((z23 = 0) → Q ((-1) : Int) μ))))
theorem vc_X12_picked_W_12 {p1 p2 z1 z16 z23 z8 : Int} (h0 : (z8 = 1 → 0 ≤ p1 ∧ p1 < z1)) (h1 : (z8 = 0 → p1 < 0 ∨ z1 ≤ p1)) (h2 : 0 ≤ p1 ∧ p1 < z1) (h3 : (z23 = 1 → 0 ≤ p2 ∧ p2 < z16)) (h4 : (z23 = 0 → p2 < 0 ∨ z16 ≤ p2)) (h5 : 0 ≤ p2 ∧ p2 < z16) (h6 : ¬ z8 = 0) (h7 : ¬ z23 = 0) (h8 : 0 ≤ p1 ∧ p1 ≤ 9) (h9 : 0 ≤ p2 ∧ p2 ≤ 9) (h10 : 1 ≤ z1 ∧ z1 ≤ 10) (h11 : 0 ≤ z16 ∧ z16 ≤ 10) (h12 : 1 ≤ z23 ∧ z23 ≤ 1) (h13 : 1 ≤ z8 ∧ z8 ≤ 1) : 0 ≤ (40 * (30 + ((10 * p1) + p2))) := by omega
theorem vc_X12_picked_W_13 {p1 p2 z1 z16 z23 z8 : Int} (h0 : (z8 = 1 → 0 ≤ p1 ∧ p1 < z1)) (h1 : (z8 = 0 → p1 < 0 ∨ z1 ≤ p1)) (h2 : 0 ≤ p1 ∧ p1 < z1) (h3 : (z23 = 1 → 0 ≤ p2 ∧ p2 < z16)) (h4 : (z23 = 0 → p2 < 0 ∨ z16 ≤ p2)) (h5 : 0 ≤ p2 ∧ p2 < z16) (h6 : ¬ z8 = 0) (h7 : ¬ z23 = 0) (h8 : 0 ≤ p1 ∧ p1 ≤ 9) (h9 : 0 ≤ p2 ∧ p2 ≤ 9) (h10 : 1 ≤ z1 ∧ z1 ≤ 10) (h11 : 0 ≤ z16 ∧ z16 ≤ 10) (h12 : 1 ≤ z23 ∧ z23 ≤ 1) (h13 : 1 ≤ z8 ∧ z8 ≤ 1) : (40 * (30 + ((10 * p1) + p2))) % 40 = 0 := by omega
theorem vc_X12_picked_W_14 {p1 p2 z1 z16 z23 z8 : Int} (h0 : (z8 = 1 → 0 ≤ p1 ∧ p1 < z1)) (h1 : (z8 = 0 → p1 < 0 ∨ z1 ≤ p1)) (h2 : 0 ≤ p1 ∧ p1 < z1) (h3 : (z23 = 1 → 0 ≤ p2 ∧ p2 < z16)) (h4 : (z23 = 0 → p2 < 0 ∨ z16 ≤ p2)) (h5 : 0 ≤ p2 ∧ p2 < z16) (h6 : ¬ z8 = 0) (h7 : ¬ z23 = 0) (h8 : 0 ≤ p1 ∧ p1 ≤ 9) (h9 : 0 ≤ p2 ∧ p2 ≤ 9) (h10 : 1 ≤ z1 ∧ z1 ≤ 10) (h11 : 0 ≤ z16 ∧ z16 ≤ 10) (h12 : 1 ≤ z23 ∧ z23 ≤ 1) (h13 : 1 ≤ z8 ∧ z8 ≤ 1) : (30 + ((10 * p1) + p2)) < (0 : Int) ∨ (0 : Int) < (30 + ((10 * p1) + p2)) := by omega
theorem vc_X12_picked_W_15  : (0 : Int) ≤ ((40 : Int) * (0 : Int)) := by omega
theorem vc_X12_picked_W_16  : (((40 : Int) * (0 : Int)) : Int) % (40 : Int) = (0 : Int) := by omega
set_option maxRecDepth 4000 in
set_option maxHeartbeats 4000000 in
theorem c_X12_picked_W {l : Launch} {D : va_G} {c : Nat → ClassId} {H0 : Heap} {sa : Nat × Nat × (Nat → Int32)} {w : mW} {μ : mM} (hw : mWF w) (hT : mT w μ) {p1 : Int} (hp1 : (-2147483648) ≤ p1 ∧ p1 ≤ 2147483647) {p2 : Int} (hp2 : (-2147483648) ≤ p2 ∧ p2 ≤ 2147483647) {Q : Int → mM → Prop} (hQ : WP_X12_picked_W w μ p1 p2 Q) : sC (gG l D c H0 sa) mX12_picked 3 0 0 [.ref 106, iv p1, iv p2] (mk w μ) (qI w [106070, 126999] μ (fun z μ1 => ((-2147483648) ≤ z ∧ z ≤ 2147483647) ∧ Q z μ1 ∧ True)) := by
  refine sC.of rfl (by decide) (le_t rfl) ?_
  refine mr_lvE (lv' := [(0, .ref 106), (1, iv p1), (2, iv p2)]) rfl ?_
  refine sv_aload_n (pc := 0) dX12_picked_0 rfl rfl ?_
  refine mr_iload_n (pc := 1) (z := p1) dX12_picked_1 rfl rfl ?_
  obtain ⟨z1, q2⟩ : ∃ z, μ 106 5 = z := ⟨_, rfl⟩
  have h3 : (0 ≤ z1 ∧ z1 ≤ 10) := by rw [← q2]; exact hT 106 106 (A_106 hw) 5
  refine mr_cVP (pc := 2) (c_X12_isDomain_W hw hT hp1 q2 (hQ z1 q2 h3)) (gOk _ _ _ _ _) dX12_picked_2 (tX12_isDomain _ _ _ _ _) ⟨wV_X12_isDomain, wL_X12_isDomain⟩ wM_X12_49 (gCX12 _ _ _ _ _) rfl (A_106 hw) rfl ⟨le_t rfl, le_t rfl⟩ ⟨le_t rfl, le_t rfl⟩ rfl (le_t rfl) fun z8 h7 => ?_
  refine mr_if_eq (pc := 5) (tgt := 16) dX12_picked_5 (by decide) (r32 h7.1 rfl) (fun h9 => ?_) (fun h9 => ?_)
  · have h10 : 0 ≤ z8 ∧ z8 ≤ 0 := (vc_X12_write_78 h9 h7.2.1 h7.2.2.1 hp1 h3 h7.1)
    have h11 : p1 < 0 ∨ z1 ≤ p1 := (h7.2.2.1 (vc_X12_write_79 h7.2.1 h7.2.2.1 h9 hp1 h3 h10))
    refine mr_iconst (pc := 16) (z := (-1)) dX12_picked_16 ?_
    exact mr_iret dX12_picked_17 rfl (le_t rfl) (le_t rfl) hT mF.refl ⟨(rW (c := (-2147483648)) (d := 2147483647) (rR (x := (-1))) rfl), ((h7.2.2.2.1 h7.1).1 h9), trivial⟩
  have h12 : 1 ≤ z8 ∧ z8 ≤ 1 := (vc_X12_write_12 h9 h7.2.1 h7.2.2.1 hp1 h3 h7.1)
  have h13 : 0 ≤ p1 ∧ p1 < z1 := (h7.2.1 (vc_X12_write_13 h7.2.1 h7.2.2.1 h9 hp1 h3 h12))
  have h14 : 0 ≤ p1 ∧ p1 ≤ 9 := (vc_X12_write_14 h13 h7.2.1 h7.2.2.1 hp1 h3 h12)
  have h15 : 1 ≤ z1 ∧ z1 ≤ 10 := (vc_X12_write_15 h13 h7.2.1 h7.2.2.1 h14 h3 h12)
  refine sv_aload_n (pc := 8) dX12_picked_8 rfl rfl ?_
  refine mr_iload_n (pc := 9) (z := p2) dX12_picked_9 rfl rfl ?_
  obtain ⟨z16, q17⟩ : ∃ z, μ 106 2 = z := ⟨_, rfl⟩
  have h18 : (0 ≤ z16 ∧ z16 ≤ 10) := by rw [← q17]; exact hT 106 106 (A_106 hw) 2
  refine mr_cVP (pc := 10) (c_X12_isPrefix_W hw hT hp2 q17 (((h7.2.2.2.1 h7.1).2 h9) z16 q17 h18)) (gOk _ _ _ _ _) dX12_picked_10 (tX12_isPrefix _ _ _ _ _) ⟨wV_X12_isPrefix, wL_X12_isPrefix⟩ wM_X12_92 (gCX12 _ _ _ _ _) rfl (A_106 hw) rfl ⟨le_t rfl, le_t rfl⟩ ⟨le_t rfl, le_t rfl⟩ rfl (le_t rfl) fun z23 h22 => ?_
  refine mr_if_ne (pc := 13) (tgt := 18) dX12_picked_13 (by decide) (r32 h22.1 rfl) (fun h24 => ?_) (fun h24 => ?_)
  · have h25 : 1 ≤ z23 ∧ z23 ≤ 1 := (vc_X12_write_12 h24 h22.2.1 h22.2.2.1 hp2 h18 h22.1)
    have h26 : 0 ≤ p2 ∧ p2 < z16 := (h22.2.1 (vc_X12_write_13 h22.2.1 h22.2.2.1 h24 hp2 h18 h25))
    have h27 : 0 ≤ p2 ∧ p2 ≤ 9 := (vc_X12_write_14 h26 h22.2.1 h22.2.2.1 hp2 h18 h25)
    refine mr_bipush (pc := 18) (z := 10) dX12_picked_18 (by decide) ?_
    refine mr_iload_n (pc := 20) (z := p1) dX12_picked_20 rfl rfl ?_
    refine mr_imul (pc := 21) (x := 10) (y := p1) dX12_picked_21 ?_
    refine mr_iload_n (pc := 22) (z := p2) dX12_picked_22 rfl rfl ?_
    refine mr_iadd (pc := 23) (x := (10 * p1)) (y := p2) dX12_picked_23 ?_
    refine mr_istore_n (pc := 24) (lv' := [(3, iv ((10 * p1) + p2)), (0, .ref 106), (1, iv p1), (2, iv p2)]) dX12_picked_24 rfl (by decide) rfl ?_
    refine sv_aload_n (pc := 25) dX12_picked_25 rfl rfl ?_
    refine gf_X12_81 (pc := 26) dX12_picked_26 wF_X12_445 (A_106 hw) hT ?_
    refine mr_iload_n (pc := 29) (z := ((10 * p1) + p2)) dX12_picked_29 rfl rfl ?_
    refine la_161 (pc := 30) dX12_picked_30 (A_161 hw) hT (rIx (n := 100) (rAdd (e := 0) (f := 99) (rMulL (n := 10) (e := 0) (f := 90) h14 rfl) h27 rfl) rfl) fun z28 q29 h30 => ?_
    have h31 : (-99999999) ≤ z28 ∧ z28 ≤ 19 := (vc_X12_sends_3 h30)
    refine mr_ldc (pc := 31) (z := (-99999999)) dX12_picked_31 wG_X12_29 (by decide) ?_
    refine mr_icmp_ne (pc := 33) (tgt := 39) dX12_picked_33 (by decide) (r32 h31 rfl) (r32 (rR (x := (-99999999))) rfl) (fun h32 => ?_) (fun h32 => ?_)
    · have h33 : (-4) ≤ z28 ∧ z28 ≤ 19 := (vc_X12_sends_13 h32 h31 h30)
      refine sv_aload_n (pc := 39) dX12_picked_39 rfl rfl ?_
      refine mr_bipush (pc := 40) (z := 30) dX12_picked_40 (by decide) ?_
      refine mr_iload_n (pc := 42) (z := ((10 * p1) + p2)) dX12_picked_42 rfl rfl ?_
      refine mr_iadd (pc := 43) (x := 30) (y := ((10 * p1) + p2)) dX12_picked_43 ?_
      refine mr_iconst (pc := 44) (z := 0) dX12_picked_44 ?_
      obtain ⟨z34, q35⟩ : ∃ z, μ 126 ((40 * (30 + ((10 * p1) + p2))).toNat) = z := ⟨_, rfl⟩
      have h36 := rt7 hT (A_126 hw) (vc_X12_picked_W_12 h7.2.1 h7.2.2.1 h13 h22.2.1 h22.2.2.1 h26 h9 h24 h14 h27 h15 h18 h25 h12) q35
      have h37 : (-1) ≤ z34 ∧ z34 ≤ 9 := h36.2.1 (vc_X12_picked_W_13 h7.2.1 h7.2.2.1 h13 h22.2.1 h22.2.2.1 h26 h9 h24 h14 h27 h15 h18 h25 h12)
      refine mr_cVV (pc := 45) (c_X12_copy_W hw hT (rW (c := 0) (d := 2099) (rAdd (e := 30) (f := 129) (rR (x := 30)) (rAdd (e := 0) (f := 99) (rMulL (n := 10) (e := 0) (f := 90) h14 rfl) h27 rfl) rfl) rfl) (rW (c := 0) (d := 2099) (rR (x := 0)) rfl) q35 (vc_X12_picked_W_14 h7.2.1 h7.2.2.1 h13 h22.2.1 h22.2.2.1 h26 h9 h24 h14 h27 h15 h18 h25 h12) (((((h22.2.2.2.1 h22.1).1 h24) z28 q29 h30).1 h32) z34 q35 h36)) (gOk _ _ _ _ _) dX12_picked_45 (tX12_copy _ _ _ _ _) ⟨wV_X12_copy, wL_X12_copy⟩ wM_X12_559 (gCX12 _ _ _ _ _) rfl (A_106 hw) rfl ⟨le_t rfl, le_t rfl⟩ ⟨le_t rfl, le_t rfl⟩ rfl (le_t rfl) fun μ38 T39 F40 h41 => ?_
      obtain ⟨z42, q43, h44⟩ := h41
      have h45 := rt7 T39 (A_126 hw) vc_X12_picked_W_15 q43
      have h46 : (-1) ≤ z42 ∧ z42 ≤ 9 := h45.2.1 vc_X12_picked_W_16
      have q47 : μ38 126 (((40 * 0) : Int).toNat) = z34 := q43.trans h44.2.1
      refine sv_aload_n (pc := 48) dX12_picked_48 rfl rfl ?_
      refine mr_iconst (pc := 49) (z := 1) dX12_picked_49 ?_
      refine pf_X12_70 (pc := 50) dX12_picked_50 wF_X12_411 (A_106 hw) T39 (rW (c := 0) (d := 1) (rR (x := 1)) rfl) fun μ48 u49 T50 => ?_
      refine sv_aload_n (pc := 53) dX12_picked_53 rfl rfl ?_
      refine gf_X12_81 (pc := 54) dX12_picked_54 wF_X12_445 (A_106 hw) T50 ?_
      refine mr_iload_n (pc := 57) (z := ((10 * p1) + p2)) dX12_picked_57 rfl rfl ?_
      refine lk_161 (pc := 58) dX12_picked_58 (A_161 hw) (rIx (n := 100) (rAdd (e := 0) (f := 99) (rMulL (n := 10) (e := 0) (f := 90) h14 rfl) h27 rfl) rfl) (u49.f (Or.inl (mAt.ne (A_106 hw) (A_161 hw) rfl)) (F40.f (A_161 hw) rfl q29)) ?_
      exact mr_iret dX12_picked_59 rfl (le_t rfl) (le_t rfl) T50 (mF.up (mF.call mF.refl F40 rfl) (A_106 hw) u49 rfl) ⟨(rW (c := (-2147483648)) (d := 2147483647) h33 rfl), (((h44.2.2.1 T39 F40) z42 q43) μ48 u49 T50), trivial⟩
    have h51 : (-99999999) ≤ z28 ∧ z28 ≤ (-99999999) := (vc_X12_sends_10 h32 h31 h30)
    refine mr_ldc (pc := 36) (z := (-99999999)) dX12_picked_36 wG_X12_29 (by decide) ?_
    exact mr_iret dX12_picked_38 rfl (le_t rfl) (le_t rfl) hT mF.refl ⟨(rW (c := (-2147483648)) (d := 2147483647) (rR (x := (-99999999))) rfl), ((((h22.2.2.2.1 h22.1).1 h24) z28 q29 h30).2 h32), trivial⟩
  have h52 : 0 ≤ z23 ∧ z23 ≤ 0 := (vc_X12_write_78 h24 h22.2.1 h22.2.2.1 hp2 h18 h22.1)
  have h53 : p2 < 0 ∨ z16 ≤ p2 := (h22.2.2.1 (vc_X12_write_79 h22.2.1 h22.2.2.1 h24 hp2 h18 h52))
  refine mr_iconst (pc := 16) (z := (-1)) dX12_picked_16 ?_
  exact mr_iret dX12_picked_17 rfl (le_t rfl) (le_t rfl) hT mF.refl ⟨(rW (c := (-2147483648)) (d := 2147483647) (rR (x := (-1))) rfl), ((h22.2.2.2.1 h22.1).2 h24), trivial⟩
def WP_X11_isTie_W (w : mW) (μ : mM) (p1 : Int) (Q : Int → mM → Prop) : Prop := ∀ f_n : Int, μ 6 16 = f_n → (f_n = w.2.2.2 1 ∧ 0 ≤ f_n ∧ f_n ≤ 20) → ((p1 < 0) → Q (0 : Int) μ) ∧ ((0 ≤ p1) → ((f_n ≤ p1) → Q (0 : Int) μ) ∧ ((p1 < f_n) → Q (1 : Int) μ))
set_option maxRecDepth 4000 in
set_option maxHeartbeats 4000000 in
theorem c_X11_isTie_W {l : Launch} {D : va_G} {c : Nat → ClassId} {H0 : Heap} {sa : Nat × Nat × (Nat → Int32)} {w : mW} {μ : mM} (hw : mWF w) (hT : mT w μ) {p1 : Int} (hp1 : (-2147483648) ≤ p1 ∧ p1 ≤ 2147483647) {f_n : Int} (q_f_n : μ 6 16 = f_n) {Q : Int → mM → Prop} (hQ : WP_X11_isTie_W w μ p1 Q) : sC (gG l D c H0 sa) mX11_isTie 1 0 0 [.ref 0, iv p1] (mk w μ) (qP w μ (fun z => (0 ≤ z ∧ z ≤ 1) ∧ (z = 1 → 0 ≤ p1 ∧ p1 < f_n) ∧ (z = 0 → p1 < 0 ∨ f_n ≤ p1) ∧ Q z μ ∧ True)) := by
  refine sC.of rfl (by decide) (le_t rfl) ?_
  have ht_f_n : (f_n = w.2.2.2 1 ∧ 0 ≤ f_n ∧ f_n ≤ 20) := by rw [← q_f_n]; exact hT 6 6 (A_6 hw) 16
  refine mr_lvE (lv' := [(0, .ref 0), (1, iv p1)]) rfl ?_
  refine mr_iload_n (pc := 0) (z := p1) dX11_isTie_0 rfl rfl ?_
  refine mr_if_lt (pc := 1) (tgt := 19) dX11_isTie_1 (by decide) hp1 (fun h17 => ?_) (fun h17 => ?_)
  · have h18 : (-2147483648) ≤ p1 ∧ p1 ≤ (-1) := (vc_X12_ring_60 h17 hp1)
    refine mr_iconst (pc := 19) (z := 0) dX11_isTie_19 ?_
    exact mr_zretP dX11_isTie_20 rfl (rW (c := 0) (d := 1) (rR (x := 0)) rfl) (le_t rfl) (le_t rfl) ⟨(rW (c := 0) (d := 1) (rR (x := 0)) rfl), (vc_X11_isTie_2 ht_f_n.1 h17 ht_f_n.2 h18), (vc_X11_isTie_3 ht_f_n.1 h17 ht_f_n.2 h18), ((hQ f_n q_f_n ht_f_n).1 h17), trivial⟩
  have h19 : 0 ≤ p1 ∧ p1 ≤ 2147483647 := (vc_X12_ring_1 h17 hp1)
  refine mr_iload_n (pc := 4) (z := p1) dX11_isTie_4 rfl rfl ?_
  refine sv_aload_n (pc := 5) dX11_isTie_5 rfl rfl ?_
  refine gf_X11_3 (pc := 6) dX11_isTie_6 wF_X11_26 (A_0 hw) hT ?_
  refine gk_X10_16 (pc := 9) dX11_isTie_9 wF_X11_112 (A_6 hw) q_f_n ?_
  refine mr_icmp_ge (pc := 12) (tgt := 19) dX11_isTie_12 (by decide) (r32 h19 rfl) (r32 ht_f_n.2 rfl) (fun h22 => ?_) (fun h22 => ?_)
  · refine mr_iconst (pc := 19) (z := 0) dX11_isTie_19 ?_
    exact mr_zretP dX11_isTie_20 rfl (rW (c := 0) (d := 1) (rR (x := 0)) rfl) (le_t rfl) (le_t rfl) ⟨(rW (c := 0) (d := 1) (rR (x := 0)) rfl), (vc_X11_isTie_5 ht_f_n.1 h17 h22 ht_f_n.2 h19), (vc_X11_isTie_6 ht_f_n.1 h17 h22 ht_f_n.2 h19), (((hQ f_n q_f_n ht_f_n).2 h17).1 h22), trivial⟩
  have h23 : 0 ≤ p1 ∧ p1 ≤ 19 := (vc_X11_isTie_7 h22 ht_f_n.1 h17 ht_f_n.2 h19)
  have h24 : 1 ≤ f_n ∧ f_n ≤ 20 := (vc_X11_isTie_8 h22 ht_f_n.1 h17 ht_f_n.2 h23)
  refine mr_iconst (pc := 15) (z := 1) dX11_isTie_15 ?_
  refine sv_goto (pc := 16) (tgt := 20) dX11_isTie_16 (by decide) ?_
  exact mr_zretP dX11_isTie_20 rfl (rW (c := 0) (d := 1) (rR (x := 1)) rfl) (le_t rfl) (le_t rfl) ⟨(rW (c := 0) (d := 1) (rR (x := 1)) rfl), (vc_X11_isTie_9 ht_f_n.1 h17 h22 h24 h23), (vc_X11_isTie_10 ht_f_n.1 h17 h22 h24 h23), (((hQ f_n q_f_n ht_f_n).2 h17).2 h22), trivial⟩
def WP_X11_isEither_W (w : mW) (μ : mM) (p1 : Int) (Q : Int → mM → Prop) : Prop := ((p1 = 0) → Q (1 : Int) μ) ∧ ((¬ p1 = 0) → ((¬ p1 = 1) → Q (0 : Int) μ) ∧ ((p1 = 1) → Q (1 : Int) μ))
set_option maxRecDepth 4000 in
set_option maxHeartbeats 4000000 in
theorem c_X11_isEither_W {l : Launch} {D : va_G} {c : Nat → ClassId} {H0 : Heap} {sa : Nat × Nat × (Nat → Int32)} {w : mW} {μ : mM} (hw : mWF w) (hT : mT w μ) {p1 : Int} (hp1 : (-2147483648) ≤ p1 ∧ p1 ≤ 2147483647) {Q : Int → mM → Prop} (hQ : WP_X11_isEither_W w μ p1 Q) : sC (gG l D c H0 sa) mX11_isEither 1 0 0 [iv p1] (mk w μ) (qP w μ (fun z => (0 ≤ z ∧ z ≤ 1) ∧ (z = 1 → 0 ≤ p1 ∧ p1 ≤ 1) ∧ (z = 0 → p1 < 0 ∨ 1 < p1) ∧ Q z μ ∧ True)) := by
  refine sC.of rfl (by decide) (le_t rfl) ?_
  refine mr_lvE (lv' := [(0, iv p1)]) rfl ?_
  refine mr_iload_n (pc := 0) (z := p1) dX11_isEither_0 rfl rfl ?_
  refine mr_if_eq (pc := 1) (tgt := 9) dX11_isEither_1 (by decide) hp1 (fun h3 => ?_) (fun h3 => ?_)
  · have h4 : 0 ≤ p1 ∧ p1 ≤ 0 := (vc_X12_mask_1 h3 hp1)
    refine mr_iconst (pc := 9) (z := 1) dX11_isEither_9 ?_
    refine sv_goto (pc := 10) (tgt := 14) dX11_isEither_10 (by decide) ?_
    exact mr_zretP dX11_isEither_14 rfl (rW (c := 0) (d := 1) (rR (x := 1)) rfl) (le_t rfl) (le_t rfl) ⟨(rW (c := 0) (d := 1) (rR (x := 1)) rfl), (vc_X11_isEither_2 h3 h4), (vc_X11_isEither_3 h3 h4), (hQ.1 h3), trivial⟩
  refine mr_iload_n (pc := 4) (z := p1) dX11_isEither_4 rfl rfl ?_
  refine mr_iconst (pc := 5) (z := 1) dX11_isEither_5 ?_
  refine mr_icmp_ne (pc := 6) (tgt := 13) dX11_isEither_6 (by decide) hp1 (r32 (rR (x := 1)) rfl) (fun h6 => ?_) (fun h6 => ?_)
  · refine mr_iconst (pc := 13) (z := 0) dX11_isEither_13 ?_
    exact mr_zretP dX11_isEither_14 rfl (rW (c := 0) (d := 1) (rR (x := 0)) rfl) (le_t rfl) (le_t rfl) ⟨(rW (c := 0) (d := 1) (rR (x := 0)) rfl), (vc_X11_isEither_4 h3 h6 hp1), (vc_X11_isEither_5 h3 h6 hp1), ((hQ.2 h3).1 h6), trivial⟩
  have h7 : 1 ≤ p1 ∧ p1 ≤ 1 := (vc_X12_count_4 h6 h3 hp1)
  refine mr_iconst (pc := 9) (z := 1) dX11_isEither_9 ?_
  refine sv_goto (pc := 10) (tgt := 14) dX11_isEither_10 (by decide) ?_
  exact mr_zretP dX11_isEither_14 rfl (rW (c := 0) (d := 1) (rR (x := 1)) rfl) (le_t rfl) (le_t rfl) ⟨(rW (c := 0) (d := 1) (rR (x := 1)) rfl), (vc_X11_isEither_7 h3 h6 h7), (vc_X11_isEither_8 h3 h6 h7), ((hQ.2 h3).2 h6), trivial⟩
def WJ_X11_heard_W_1 (w : mW) (μ : mM) (Q : Int → mM → Prop) (b72 : Nat) : Prop := mAt w b72 200 → ∀ z76 : Int, μ b72 2 = z76 → (0 ≤ z76 ∧ z76 ≤ 1) → ((¬ z76 = 0) → WP_X7_become_W w μ 3 b72 (fun μ81 => mT w μ81 → mF [200002, 200003, 200004, 200005, 200006, 200007, 200008, 201999, 202999] w μ μ81 → ∀ z85 : Int, μ81 b72 9 = z85 → ((-1) ≤ z85 ∧ z85 ≤ 2000000000) → Q z85 μ81)) ∧ ((z76 = 0) → Q ((-99999999) : Int) μ)
def WP_X11_heard_W (w : mW) (μ : mM) (p1 : Int) (p2 : Int) (p3 : Int) (p4 : Int) (Q : Int → mM → Prop) : Prop := ∀ z1 : Int, μ 6 16 = z1 → (z1 = w.2.2.2 1 ∧ 0 ≤ z1 ∧ z1 ≤ 20) → WP_X11_isTie_W w μ p1 (fun z8 _ => (0 ≤ z8 ∧ z8 ≤ 1) → ((z8 = 0) → Q ((-1) : Int) μ) ∧ ((¬ z8 = 0) → WP_X11_isEither_W w μ p2 (fun z20 _ => (0 ≤ z20 ∧ z20 ≤ 1) → ((z20 = 0) → Q ((-1) : Int) μ) ∧ ((¬ z20 = 0) → ∀ z27 : Int, μ 6 14 = z27 → (0 ≤ z27 ∧ z27 ≤ 10) → WP_X11_isPrefix_W w μ p3 (fun z34 _ => (0 ≤ z34 ∧ z34 ≤ 1) → ((z34 = 0) → Q ((-1) : Int) μ) ∧ ((¬ z34 = 0) → WP_X11_isEither_W w μ p4 (fun z46 _ => (0 ≤ z46 ∧ z46 ≤ 1) → ((¬ z46 = 0) → WP_X9_placeOf_W w μ p2 p3 (fun z55 _ => (0 ≤ z55 ∧ z55 ≤ 19) → ((¬ p4 = 0) → ∀ b91 : Nat, μ 11 (p1.toNat) = (b91 : Int) → mAt w b91 220 → ∀ b95 : Nat, μ (b91 + 3) (z55.toNat) = (b95 : Int) → mAt w b95 200 → (WJ_X11_heard_W_1 w μ Q) b95) ∧ ((p4 = 0) → ∀ b99 : Nat, μ 11 (p1.toNat) = (b99 : Int) → mAt w b99 220 → ∀ b103 : Nat, μ (b99 + 2) (z55.toNat) = (b103 : Int) → mAt w b103 200 → (WJ_X11_heard_W_1 w μ Q) b103))) ∧ ((z46 = 0) → Q ((-1) : Int) μ))))))))
theorem vc_X11_heard_W_23 {p4 z46 : Int} (h0 : ¬ p4 = 0) (h1 : (z46 = 1 → 0 ≤ p4 ∧ p4 ≤ 1)) (h2 : (z46 = 0 → p4 < 0 ∨ 1 < p4)) (h3 : 0 ≤ p4 ∧ p4 ≤ 1) (h4 : 1 ≤ z46 ∧ z46 ≤ 1) : 1 ≤ p4 ∧ p4 ≤ 1 := by omega
theorem vc_X11_heard_W_25 {p4 z46 : Int} (h0 : p4 = 0) (h1 : (z46 = 1 → 0 ≤ p4 ∧ p4 ≤ 1)) (h2 : (z46 = 0 → p4 < 0 ∨ 1 < p4)) (h3 : 0 ≤ p4 ∧ p4 ≤ 1) (h4 : 1 ≤ z46 ∧ z46 ≤ 1) : 0 ≤ p4 ∧ p4 ≤ 0 := by omega
set_option maxRecDepth 4000 in
set_option maxHeartbeats 4000000 in
theorem c_X11_heard_W {l : Launch} {D : va_G} {c : Nat → ClassId} {H0 : Heap} {sa : Nat × Nat × (Nat → Int32)} {w : mW} {μ : mM} (hw : mWF w) (hT : mT w μ) {p1 : Int} (hp1 : (-2147483648) ≤ p1 ∧ p1 ≤ 2147483647) {p2 : Int} (hp2 : (-2147483648) ≤ p2 ∧ p2 ≤ 2147483647) {p3 : Int} (hp3 : (-2147483648) ≤ p3 ∧ p3 ≤ 2147483647) {p4 : Int} (hp4 : (-2147483648) ≤ p4 ∧ p4 ≤ 2147483647) {Q : Int → mM → Prop} (hQ : WP_X11_heard_W w μ p1 p2 p3 p4 Q) : sC (gG l D c H0 sa) mX11_heard 4 0 0 [.ref 0, iv p1, iv p2, iv p3, iv p4] (mk w μ) (qI w [200002, 200003, 200004, 200005, 200006, 200007, 200008, 201999, 202999] μ (fun z μ1 => ((-2147483648) ≤ z ∧ z ≤ 2147483647) ∧ Q z μ1 ∧ True)) := by
  refine sC.of rfl (by decide) (le_t rfl) ?_
  refine mr_lvE (lv' := [(0, .ref 0), (1, iv p1), (2, iv p2), (3, iv p3), (4, iv p4)]) rfl ?_
  refine sv_aload_n (pc := 0) dX11_heard_0 rfl rfl ?_
  refine mr_iload_n (pc := 1) (z := p1) dX11_heard_1 rfl rfl ?_
  obtain ⟨z1, q2⟩ : ∃ z, μ 6 16 = z := ⟨_, rfl⟩
  have h3 : (z1 = w.2.2.2 1 ∧ 0 ≤ z1 ∧ z1 ≤ 20) := by rw [← q2]; exact hT 6 6 (A_6 hw) 16
  refine mr_cVP (pc := 2) (c_X11_isTie_W hw hT hp1 q2 (hQ z1 q2 h3)) (gOk _ _ _ _ _) dX11_heard_2 (tX11_isTie _ _ _ _ _) ⟨wV_X11_isTie, wL_X11_isTie⟩ wM_X11_119 (gCX11 _ _ _ _ _) rfl (A_0 hw) rfl ⟨le_t rfl, le_t rfl⟩ ⟨le_t rfl, le_t rfl⟩ rfl (le_t rfl) fun z8 h7 => ?_
  refine mr_if_eq (pc := 5) (tgt := 31) dX11_heard_5 (by decide) (r32 h7.1 rfl) (fun h9 => ?_) (fun h9 => ?_)
  · have h10 : 0 ≤ z8 ∧ z8 ≤ 0 := (vc_X12_write_1 h9 h7.2.1 h7.2.2.1 hp1 h3.2 h7.1)
    have h11 : p1 < 0 ∨ z1 ≤ p1 := (h7.2.2.1 (vc_X11_write_2 h7.2.1 h7.2.2.1 h9 h3.1 hp1 h3.2 h10))
    refine mr_iconst (pc := 31) (z := (-1)) dX11_heard_31 ?_
    exact mr_iret dX11_heard_32 rfl (le_t rfl) (le_t rfl) hT mF.refl ⟨(rW (c := (-2147483648)) (d := 2147483647) (rR (x := (-1))) rfl), ((h7.2.2.2.1 h7.1).1 h9), trivial⟩
  have h12 : 1 ≤ z8 ∧ z8 ≤ 1 := (vc_X12_write_3 h9 h7.2.1 h7.2.2.1 hp1 h3.2 h7.1)
  have h13 : 0 ≤ p1 ∧ p1 < z1 := (h7.2.1 (vc_X11_write_4 h7.2.1 h7.2.2.1 h9 h3.1 hp1 h3.2 h12))
  have h14 : 0 ≤ p1 ∧ p1 ≤ 19 := (vc_X11_write_5 h13 h3.1 h7.2.1 h7.2.2.1 hp1 h3.2 h12)
  have h15 : 1 ≤ z1 ∧ z1 ≤ 20 := (vc_X11_write_6 h13 h3.1 h7.2.1 h7.2.2.1 h14 h3.2 h12)
  refine mr_iload_n (pc := 8) (z := p2) dX11_heard_8 rfl rfl ?_
  refine mr_cSP (pc := 9) (c_X11_isEither_W hw hT hp2 ((h7.2.2.2.1 h7.1).2 h9)) (gOk _ _ _ _ _) dX11_heard_9 (tX11_isEither _ _ _ _ _) wS_X11_isEither wM_X11_271 ⟨le_t rfl, le_t rfl⟩ ⟨le_t rfl, le_t rfl⟩ rfl (le_t rfl) fun z20 h19 => ?_
  refine mr_if_eq (pc := 12) (tgt := 31) dX11_heard_12 (by decide) (r32 h19.1 rfl) (fun h21 => ?_) (fun h21 => ?_)
  · have h22 : 0 ≤ z20 ∧ z20 ≤ 0 := (vc_X11_write_7 h21 h19.2.1 h19.2.2.1 hp2 h19.1)
    have h23 : p2 < 0 ∨ 1 < p2 := (h19.2.2.1 (vc_X11_write_8 h19.2.1 h19.2.2.1 h21 hp2 h22))
    refine mr_iconst (pc := 31) (z := (-1)) dX11_heard_31 ?_
    exact mr_iret dX11_heard_32 rfl (le_t rfl) (le_t rfl) hT mF.refl ⟨(rW (c := (-2147483648)) (d := 2147483647) (rR (x := (-1))) rfl), ((h19.2.2.2.1 h19.1).1 h21), trivial⟩
  have h24 : 1 ≤ z20 ∧ z20 ≤ 1 := (vc_X11_write_9 h21 h19.2.1 h19.2.2.1 hp2 h19.1)
  have h25 : 0 ≤ p2 ∧ p2 ≤ 1 := (h19.2.1 (vc_X11_write_10 h19.2.1 h19.2.2.1 h21 hp2 h24))
  have h26 : 0 ≤ p2 ∧ p2 ≤ 1 := (vc_X11_write_11 h25 h19.2.1 h19.2.2.1 hp2 h24)
  refine sv_aload_n (pc := 15) dX11_heard_15 rfl rfl ?_
  refine mr_iload_n (pc := 16) (z := p3) dX11_heard_16 rfl rfl ?_
  obtain ⟨z27, q28⟩ : ∃ z, μ 6 14 = z := ⟨_, rfl⟩
  have h29 : (0 ≤ z27 ∧ z27 ≤ 10) := by rw [← q28]; exact hT 6 6 (A_6 hw) 14
  refine mr_cVP (pc := 17) (c_X11_isPrefix_W hw hT hp3 q28 (((h19.2.2.2.1 h19.1).2 h21) z27 q28 h29)) (gOk _ _ _ _ _) dX11_heard_17 (tX11_isPrefix _ _ _ _ _) ⟨wV_X11_isPrefix, wL_X11_isPrefix⟩ wM_X11_182 (gCX11 _ _ _ _ _) rfl (A_0 hw) rfl ⟨le_t rfl, le_t rfl⟩ ⟨le_t rfl, le_t rfl⟩ rfl (le_t rfl) fun z34 h33 => ?_
  refine mr_if_eq (pc := 20) (tgt := 31) dX11_heard_20 (by decide) (r32 h33.1 rfl) (fun h35 => ?_) (fun h35 => ?_)
  · have h36 : 0 ≤ z34 ∧ z34 ≤ 0 := (vc_X12_write_78 h35 h33.2.1 h33.2.2.1 hp3 h29 h33.1)
    have h37 : p3 < 0 ∨ z27 ≤ p3 := (h33.2.2.1 (vc_X12_write_79 h33.2.1 h33.2.2.1 h35 hp3 h29 h36))
    refine mr_iconst (pc := 31) (z := (-1)) dX11_heard_31 ?_
    exact mr_iret dX11_heard_32 rfl (le_t rfl) (le_t rfl) hT mF.refl ⟨(rW (c := (-2147483648)) (d := 2147483647) (rR (x := (-1))) rfl), ((h33.2.2.2.1 h33.1).1 h35), trivial⟩
  have h38 : 1 ≤ z34 ∧ z34 ≤ 1 := (vc_X12_write_12 h35 h33.2.1 h33.2.2.1 hp3 h29 h33.1)
  have h39 : 0 ≤ p3 ∧ p3 < z27 := (h33.2.1 (vc_X12_write_13 h33.2.1 h33.2.2.1 h35 hp3 h29 h38))
  have h40 : 0 ≤ p3 ∧ p3 ≤ 9 := (vc_X12_write_14 h39 h33.2.1 h33.2.2.1 hp3 h29 h38)
  have h41 : 1 ≤ z27 ∧ z27 ≤ 10 := (vc_X12_write_15 h39 h33.2.1 h33.2.2.1 h40 h29 h38)
  refine mr_iload (pc := 23) (z := p4) dX11_heard_23 rfl ?_
  refine mr_cSP (pc := 25) (c_X11_isEither_W hw hT hp4 ((h33.2.2.2.1 h33.1).2 h35)) (gOk _ _ _ _ _) dX11_heard_25 (tX11_isEither _ _ _ _ _) wS_X11_isEither wM_X11_271 ⟨le_t rfl, le_t rfl⟩ ⟨le_t rfl, le_t rfl⟩ rfl (le_t rfl) fun z46 h45 => ?_
  refine mr_if_ne (pc := 28) (tgt := 33) dX11_heard_28 (by decide) (r32 h45.1 rfl) (fun h47 => ?_) (fun h47 => ?_)
  · have h48 : 1 ≤ z46 ∧ z46 ≤ 1 := (vc_X11_write_9 h47 h45.2.1 h45.2.2.1 hp4 h45.1)
    have h49 : 0 ≤ p4 ∧ p4 ≤ 1 := (h45.2.1 (vc_X11_write_10 h45.2.1 h45.2.2.1 h47 hp4 h48))
    have h50 : 0 ≤ p4 ∧ p4 ≤ 1 := (vc_X11_write_11 h49 h45.2.1 h45.2.2.1 hp4 h48)
    refine mr_iload_n (pc := 33) (z := p2) dX11_heard_33 rfl rfl ?_
    refine mr_iload_n (pc := 34) (z := p3) dX11_heard_34 rfl rfl ?_
    refine mr_cSP (pc := 35) (c_X9_placeOf_W hw hT h26 h40 ((h45.2.2.2.1 h45.1).1 h47)) (gOk _ _ _ _ _) dX11_heard_35 (tX9_placeOf _ _ _ _ _) wS_X9_placeOf wM_X11_321 ⟨le_t rfl, le_t rfl⟩ ⟨le_t rfl, le_t rfl⟩ rfl (le_t rfl) fun z55 h54 => ?_
    refine mr_istore (pc := 38) (lv' := [(5, iv z55), (0, .ref 0), (1, iv p1), (2, iv p2), (3, iv p3), (4, iv p4)]) dX11_heard_38 (by decide) rfl ?_
    refine mr_iload (pc := 40) (z := p4) dX11_heard_40 rfl ?_
    have J74 : ∀ (b72 : Nat), (mAt w b72 200) → ((WJ_X11_heard_W_1 w μ Q) b72) → sV (gG l D c H0 sa) mX11_heard (sRm 4 0 0) (sZ (gG l D c H0 sa) 0 0 (qI w [200002, 200003, 200004, 200005, 200006, 200007, 200008, 201999, 202999] μ (fun z μ1 => ((-2147483648) ≤ z ∧ z ≤ 2147483647) ∧ Q z μ1 ∧ True))) 78 [(0, .ref 0)] [.ref b72] (mk w μ) 0 0 := by
      intro b72 A73 W75
      refine mr_astore (pc := 78) (lv' := [(6, .ref b72), (0, .ref 0)]) dX11_heard_78 (by decide) rfl ?_
      refine sv_aload (pc := 80) dX11_heard_80 rfl ?_
      refine gf_X7_2 (pc := 82) dX11_heard_82 wF_X11_246 A73 hT fun z76 q77 h78 => ?_
      refine mr_if_ne (pc := 85) (tgt := 91) dX11_heard_85 (by decide) (r32 h78 rfl) (fun h79 => ?_) (fun h79 => ?_)
      · have h80 : 1 ≤ z76 ∧ z76 ≤ 1 := (vc_X12_ring_24 h79 h78)
        refine sv_aload_n (pc := 91) dX11_heard_91 rfl rfl ?_
        refine gf_X11_2 (pc := 92) dX11_heard_92 wF_X11_19 (A_0 hw) hT ?_
        refine sv_aload (pc := 95) dX11_heard_95 rfl ?_
        refine mr_cVV (pc := 97) (c_X7_become_W hw hT (A_3 hw) A73 (((W75 A73) z76 q77 h78).1 h79)) (gOk _ _ _ _ _) dX11_heard_97 (tX7_become _ _ _ _ _) ⟨wV_X7_become, wL_X7_become⟩ wM_X11_317 (gCX7 _ _ _ _ _) rfl (A_3 hw) rfl ⟨le_t rfl, le_t rfl⟩ ⟨le_t rfl, le_t rfl⟩ rfl (le_t rfl) fun μ81 T82 F83 h84 => ?_
        refine sv_aload (pc := 100) dX11_heard_100 rfl ?_
        refine gf_X7_9 (pc := 102) dX11_heard_102 wF_X11_330 A73 T82 fun z85 q86 h87 => ?_
        exact mr_iret dX11_heard_105 rfl (le_t rfl) (le_t rfl) T82 (mF.call mF.refl F83 rfl) ⟨(rW (c := (-2147483648)) (d := 2147483647) h87 rfl), ((h84.1 T82 F83) z85 q86 h87), trivial⟩
      have h88 : 0 ≤ z76 ∧ z76 ≤ 0 := (vc_X12_ring_22 h79 h78)
      refine mr_ldc (pc := 88) (z := (-99999999)) dX11_heard_88 wG_X11_165 (by decide) ?_
      exact mr_iret dX11_heard_90 rfl (le_t rfl) (le_t rfl) hT mF.refl ⟨(rW (c := (-2147483648)) (d := 2147483647) (rR (x := (-99999999))) rfl), (((W75 A73) z76 q77 h78).2 h79), trivial⟩
    refine mr_if_ne (pc := 42) (tgt := 63) dX11_heard_42 (by decide) (r32 h50 rfl) (fun h89 => ?_) (fun h89 => ?_)
    · have h90 : 1 ≤ p4 ∧ p4 ≤ 1 := (vc_X11_heard_W_23 h89 h45.2.1 h45.2.2.1 h49 h48)
      refine sv_aload_n (pc := 63) dX11_heard_63 rfl rfl ?_
      refine gf_X11_3 (pc := 64) dX11_heard_64 wF_X11_26 (A_0 hw) hT ?_
      refine gf_X10_4 (pc := 67) dX11_heard_67 wF_X11_122 (A_6 hw) hT ?_
      refine mr_iload_n (pc := 70) (z := p1) dX11_heard_70 rfl rfl ?_
      refine la_11 (pc := 71) dX11_heard_71 (A_11 hw) hT (rIx (n := 20) h14 rfl) (vc_X11_write_16 h3.1 h7.2.1 h7.2.2.1 h13 h9 h14 h15 h12) fun b91 q92 A93 => ?_
      refine gf_X9_5 (pc := 72) dX11_heard_72 wF_X11_327 A93 hT fun A94 => ?_
      refine mr_iload (pc := 75) (z := z55) dX11_heard_75 rfl ?_
      refine la_223 (pc := 77) dX11_heard_77 A94 hT (rIx (n := 20) h54.1 rfl) fun b95 q96 A97 => ?_
      refine mr_lvS (lv' := [(0, .ref 0)]) (List.forall_mem_cons.mpr ⟨rfl, fun _ h => absurd h List.not_mem_nil⟩) ?_
      exact J74 b95 A97 ((((h54.2.1 h54.1).1 h89) b91 q92 A93) b95 q96 A97)
    have h98 : 0 ≤ p4 ∧ p4 ≤ 0 := (vc_X11_heard_W_25 h89 h45.2.1 h45.2.2.1 h49 h48)
    refine sv_aload_n (pc := 45) dX11_heard_45 rfl rfl ?_
    refine gf_X11_3 (pc := 46) dX11_heard_46 wF_X11_26 (A_0 hw) hT ?_
    refine gf_X10_4 (pc := 49) dX11_heard_49 wF_X11_122 (A_6 hw) hT ?_
    refine mr_iload_n (pc := 52) (z := p1) dX11_heard_52 rfl rfl ?_
    refine la_11 (pc := 53) dX11_heard_53 (A_11 hw) hT (rIx (n := 20) h14 rfl) (vc_X11_write_16 h3.1 h7.2.1 h7.2.2.1 h13 h9 h14 h15 h12) fun b99 q100 A101 => ?_
    refine gf_X9_4 (pc := 54) dX11_heard_54 wF_X11_324 A101 hT fun A102 => ?_
    refine mr_iload (pc := 57) (z := z55) dX11_heard_57 rfl ?_
    refine la_222 (pc := 59) dX11_heard_59 A102 hT (rIx (n := 20) h54.1 rfl) fun b103 q104 A105 => ?_
    refine sv_goto (pc := 60) (tgt := 78) dX11_heard_60 (by decide) ?_
    refine mr_lvS (lv' := [(0, .ref 0)]) (List.forall_mem_cons.mpr ⟨rfl, fun _ h => absurd h List.not_mem_nil⟩) ?_
    exact J74 b103 A105 ((((h54.2.1 h54.1).2 h89) b99 q100 A101) b103 q104 A105)
  have h106 : 0 ≤ z46 ∧ z46 ≤ 0 := (vc_X11_write_7 h47 h45.2.1 h45.2.2.1 hp4 h45.1)
  have h107 : p4 < 0 ∨ 1 < p4 := (h45.2.2.1 (vc_X11_write_8 h45.2.1 h45.2.2.1 h47 hp4 h106))
  refine mr_iconst (pc := 31) (z := (-1)) dX11_heard_31 ?_
  exact mr_iret dX11_heard_32 rfl (le_t rfl) (le_t rfl) hT mF.refl ⟨(rW (c := (-2147483648)) (d := 2147483647) (rR (x := (-1))) rfl), ((h45.2.2.2.1 h45.1).2 h47), trivial⟩
def WP_X12_isTie_W (w : mW) (μ : mM) (p1 : Int) (Q : Int → mM → Prop) : Prop := ∀ f_ties : Int, μ 106 6 = f_ties → (0 ≤ f_ties ∧ f_ties ≤ 20) → WP_X12_in_W w μ p1 (0) (f_ties - 1) (fun z20 _ => (0 ≤ z20 ∧ z20 ≤ 1) → Q z20 μ)
set_option maxRecDepth 4000 in
set_option maxHeartbeats 4000000 in
theorem c_X12_isTie_W {l : Launch} {D : va_G} {c : Nat → ClassId} {H0 : Heap} {sa : Nat × Nat × (Nat → Int32)} {w : mW} {μ : mM} (hw : mWF w) (hT : mT w μ) {p1 : Int} (hp1 : (-2147483648) ≤ p1 ∧ p1 ≤ 2147483647) {f_ties : Int} (q_f_ties : μ 106 6 = f_ties) {Q : Int → mM → Prop} (hQ : WP_X12_isTie_W w μ p1 Q) : sC (gG l D c H0 sa) mX12_isTie 2 0 0 [.ref 106, iv p1] (mk w μ) (qP w μ (fun z => (0 ≤ z ∧ z ≤ 1) ∧ (z = 1 → 0 ≤ p1 ∧ p1 < f_ties) ∧ (z = 0 → p1 < 0 ∨ f_ties ≤ p1) ∧ Q z μ ∧ True)) := by
  refine sC.of rfl (by decide) (le_t rfl) ?_
  have ht_f_ties : (0 ≤ f_ties ∧ f_ties ≤ 20) := by rw [← q_f_ties]; exact hT 106 106 (A_106 hw) 6
  refine mr_lvE (lv' := [(0, .ref 106), (1, iv p1)]) rfl ?_
  refine mr_iload_n (pc := 0) (z := p1) dX12_isTie_0 rfl rfl ?_
  refine mr_iconst (pc := 1) (z := 0) dX12_isTie_1 ?_
  refine sv_aload_n (pc := 2) dX12_isTie_2 rfl rfl ?_
  refine gk_X12_6 (pc := 3) dX12_isTie_3 wF_X12_37 (A_106 hw) q_f_ties ?_
  refine mr_iconst (pc := 6) (z := 1) dX12_isTie_6 ?_
  refine mr_isub (pc := 7) (x := f_ties) (y := 1) dX12_isTie_7 ?_
  refine mr_cSP (pc := 8) (c_X12_in_W hw hT hp1 (rW (c := (-2147483648)) (d := 2147483647) (rR (x := 0)) rfl) (rW (c := (-2147483648)) (d := 2147483647) (rSub (e := (-1)) (f := 19) ht_f_ties (rR (x := 1)) rfl) rfl) (hQ f_ties q_f_ties ht_f_ties)) (gOk _ _ _ _ _) dX12_isTie_8 (tX12_in _ _ _ _ _) wS_X12_in wM_X12_18 ⟨le_t rfl, le_t rfl⟩ ⟨le_t rfl, le_t rfl⟩ rfl (le_t rfl) fun z20 h19 => ?_
  exact mr_zretP dX12_isTie_11 rfl h19.1 (le_t rfl) (le_t rfl) ⟨h19.1, (vc_X12_isTie_1 h19.2.1 h19.2.2.1 ht_f_ties hp1 h19.1), (vc_X12_isTie_2 h19.2.1 h19.2.2.1 ht_f_ties hp1 h19.1), (h19.2.2.2.1 h19.1), trivial⟩
def WJ_X12_heard_W_1 (w : mW) (μ : mM) (p4 : Int) (Q : Int → mM → Prop) (z55 : Int) (z59 : Int) : Prop := (130 ≤ z59 ∧ z59 ≤ 530) → ∀ z63 : Int, μ 126 ((40 * (z59 + z55)).toNat) = z63 → ((-2147483648 ≤ z63 ∧ z63 ≤ 2147483647) ∧ ((40 * (z59 + z55)) % 40 = 0 → -1 ≤ z63 ∧ z63 ≤ 9) ∧ ((40 * (z59 + z55)) % 40 = 4 → 0 ≤ z63 ∧ z63 ≤ 20) ∧ ((40 * (z59 + z55)) % 40 = 5 → 0 ≤ z63 ∧ z63 ≤ 8)) → WP_X12_isThere_W w μ (z59 + z55) (fun z71 _ => (0 ≤ z71 ∧ z71 ≤ 1) → ((¬ z71 = 0) → WP_X12_copy_W w μ (z59 + z55) (0) (fun μ76 => mT w μ76 → mF [126999] w μ μ76 → ∀ z80 : Int, μ76 126 (((40 * 0) : Int).toNat) = z80 → ∀ μ87 : mM, mU μ76 106 (70) (1 : Int) μ87 → mT w μ87 → ((¬ p4 = 0) → ∀ z100 : Int, μ87 156 (z55.toNat) = z100 → (0 ≤ z100 ∧ z100 ≤ 2000000000) → Q z100 μ87) ∧ ((p4 = 0) → ∀ z104 : Int, μ87 154 (z55.toNat) = z104 → (0 ≤ z104 ∧ z104 ≤ 2000000000) → Q z104 μ87))) ∧ ((z71 = 0) → Q ((-99999999) : Int) μ))
def WP_X12_heard_W (w : mW) (μ : mM) (p1 : Int) (p2 : Int) (p3 : Int) (p4 : Int) (Q : Int → mM → Prop) : Prop := ∀ z1 : Int, μ 106 6 = z1 → (0 ≤ z1 ∧ z1 ≤ 20) → WP_X12_isTie_W w μ p1 (fun z8 _ => (0 ≤ z8 ∧ z8 ≤ 1) → ((z8 = 0) → Q ((-1) : Int) μ) ∧ ((¬ z8 = 0) → WP_X12_in_W w μ p2 (0) (1) (fun z20 _ => (0 ≤ z20 ∧ z20 ≤ 1) → ((z20 = 0) → Q ((-1) : Int) μ) ∧ ((¬ z20 = 0) → ∀ z27 : Int, μ 106 2 = z27 → (0 ≤ z27 ∧ z27 ≤ 10) → WP_X12_isPrefix_W w μ p3 (fun z34 _ => (0 ≤ z34 ∧ z34 ≤ 1) → ((z34 = 0) → Q ((-1) : Int) μ) ∧ ((¬ z34 = 0) → WP_X12_in_W w μ p4 (0) (1) (fun z46 _ => (0 ≤ z46 ∧ z46 ≤ 1) → ((¬ z46 = 0) → WP_X12_slot_W w μ p1 p2 p3 (fun z55 _ => (0 ≤ z55 ∧ z55 ≤ 449) → ((¬ p4 = 0) → (WJ_X12_heard_W_1 w μ p4 Q z55) (530 : Int)) ∧ ((p4 = 0) → (WJ_X12_heard_W_1 w μ p4 Q z55) (130 : Int)))) ∧ ((z46 = 0) → Q ((-1) : Int) μ))))))))
theorem vc_X12_heard_W_22 {p1 p2 p3 z1 z20 z27 z34 z55 z59 z8 : Int} (h0 : z55 = (((20 * p1) + (10 * p2)) + p3)) (h1 : (z8 = 1 → 0 ≤ p1 ∧ p1 < z1)) (h2 : (z8 = 0 → p1 < 0 ∨ z1 ≤ p1)) (h3 : 0 ≤ p1 ∧ p1 < z1) (h4 : (z20 = 1 → (0 : Int) ≤ p2 ∧ p2 ≤ (1 : Int))) (h5 : (z20 = 0 → p2 < (0 : Int) ∨ (1 : Int) < p2)) (h6 : (0 : Int) ≤ p2 ∧ p2 ≤ (1 : Int)) (h7 : (z34 = 1 → 0 ≤ p3 ∧ p3 < z27)) (h8 : (z34 = 0 → p3 < 0 ∨ z27 ≤ p3)) (h9 : 0 ≤ p3 ∧ p3 < z27) (h10 : 0 ≤ p1 ∧ p1 ≤ 19) (h11 : 0 ≤ p2 ∧ p2 ≤ 1) (h12 : 0 ≤ p3 ∧ p3 ≤ 9) (h13 : 1 ≤ z1 ∧ z1 ≤ 20) (h14 : 1 ≤ z20 ∧ z20 ≤ 1) (h15 : 1 ≤ z27 ∧ z27 ≤ 10) (h16 : 1 ≤ z34 ∧ z34 ≤ 1) (h17 : 0 ≤ z55 ∧ z55 ≤ 399) (h18 : 130 ≤ z59 ∧ z59 ≤ 530) (h19 : 1 ≤ z8 ∧ z8 ≤ 1) : 0 ≤ (40 * (z59 + z55)) := by omega
theorem vc_X12_heard_W_23 {p1 p2 p3 z1 z20 z27 z34 z55 z59 z8 : Int} (h0 : z55 = (((20 * p1) + (10 * p2)) + p3)) (h1 : (z8 = 1 → 0 ≤ p1 ∧ p1 < z1)) (h2 : (z8 = 0 → p1 < 0 ∨ z1 ≤ p1)) (h3 : 0 ≤ p1 ∧ p1 < z1) (h4 : (z20 = 1 → (0 : Int) ≤ p2 ∧ p2 ≤ (1 : Int))) (h5 : (z20 = 0 → p2 < (0 : Int) ∨ (1 : Int) < p2)) (h6 : (0 : Int) ≤ p2 ∧ p2 ≤ (1 : Int)) (h7 : (z34 = 1 → 0 ≤ p3 ∧ p3 < z27)) (h8 : (z34 = 0 → p3 < 0 ∨ z27 ≤ p3)) (h9 : 0 ≤ p3 ∧ p3 < z27) (h10 : 0 ≤ p1 ∧ p1 ≤ 19) (h11 : 0 ≤ p2 ∧ p2 ≤ 1) (h12 : 0 ≤ p3 ∧ p3 ≤ 9) (h13 : 1 ≤ z1 ∧ z1 ≤ 20) (h14 : 1 ≤ z20 ∧ z20 ≤ 1) (h15 : 1 ≤ z27 ∧ z27 ≤ 10) (h16 : 1 ≤ z34 ∧ z34 ≤ 1) (h17 : 0 ≤ z55 ∧ z55 ≤ 399) (h18 : 130 ≤ z59 ∧ z59 ≤ 530) (h19 : 1 ≤ z8 ∧ z8 ≤ 1) : (40 * (z59 + z55)) % 40 = 0 := by omega
theorem vc_X12_heard_W_27 {p1 p2 p3 z1 z20 z27 z34 z55 z59 z8 : Int} (h0 : z55 = (((20 * p1) + (10 * p2)) + p3)) (h1 : (z8 = 1 → 0 ≤ p1 ∧ p1 < z1)) (h2 : (z8 = 0 → p1 < 0 ∨ z1 ≤ p1)) (h3 : 0 ≤ p1 ∧ p1 < z1) (h4 : (z20 = 1 → (0 : Int) ≤ p2 ∧ p2 ≤ (1 : Int))) (h5 : (z20 = 0 → p2 < (0 : Int) ∨ (1 : Int) < p2)) (h6 : (0 : Int) ≤ p2 ∧ p2 ≤ (1 : Int)) (h7 : (z34 = 1 → 0 ≤ p3 ∧ p3 < z27)) (h8 : (z34 = 0 → p3 < 0 ∨ z27 ≤ p3)) (h9 : 0 ≤ p3 ∧ p3 < z27) (h10 : 0 ≤ p1 ∧ p1 ≤ 19) (h11 : 0 ≤ p2 ∧ p2 ≤ 1) (h12 : 0 ≤ p3 ∧ p3 ≤ 9) (h13 : 1 ≤ z1 ∧ z1 ≤ 20) (h14 : 1 ≤ z20 ∧ z20 ≤ 1) (h15 : 1 ≤ z27 ∧ z27 ≤ 10) (h16 : 1 ≤ z34 ∧ z34 ≤ 1) (h17 : 0 ≤ z55 ∧ z55 ≤ 399) (h18 : 130 ≤ z59 ∧ z59 ≤ 530) (h19 : 1 ≤ z8 ∧ z8 ≤ 1) : (z59 + z55) < (0 : Int) ∨ (0 : Int) < (z59 + z55) := by omega
theorem vc_X12_heard_W_31 {p4 z46 : Int} (h0 : ¬ p4 = 0) (h1 : (z46 = 1 → (0 : Int) ≤ p4 ∧ p4 ≤ (1 : Int))) (h2 : (z46 = 0 → p4 < (0 : Int) ∨ (1 : Int) < p4)) (h3 : (0 : Int) ≤ p4 ∧ p4 ≤ (1 : Int)) (h4 : 0 ≤ p4 ∧ p4 ≤ 1) (h5 : 1 ≤ z46 ∧ z46 ≤ 1) : 1 ≤ p4 ∧ p4 ≤ 1 := by omega
theorem vc_X12_heard_W_32 {p4 z46 : Int} (h0 : p4 = 0) (h1 : (z46 = 1 → (0 : Int) ≤ p4 ∧ p4 ≤ (1 : Int))) (h2 : (z46 = 0 → p4 < (0 : Int) ∨ (1 : Int) < p4)) (h3 : (0 : Int) ≤ p4 ∧ p4 ≤ (1 : Int)) (h4 : 0 ≤ p4 ∧ p4 ≤ 1) (h5 : 1 ≤ z46 ∧ z46 ≤ 1) : 0 ≤ p4 ∧ p4 ≤ 0 := by omega
set_option maxRecDepth 4000 in
set_option maxHeartbeats 4000000 in
theorem c_X12_heard_W {l : Launch} {D : va_G} {c : Nat → ClassId} {H0 : Heap} {sa : Nat × Nat × (Nat → Int32)} {w : mW} {μ : mM} (hw : mWF w) (hT : mT w μ) {p1 : Int} (hp1 : (-2147483648) ≤ p1 ∧ p1 ≤ 2147483647) {p2 : Int} (hp2 : (-2147483648) ≤ p2 ∧ p2 ≤ 2147483647) {p3 : Int} (hp3 : (-2147483648) ≤ p3 ∧ p3 ≤ 2147483647) {p4 : Int} (hp4 : (-2147483648) ≤ p4 ∧ p4 ≤ 2147483647) {Q : Int → mM → Prop} (hQ : WP_X12_heard_W w μ p1 p2 p3 p4 Q) : sC (gG l D c H0 sa) mX12_heard 3 0 0 [.ref 106, iv p1, iv p2, iv p3, iv p4] (mk w μ) (qI w [106070, 126999] μ (fun z μ1 => ((-2147483648) ≤ z ∧ z ≤ 2147483647) ∧ Q z μ1 ∧ True)) := by
  refine sC.of rfl (by decide) (le_t rfl) ?_
  refine mr_lvE (lv' := [(0, .ref 106), (1, iv p1), (2, iv p2), (3, iv p3), (4, iv p4)]) rfl ?_
  refine sv_aload_n (pc := 0) dX12_heard_0 rfl rfl ?_
  refine mr_iload_n (pc := 1) (z := p1) dX12_heard_1 rfl rfl ?_
  obtain ⟨z1, q2⟩ : ∃ z, μ 106 6 = z := ⟨_, rfl⟩
  have h3 : (0 ≤ z1 ∧ z1 ≤ 20) := by rw [← q2]; exact hT 106 106 (A_106 hw) 6
  refine mr_cVP (pc := 2) (c_X12_isTie_W hw hT hp1 q2 (hQ z1 q2 h3)) (gOk _ _ _ _ _) dX12_heard_2 (tX12_isTie _ _ _ _ _) ⟨wV_X12_isTie, wL_X12_isTie⟩ wM_X12_66 (gCX12 _ _ _ _ _) rfl (A_106 hw) rfl ⟨le_t rfl, le_t rfl⟩ ⟨le_t rfl, le_t rfl⟩ rfl (le_t rfl) fun z8 h7 => ?_
  refine mr_if_eq (pc := 5) (tgt := 35) dX12_heard_5 (by decide) (r32 h7.1 rfl) (fun h9 => ?_) (fun h9 => ?_)
  · have h10 : 0 ≤ z8 ∧ z8 ≤ 0 := (vc_X12_write_1 h9 h7.2.1 h7.2.2.1 hp1 h3 h7.1)
    have h11 : p1 < 0 ∨ z1 ≤ p1 := (h7.2.2.1 (vc_X12_write_2 h7.2.1 h7.2.2.1 h9 hp1 h3 h10))
    refine mr_iconst (pc := 35) (z := (-1)) dX12_heard_35 ?_
    exact mr_iret dX12_heard_36 rfl (le_t rfl) (le_t rfl) hT mF.refl ⟨(rW (c := (-2147483648)) (d := 2147483647) (rR (x := (-1))) rfl), ((h7.2.2.2.1 h7.1).1 h9), trivial⟩
  have h12 : 1 ≤ z8 ∧ z8 ≤ 1 := (vc_X12_write_3 h9 h7.2.1 h7.2.2.1 hp1 h3 h7.1)
  have h13 : 0 ≤ p1 ∧ p1 < z1 := (h7.2.1 (vc_X12_write_4 h7.2.1 h7.2.2.1 h9 hp1 h3 h12))
  have h14 : 0 ≤ p1 ∧ p1 ≤ 19 := (vc_X12_write_5 h13 h7.2.1 h7.2.2.1 hp1 h3 h12)
  have h15 : 1 ≤ z1 ∧ z1 ≤ 20 := (vc_X12_write_6 h13 h7.2.1 h7.2.2.1 h14 h3 h12)
  refine mr_iload_n (pc := 8) (z := p2) dX12_heard_8 rfl rfl ?_
  refine mr_iconst (pc := 9) (z := 0) dX12_heard_9 ?_
  refine mr_iconst (pc := 10) (z := 1) dX12_heard_10 ?_
  refine mr_cSP (pc := 11) (c_X12_in_W hw hT hp2 (rW (c := (-2147483648)) (d := 2147483647) (rR (x := 0)) rfl) (rW (c := (-2147483648)) (d := 2147483647) (rR (x := 1)) rfl) ((h7.2.2.2.1 h7.1).2 h9)) (gOk _ _ _ _ _) dX12_heard_11 (tX12_in _ _ _ _ _) wS_X12_in wM_X12_18 ⟨le_t rfl, le_t rfl⟩ ⟨le_t rfl, le_t rfl⟩ rfl (le_t rfl) fun z20 h19 => ?_
  refine mr_if_eq (pc := 14) (tgt := 35) dX12_heard_14 (by decide) (r32 h19.1 rfl) (fun h21 => ?_) (fun h21 => ?_)
  · have h22 : 0 ≤ z20 ∧ z20 ≤ 0 := (vc_X12_write_7 h21 h19.2.1 h19.2.2.1 hp2 h19.1)
    have h23 : p2 < (0 : Int) ∨ (1 : Int) < p2 := (h19.2.2.1 (vc_X12_write_8 h19.2.1 h19.2.2.1 h21 hp2 h22))
    refine mr_iconst (pc := 35) (z := (-1)) dX12_heard_35 ?_
    exact mr_iret dX12_heard_36 rfl (le_t rfl) (le_t rfl) hT mF.refl ⟨(rW (c := (-2147483648)) (d := 2147483647) (rR (x := (-1))) rfl), ((h19.2.2.2.1 h19.1).1 h21), trivial⟩
  have h24 : 1 ≤ z20 ∧ z20 ≤ 1 := (vc_X12_write_9 h21 h19.2.1 h19.2.2.1 hp2 h19.1)
  have h25 : (0 : Int) ≤ p2 ∧ p2 ≤ (1 : Int) := (h19.2.1 (vc_X12_write_10 h19.2.1 h19.2.2.1 h21 hp2 h24))
  have h26 : 0 ≤ p2 ∧ p2 ≤ 1 := (vc_X12_write_11 h25 h19.2.1 h19.2.2.1 hp2 h24)
  refine sv_aload_n (pc := 17) dX12_heard_17 rfl rfl ?_
  refine mr_iload_n (pc := 18) (z := p3) dX12_heard_18 rfl rfl ?_
  obtain ⟨z27, q28⟩ : ∃ z, μ 106 2 = z := ⟨_, rfl⟩
  have h29 : (0 ≤ z27 ∧ z27 ≤ 10) := by rw [← q28]; exact hT 106 106 (A_106 hw) 2
  refine mr_cVP (pc := 19) (c_X12_isPrefix_W hw hT hp3 q28 (((h19.2.2.2.1 h19.1).2 h21) z27 q28 h29)) (gOk _ _ _ _ _) dX12_heard_19 (tX12_isPrefix _ _ _ _ _) ⟨wV_X12_isPrefix, wL_X12_isPrefix⟩ wM_X12_92 (gCX12 _ _ _ _ _) rfl (A_106 hw) rfl ⟨le_t rfl, le_t rfl⟩ ⟨le_t rfl, le_t rfl⟩ rfl (le_t rfl) fun z34 h33 => ?_
  refine mr_if_eq (pc := 22) (tgt := 35) dX12_heard_22 (by decide) (r32 h33.1 rfl) (fun h35 => ?_) (fun h35 => ?_)
  · have h36 : 0 ≤ z34 ∧ z34 ≤ 0 := (vc_X12_write_78 h35 h33.2.1 h33.2.2.1 hp3 h29 h33.1)
    have h37 : p3 < 0 ∨ z27 ≤ p3 := (h33.2.2.1 (vc_X12_write_79 h33.2.1 h33.2.2.1 h35 hp3 h29 h36))
    refine mr_iconst (pc := 35) (z := (-1)) dX12_heard_35 ?_
    exact mr_iret dX12_heard_36 rfl (le_t rfl) (le_t rfl) hT mF.refl ⟨(rW (c := (-2147483648)) (d := 2147483647) (rR (x := (-1))) rfl), ((h33.2.2.2.1 h33.1).1 h35), trivial⟩
  have h38 : 1 ≤ z34 ∧ z34 ≤ 1 := (vc_X12_write_12 h35 h33.2.1 h33.2.2.1 hp3 h29 h33.1)
  have h39 : 0 ≤ p3 ∧ p3 < z27 := (h33.2.1 (vc_X12_write_13 h33.2.1 h33.2.2.1 h35 hp3 h29 h38))
  have h40 : 0 ≤ p3 ∧ p3 ≤ 9 := (vc_X12_write_14 h39 h33.2.1 h33.2.2.1 hp3 h29 h38)
  have h41 : 1 ≤ z27 ∧ z27 ≤ 10 := (vc_X12_write_15 h39 h33.2.1 h33.2.2.1 h40 h29 h38)
  refine mr_iload (pc := 25) (z := p4) dX12_heard_25 rfl ?_
  refine mr_iconst (pc := 27) (z := 0) dX12_heard_27 ?_
  refine mr_iconst (pc := 28) (z := 1) dX12_heard_28 ?_
  refine mr_cSP (pc := 29) (c_X12_in_W hw hT hp4 (rW (c := (-2147483648)) (d := 2147483647) (rR (x := 0)) rfl) (rW (c := (-2147483648)) (d := 2147483647) (rR (x := 1)) rfl) ((h33.2.2.2.1 h33.1).2 h35)) (gOk _ _ _ _ _) dX12_heard_29 (tX12_in _ _ _ _ _) wS_X12_in wM_X12_18 ⟨le_t rfl, le_t rfl⟩ ⟨le_t rfl, le_t rfl⟩ rfl (le_t rfl) fun z46 h45 => ?_
  refine mr_if_ne (pc := 32) (tgt := 37) dX12_heard_32 (by decide) (r32 h45.1 rfl) (fun h47 => ?_) (fun h47 => ?_)
  · have h48 : 1 ≤ z46 ∧ z46 ≤ 1 := (vc_X12_write_9 h47 h45.2.1 h45.2.2.1 hp4 h45.1)
    have h49 : (0 : Int) ≤ p4 ∧ p4 ≤ (1 : Int) := (h45.2.1 (vc_X12_write_10 h45.2.1 h45.2.2.1 h47 hp4 h48))
    have h50 : 0 ≤ p4 ∧ p4 ≤ 1 := (vc_X12_write_11 h49 h45.2.1 h45.2.2.1 hp4 h48)
    refine mr_iload_n (pc := 37) (z := p1) dX12_heard_37 rfl rfl ?_
    refine mr_iload_n (pc := 38) (z := p2) dX12_heard_38 rfl rfl ?_
    refine mr_iload_n (pc := 39) (z := p3) dX12_heard_39 rfl rfl ?_
    refine mr_cSP (pc := 40) (c_X12_slot_W hw hT (rW (c := 0) (d := 20) h14 rfl) (rW (c := 0) (d := 2) h26 rfl) h40 ((h45.2.2.2.1 h45.1).1 h47)) (gOk _ _ _ _ _) dX12_heard_40 (tX12_slot _ _ _ _ _) wS_X12_slot wM_X12_545 ⟨le_t rfl, le_t rfl⟩ ⟨le_t rfl, le_t rfl⟩ rfl (le_t rfl) fun z55 h54 => ?_
    have h56 : 0 ≤ z55 ∧ z55 ≤ 399 := (vc_X12_write_16 h54.2.1 h13 h19.2.1 h19.2.2.1 h25 h33.2.1 h33.2.2.1 h39 h14 h26 h40 h15 h24 h41 h38 h54.1)
    refine mr_istore (pc := 43) (lv' := [(5, iv z55), (0, .ref 106), (1, iv p1), (2, iv p2), (3, iv p3), (4, iv p4)]) dX12_heard_43 (by decide) rfl ?_
    refine mr_iload (pc := 45) (z := p4) dX12_heard_45 rfl ?_
    have J61 : ∀ (z59 : Int), ((130 ≤ z59 ∧ z59 ≤ 530)) → ((WJ_X12_heard_W_1 w μ p4 Q z55) z59) → sV (gG l D c H0 sa) mX12_heard (sRm 3 0 0) (sZ (gG l D c H0 sa) 0 0 (qI w [106070, 126999] μ (fun z μ1 => ((-2147483648) ≤ z ∧ z ≤ 2147483647) ∧ Q z μ1 ∧ True))) 59 [(0, .ref 106), (4, iv p4), (5, iv z55)] [iv z59] (mk w μ) 0 0 := by
      intro z59 h60 W62
      refine mr_iload (pc := 59) (z := z55) dX12_heard_59 rfl ?_
      refine mr_iadd (pc := 61) (x := z59) (y := z55) dX12_heard_61 ?_
      refine mr_istore (pc := 62) (lv' := [(6, iv (z59 + z55)), (0, .ref 106), (4, iv p4), (5, iv z55)]) dX12_heard_62 (by decide) rfl ?_
      refine sv_aload_n (pc := 64) dX12_heard_64 rfl rfl ?_
      refine mr_iload (pc := 65) (z := (z59 + z55)) dX12_heard_65 rfl ?_
      obtain ⟨z63, q64⟩ : ∃ z, μ 126 ((40 * (z59 + z55)).toNat) = z := ⟨_, rfl⟩
      have h65 := rt7 hT (A_126 hw) (vc_X12_heard_W_22 h54.2.1 h7.2.1 h7.2.2.1 h13 h19.2.1 h19.2.2.1 h25 h33.2.1 h33.2.2.1 h39 h14 h26 h40 h15 h24 h41 h38 h56 h60 h12) q64
      have h66 : (-1) ≤ z63 ∧ z63 ≤ 9 := h65.2.1 (vc_X12_heard_W_23 h54.2.1 h7.2.1 h7.2.2.1 h13 h19.2.1 h19.2.2.1 h25 h33.2.1 h33.2.2.1 h39 h14 h26 h40 h15 h24 h41 h38 h56 h60 h12)
      refine mr_cVP (pc := 67) (c_X12_isThere_W hw hT (rW (c := 0) (d := 2099) (rAdd (e := 130) (f := 929) h60 h56 rfl) rfl) q64 ((W62 h60) z63 q64 h65)) (gOk _ _ _ _ _) dX12_heard_67 (tX12_isThere _ _ _ _ _) ⟨wV_X12_isThere, wL_X12_isThere⟩ wM_X12_151 (gCX12 _ _ _ _ _) rfl (A_106 hw) rfl ⟨le_t rfl, le_t rfl⟩ ⟨le_t rfl, le_t rfl⟩ rfl (le_t rfl) fun z71 h70 => ?_
      refine mr_if_ne (pc := 70) (tgt := 76) dX12_heard_70 (by decide) (r32 h70.1 rfl) (fun h72 => ?_) (fun h72 => ?_)
      · have h73 : 1 ≤ z71 ∧ z71 ≤ 1 := (vc_X12_candidate_11 h72 h70.2.1 h70.2.2.1 h66 h70.1)
        have h74 : 0 ≤ z63 := (h70.2.1 (vc_X12_candidate_12 h70.2.1 h70.2.2.1 h72 h66 h73))
        have h75 : 0 ≤ z63 ∧ z63 ≤ 9 := (vc_X12_candidate_13 h74 h70.2.1 h70.2.2.1 h66 h73)
        refine sv_aload_n (pc := 76) dX12_heard_76 rfl rfl ?_
        refine mr_iload (pc := 77) (z := (z59 + z55)) dX12_heard_77 rfl ?_
        refine mr_iconst (pc := 79) (z := 0) dX12_heard_79 ?_
        refine mr_cVV (pc := 80) (c_X12_copy_W hw hT (rW (c := 0) (d := 2099) (rAdd (e := 130) (f := 929) h60 h56 rfl) rfl) (rW (c := 0) (d := 2099) (rR (x := 0)) rfl) q64 (vc_X12_heard_W_27 h54.2.1 h7.2.1 h7.2.2.1 h13 h19.2.1 h19.2.2.1 h25 h33.2.1 h33.2.2.1 h39 h14 h26 h40 h15 h24 h41 h38 h56 h60 h12) ((h70.2.2.2.1 h70.1).1 h72)) (gOk _ _ _ _ _) dX12_heard_80 (tX12_copy _ _ _ _ _) ⟨wV_X12_copy, wL_X12_copy⟩ wM_X12_559 (gCX12 _ _ _ _ _) rfl (A_106 hw) rfl ⟨le_t rfl, le_t rfl⟩ ⟨le_t rfl, le_t rfl⟩ rfl (le_t rfl) fun μ76 T77 F78 h79 => ?_
        obtain ⟨z80, q81, h82⟩ := h79
        have h83 := rt7 T77 (A_126 hw) vc_X12_picked_W_15 q81
        have h84 : (-1) ≤ z80 ∧ z80 ≤ 9 := h83.2.1 vc_X12_picked_W_16
        have q85 : μ76 126 (((40 * 0) : Int).toNat) = z63 := q81.trans h82.2.1
        have h86 : 0 ≤ z80 ∧ z80 ≤ 9 := (vc_X12_candidate_18 h82.2.1 h70.2.1 h70.2.2.1 h74 h75 h73 h84)
        refine sv_aload_n (pc := 83) dX12_heard_83 rfl rfl ?_
        refine mr_iconst (pc := 84) (z := 1) dX12_heard_84 ?_
        refine pf_X12_70 (pc := 85) dX12_heard_85 wF_X12_411 (A_106 hw) T77 (rW (c := 0) (d := 1) (rR (x := 1)) rfl) fun μ87 u88 T89 => ?_
        refine mr_iload (pc := 88) (z := p4) dX12_heard_88 rfl ?_
        refine mr_if_ne (pc := 90) (tgt := 103) dX12_heard_90 (by decide) (r32 h50 rfl) (fun h98 => ?_) (fun h98 => ?_)
        · have h99 : 1 ≤ p4 ∧ p4 ≤ 1 := (vc_X12_heard_W_31 h98 h45.2.1 h45.2.2.1 h49 h50 h48)
          refine sv_aload_n (pc := 103) dX12_heard_103 rfl rfl ?_
          refine gf_X12_76 (pc := 104) dX12_heard_104 wF_X12_430 (A_106 hw) T89 ?_
          refine mr_iload (pc := 107) (z := z55) dX12_heard_107 rfl ?_
          refine la_156 (pc := 109) dX12_heard_109 (A_156 hw) T89 (rIx (n := 400) h56 rfl) fun z100 q101 h102 => ?_
          exact mr_iret dX12_heard_110 rfl (le_t rfl) (le_t rfl) T89 (mF.up (mF.call mF.refl F78 rfl) (A_106 hw) u88 rfl) ⟨(rW (c := (-2147483648)) (d := 2147483647) h102 rfl), (((((h82.2.2.1 T77 F78) z80 q81) μ87 u88 T89).1 h98) z100 q101 h102), trivial⟩
        have h103 : 0 ≤ p4 ∧ p4 ≤ 0 := (vc_X12_heard_W_32 h98 h45.2.1 h45.2.2.1 h49 h50 h48)
        refine sv_aload_n (pc := 93) dX12_heard_93 rfl rfl ?_
        refine gf_X12_74 (pc := 94) dX12_heard_94 wF_X12_424 (A_106 hw) T89 ?_
        refine mr_iload (pc := 97) (z := z55) dX12_heard_97 rfl ?_
        refine la_154 (pc := 99) dX12_heard_99 (A_154 hw) T89 (rIx (n := 400) h56 rfl) fun z104 q105 h106 => ?_
        refine sv_goto (pc := 100) (tgt := 110) dX12_heard_100 (by decide) ?_
        exact mr_iret dX12_heard_110 rfl (le_t rfl) (le_t rfl) T89 (mF.up (mF.call mF.refl F78 rfl) (A_106 hw) u88 rfl) ⟨(rW (c := (-2147483648)) (d := 2147483647) h106 rfl), (((((h82.2.2.1 T77 F78) z80 q81) μ87 u88 T89).2 h98) z104 q105 h106), trivial⟩
      have h107 : 0 ≤ z71 ∧ z71 ≤ 0 := (vc_X12_candidate_32 h72 h70.2.1 h70.2.2.1 h66 h70.1)
      have h108 : z63 < 0 := (h70.2.2.1 (vc_X12_candidate_33 h70.2.1 h70.2.2.1 h72 h66 h107))
      have h109 : (-1) ≤ z63 ∧ z63 ≤ (-1) := (vc_X12_candidate_34 h108 h70.2.1 h70.2.2.1 h66 h107)
      refine mr_ldc (pc := 73) (z := (-99999999)) dX12_heard_73 wG_X12_29 (by decide) ?_
      exact mr_iret dX12_heard_75 rfl (le_t rfl) (le_t rfl) hT mF.refl ⟨(rW (c := (-2147483648)) (d := 2147483647) (rR (x := (-99999999))) rfl), ((h70.2.2.2.1 h70.1).2 h72), trivial⟩
    refine mr_if_ne (pc := 47) (tgt := 56) dX12_heard_47 (by decide) (r32 h50 rfl) (fun h110 => ?_) (fun h110 => ?_)
    · have h111 : 1 ≤ p4 ∧ p4 ≤ 1 := (vc_X12_heard_W_31 h110 h45.2.1 h45.2.2.1 h49 h50 h48)
      refine mr_sipush (pc := 56) (z := 530) dX12_heard_56 (by decide) ?_
      refine mr_lvS (lv' := [(0, .ref 106), (4, iv p4), (5, iv z55)]) (List.forall_mem_cons.mpr ⟨rfl, List.forall_mem_cons.mpr ⟨rfl, List.forall_mem_cons.mpr ⟨rfl, fun _ h => absurd h List.not_mem_nil⟩⟩⟩) ?_
      exact J61 530 (rW (c := 130) (d := 530) (rR (x := 530)) rfl) ((h54.2.2.1 h54.1).1 h110)
    have h112 : 0 ≤ p4 ∧ p4 ≤ 0 := (vc_X12_heard_W_32 h110 h45.2.1 h45.2.2.1 h49 h50 h48)
    refine mr_sipush (pc := 50) (z := 130) dX12_heard_50 (by decide) ?_
    refine sv_goto (pc := 53) (tgt := 59) dX12_heard_53 (by decide) ?_
    refine mr_lvS (lv' := [(0, .ref 106), (4, iv p4), (5, iv z55)]) (List.forall_mem_cons.mpr ⟨rfl, List.forall_mem_cons.mpr ⟨rfl, List.forall_mem_cons.mpr ⟨rfl, fun _ h => absurd h List.not_mem_nil⟩⟩⟩) ?_
    exact J61 130 (rW (c := 130) (d := 530) (rR (x := 130)) rfl) ((h54.2.2.1 h54.1).2 h110)
  have h113 : 0 ≤ z46 ∧ z46 ≤ 0 := (vc_X12_write_7 h47 h45.2.1 h45.2.2.1 hp4 h45.1)
  have h114 : p4 < (0 : Int) ∨ (1 : Int) < p4 := (h45.2.2.1 (vc_X12_write_8 h45.2.1 h45.2.2.1 h47 hp4 h113))
  refine mr_iconst (pc := 35) (z := (-1)) dX12_heard_35 ?_
  exact mr_iret dX12_heard_36 rfl (le_t rfl) (le_t rfl) hT mF.refl ⟨(rW (c := (-2147483648)) (d := 2147483647) (rR (x := (-1))) rfl), ((h45.2.2.2.1 h45.1).2 h47), trivial⟩
def WP_X11_announce_W (w : mW) (μ : mM) (p1 : Int) (p2 : Int) (p3 : Int) (Q : Int → mM → Prop) : Prop := ∀ z1 : Int, μ 6 15 = z1 → (z1 = w.2.2.2 0 ∧ 0 ≤ z1 ∧ z1 ≤ 10) → WP_X11_isDomain_W w μ p1 (fun z8 _ => (0 ≤ z8 ∧ z8 ≤ 1) → ((z8 = 0) → Q ((-1) : Int) μ) ∧ ((¬ z8 = 0) → ∀ z16 : Int, μ 6 14 = z16 → (0 ≤ z16 ∧ z16 ≤ 10) → WP_X11_isPrefix_W w μ p2 (fun z23 _ => (0 ≤ z23 ∧ z23 ≤ 1) → ((z23 = 0) → Q ((-1) : Int) μ) ∧ ((¬ z23 = 0) → ((p3 < 0) → Q ((-1) : Int) μ) ∧ ((0 ≤ p3) → ((p3 ≤ 2) → ∀ b35 : Nat, μ 10 (p1.toNat) = (b35 : Int) → mAt w b35 210 → ∀ z39 : Int, μ (b35 + 2) (p2.toNat) = z39 → ((-1) ≤ z39 ∧ z39 ≤ 2) → ((¬ z39 = p3) → ∀ μ44 : mM, mU μ (b35 + 2) (p2.toNat) p3 μ44 → mT w μ44 → WP_X8_look_W w μ44 p1 p2 (fun μ47 => mT w μ47 → mF [21002, 21003, 21004, 21005, 21006, 21007, 32009, 32010, 33999, 34999, 66999, 200002, 200003, 200004, 200005, 200006, 200007, 200008, 200009, 200010, 200011, 201999, 202999, 213999] w μ44 μ47 → Q (0 : Int) μ47)) ∧ ((z39 = p3) → Q ((-2) : Int) μ)) ∧ ((2 < p3) → Q ((-1) : Int) μ))))))
theorem vc_X11_announce_W_16 {p3 z39 : Int} (h0 : z39 = p3) (h1 : 0 ≤ p3) (h2 : p3 ≤ 2) (h3 : 0 ≤ p3 ∧ p3 ≤ 2) (h4 : (-1) ≤ z39 ∧ z39 ≤ 2) : 0 ≤ z39 ∧ z39 ≤ 2 := by omega
set_option maxRecDepth 4000 in
set_option maxHeartbeats 4000000 in
theorem c_X11_announce_W {l : Launch} {D : va_G} {c : Nat → ClassId} {H0 : Heap} {sa : Nat × Nat × (Nat → Int32)} {w : mW} {μ : mM} (hw : mWF w) (hT : mT w μ) {p1 : Int} (hp1 : (-2147483648) ≤ p1 ∧ p1 ≤ 2147483647) {p2 : Int} (hp2 : (-2147483648) ≤ p2 ∧ p2 ≤ 2147483647) {p3 : Int} (hp3 : (-2147483648) ≤ p3 ∧ p3 ≤ 2147483647) (hIPC : PC w μ) {Q : Int → mM → Prop} (hQ : WP_X11_announce_W w μ p1 p2 p3 Q) : sC (gG l D c H0 sa) mX11_announce 43 0 0 [.ref 0, iv p1, iv p2, iv p3] (mk w μ) (qI w [21002, 21003, 21004, 21005, 21006, 21007, 32009, 32010, 33999, 34999, 66999, 200002, 200003, 200004, 200005, 200006, 200007, 200008, 200009, 200010, 200011, 201999, 202999, 212999, 213999] μ (fun z μ1 => ((-2147483648) ≤ z ∧ z ≤ 2147483647) ∧ Q z μ1 ∧ True)) := by
  refine sC.of rfl (by decide) (le_t rfl) ?_
  refine mr_lvE (lv' := [(0, .ref 0), (1, iv p1), (2, iv p2), (3, iv p3)]) rfl ?_
  refine sv_aload_n (pc := 0) dX11_announce_0 rfl rfl ?_
  refine mr_iload_n (pc := 1) (z := p1) dX11_announce_1 rfl rfl ?_
  obtain ⟨z1, q2⟩ : ∃ z, μ 6 15 = z := ⟨_, rfl⟩
  have h3 : (z1 = w.2.2.2 0 ∧ 0 ≤ z1 ∧ z1 ≤ 10) := by rw [← q2]; exact hT 6 6 (A_6 hw) 15
  refine mr_cVP (pc := 2) (c_X11_isDomain_W hw hT hp1 q2 (hQ z1 q2 h3)) (gOk _ _ _ _ _) dX11_announce_2 (tX11_isDomain _ _ _ _ _) ⟨wV_X11_isDomain, wL_X11_isDomain⟩ wM_X11_105 (gCX11 _ _ _ _ _) rfl (A_0 hw) rfl ⟨le_t rfl, le_t rfl⟩ ⟨le_t rfl, le_t rfl⟩ rfl (le_t rfl) fun z8 h7 => ?_
  refine mr_if_eq (pc := 5) (tgt := 25) dX11_announce_5 (by decide) (r32 h7.1 rfl) (fun h9 => ?_) (fun h9 => ?_)
  · have h10 : 0 ≤ z8 ∧ z8 ≤ 0 := (vc_X12_write_78 h9 h7.2.1 h7.2.2.1 hp1 h3.2 h7.1)
    have h11 : p1 < 0 ∨ z1 ≤ p1 := (h7.2.2.1 (vc_X11_letter_2 h7.2.1 h7.2.2.1 h9 h3.1 hp1 h3.2 h10))
    refine mr_iconst (pc := 25) (z := (-1)) dX11_announce_25 ?_
    exact mr_iret dX11_announce_26 rfl (le_t rfl) (le_t rfl) hT mF.refl ⟨(rW (c := (-2147483648)) (d := 2147483647) (rR (x := (-1))) rfl), ((h7.2.2.2.1 h7.1).1 h9), trivial⟩
  have h12 : 1 ≤ z8 ∧ z8 ≤ 1 := (vc_X12_write_12 h9 h7.2.1 h7.2.2.1 hp1 h3.2 h7.1)
  have h13 : 0 ≤ p1 ∧ p1 < z1 := (h7.2.1 (vc_X11_letter_4 h7.2.1 h7.2.2.1 h9 h3.1 hp1 h3.2 h12))
  have h14 : 0 ≤ p1 ∧ p1 ≤ 9 := (vc_X11_letter_5 h13 h3.1 h7.2.1 h7.2.2.1 hp1 h3.2 h12)
  have h15 : 1 ≤ z1 ∧ z1 ≤ 10 := (vc_X11_letter_6 h13 h3.1 h7.2.1 h7.2.2.1 h14 h3.2 h12)
  refine sv_aload_n (pc := 8) dX11_announce_8 rfl rfl ?_
  refine mr_iload_n (pc := 9) (z := p2) dX11_announce_9 rfl rfl ?_
  obtain ⟨z16, q17⟩ : ∃ z, μ 6 14 = z := ⟨_, rfl⟩
  have h18 : (0 ≤ z16 ∧ z16 ≤ 10) := by rw [← q17]; exact hT 6 6 (A_6 hw) 14
  refine mr_cVP (pc := 10) (c_X11_isPrefix_W hw hT hp2 q17 (((h7.2.2.2.1 h7.1).2 h9) z16 q17 h18)) (gOk _ _ _ _ _) dX11_announce_10 (tX11_isPrefix _ _ _ _ _) ⟨wV_X11_isPrefix, wL_X11_isPrefix⟩ wM_X11_182 (gCX11 _ _ _ _ _) rfl (A_0 hw) rfl ⟨le_t rfl, le_t rfl⟩ ⟨le_t rfl, le_t rfl⟩ rfl (le_t rfl) fun z23 h22 => ?_
  refine mr_if_eq (pc := 13) (tgt := 25) dX11_announce_13 (by decide) (r32 h22.1 rfl) (fun h24 => ?_) (fun h24 => ?_)
  · have h25 : 0 ≤ z23 ∧ z23 ≤ 0 := (vc_X12_write_78 h24 h22.2.1 h22.2.2.1 hp2 h18 h22.1)
    have h26 : p2 < 0 ∨ z16 ≤ p2 := (h22.2.2.1 (vc_X12_write_79 h22.2.1 h22.2.2.1 h24 hp2 h18 h25))
    refine mr_iconst (pc := 25) (z := (-1)) dX11_announce_25 ?_
    exact mr_iret dX11_announce_26 rfl (le_t rfl) (le_t rfl) hT mF.refl ⟨(rW (c := (-2147483648)) (d := 2147483647) (rR (x := (-1))) rfl), ((h22.2.2.2.1 h22.1).1 h24), trivial⟩
  have h27 : 1 ≤ z23 ∧ z23 ≤ 1 := (vc_X12_write_12 h24 h22.2.1 h22.2.2.1 hp2 h18 h22.1)
  have h28 : 0 ≤ p2 ∧ p2 < z16 := (h22.2.1 (vc_X12_write_13 h22.2.1 h22.2.2.1 h24 hp2 h18 h27))
  have h29 : 0 ≤ p2 ∧ p2 ≤ 9 := (vc_X12_write_14 h28 h22.2.1 h22.2.2.1 hp2 h18 h27)
  refine mr_iload_n (pc := 16) (z := p3) dX11_announce_16 rfl rfl ?_
  refine mr_if_lt (pc := 17) (tgt := 25) dX11_announce_17 (by decide) hp3 (fun h30 => ?_) (fun h30 => ?_)
  · have h31 : (-2147483648) ≤ p3 ∧ p3 ≤ (-1) := (vc_X12_ring_60 h30 hp3)
    refine mr_iconst (pc := 25) (z := (-1)) dX11_announce_25 ?_
    exact mr_iret dX11_announce_26 rfl (le_t rfl) (le_t rfl) hT mF.refl ⟨(rW (c := (-2147483648)) (d := 2147483647) (rR (x := (-1))) rfl), (((h22.2.2.2.1 h22.1).2 h24).1 h30), trivial⟩
  have h32 : 0 ≤ p3 ∧ p3 ≤ 2147483647 := (vc_X12_ring_1 h30 hp3)
  refine mr_iload_n (pc := 20) (z := p3) dX11_announce_20 rfl rfl ?_
  refine mr_iconst (pc := 21) (z := 2) dX11_announce_21 ?_
  refine mr_icmp_le (pc := 22) (tgt := 27) dX11_announce_22 (by decide) (r32 h32 rfl) (r32 (rR (x := 2)) rfl) (fun h33 => ?_) (fun h33 => ?_)
  · have h34 : 0 ≤ p3 ∧ p3 ≤ 2 := (vc_X11_units_3 h33 h30 h32)
    refine sv_aload_n (pc := 27) dX11_announce_27 rfl rfl ?_
    refine gf_X11_3 (pc := 28) dX11_announce_28 wF_X11_26 (A_0 hw) hT ?_
    refine gf_X10_3 (pc := 31) dX11_announce_31 wF_X11_283 (A_6 hw) hT ?_
    refine mr_iload_n (pc := 34) (z := p1) dX11_announce_34 rfl rfl ?_
    refine la_10 (pc := 35) dX11_announce_35 (A_10 hw) hT (rIx (n := 10) h14 rfl) (vc_X11_letter_7 h3.1 h7.2.1 h7.2.2.1 h13 h9 h14 h15 h12) fun b35 q36 A37 => ?_
    refine gf_X0_1 (pc := 36) dX11_announce_36 wF_X11_293 A37 hT fun A38 => ?_
    refine mr_iload_n (pc := 39) (z := p2) dX11_announce_39 rfl rfl ?_
    refine la_212 (pc := 40) dX11_announce_40 A38 hT (rIx (n := 10) h29 rfl) fun z39 q40 h41 => ?_
    refine mr_iload_n (pc := 41) (z := p3) dX11_announce_41 rfl rfl ?_
    refine mr_icmp_ne (pc := 42) (tgt := 48) dX11_announce_42 (by decide) (r32 h41 rfl) (r32 h34 rfl) (fun h42 => ?_) (fun h42 => ?_)
    · refine sv_aload_n (pc := 48) dX11_announce_48 rfl rfl ?_
      refine gf_X11_3 (pc := 49) dX11_announce_49 wF_X11_26 (A_0 hw) hT ?_
      refine gf_X10_3 (pc := 52) dX11_announce_52 wF_X11_283 (A_6 hw) hT ?_
      refine mr_iload_n (pc := 55) (z := p1) dX11_announce_55 rfl rfl ?_
      refine lk_10 (pc := 56) dX11_announce_56 (A_10 hw) (rIx (n := 10) h14 rfl) q36 ?_
      refine gf_X0_1 (pc := 57) dX11_announce_57 wF_X11_293 A37 hT fun A43 => ?_
      refine mr_iload_n (pc := 60) (z := p2) dX11_announce_60 rfl rfl ?_
      refine mr_iload_n (pc := 61) (z := p3) dX11_announce_61 rfl rfl ?_
      refine ss_212 (pc := 62) dX11_announce_62 A43 hT (rIx (n := 10) h29 rfl) (rW (c := (-1)) (d := 2) h34 rfl) fun μ44 u45 T46 => ?_
      refine sv_aload_n (pc := 63) dX11_announce_63 rfl rfl ?_
      refine gf_X11_6 (pc := 64) dX11_announce_64 wF_X11_51 (A_0 hw) T46 ?_
      refine mr_iload_n (pc := 67) (z := p1) dX11_announce_67 rfl rfl ?_
      refine mr_iload_n (pc := 68) (z := p2) dX11_announce_68 rfl rfl ?_
      refine mr_cVV (pc := 69) (c_X8_look_W hw T46 h14 h29 (vc_X11_letter_7 h3.1 h7.2.1 h7.2.2.1 h13 h9 h14 h15 h12) (PC.keep hIPC hw ((mF.up mF.refl A43 u45 rfl) : mF [212999] w μ μ44) rfl) ((((((((h22.2.2.2.1 h22.1).2 h24).2 h30).1 h33) b35 q36 A37) z39 q40 h41).1 h42) μ44 u45 T46)) (gOk _ _ _ _ _) dX11_announce_69 (tX8_look _ _ _ _ _) ⟨wV_X8_look, wL_X8_look⟩ wM_X11_296 (gCX8 _ _ _ _ _) rfl (A_32 hw) rfl ⟨le_t rfl, le_t rfl⟩ ⟨le_t rfl, le_t rfl⟩ rfl (le_t rfl) fun μ47 T48 F49 h50 => ?_
      refine mr_iconst (pc := 72) (z := 0) dX11_announce_72 ?_
      exact mr_iret dX11_announce_73 rfl (le_t rfl) (le_t rfl) T48 (mF.call (mF.up mF.refl A43 u45 rfl) F49 rfl) ⟨(rW (c := (-2147483648)) (d := 2147483647) (rR (x := 0)) rfl), (h50.1 T48 F49), trivial⟩
    have h51 : 0 ≤ z39 ∧ z39 ≤ 2 := (vc_X11_announce_W_16 h42 h30 h33 h34 h41)
    refine mr_bipush (pc := 45) (z := (-2)) dX11_announce_45 (by decide) ?_
    exact mr_iret dX11_announce_47 rfl (le_t rfl) (le_t rfl) hT mF.refl ⟨(rW (c := (-2147483648)) (d := 2147483647) (rR (x := (-2))) rfl), (((((((h22.2.2.2.1 h22.1).2 h24).2 h30).1 h33) b35 q36 A37) z39 q40 h41).2 h42), trivial⟩
  have h52 : 3 ≤ p3 ∧ p3 ≤ 2147483647 := (vc_X11_units_4 h33 h30 h32)
  refine mr_iconst (pc := 25) (z := (-1)) dX11_announce_25 ?_
  exact mr_iret dX11_announce_26 rfl (le_t rfl) (le_t rfl) hT mF.refl ⟨(rW (c := (-2147483648)) (d := 2147483647) (rR (x := (-1))) rfl), ((((h22.2.2.2.1 h22.1).2 h24).2 h30).2 h33), trivial⟩
def WP_X12_announce_W (w : mW) (μ : mM) (p1 : Int) (p2 : Int) (p3 : Int) (Q : Int → mM → Prop) : Prop := ∀ z1 : Int, μ 106 5 = z1 → (0 ≤ z1 ∧ z1 ≤ 10) → WP_X12_isDomain_W w μ p1 (fun z8 _ => (0 ≤ z8 ∧ z8 ≤ 1) → ((z8 = 0) → Q ((-1) : Int) μ) ∧ ((¬ z8 = 0) → ∀ z16 : Int, μ 106 2 = z16 → (0 ≤ z16 ∧ z16 ≤ 10) → WP_X12_isPrefix_W w μ p2 (fun z23 _ => (0 ≤ z23 ∧ z23 ≤ 1) → ((z23 = 0) → Q ((-1) : Int) μ) ∧ ((¬ z23 = 0) → WP_X12_in_W w μ p3 (0) (2) (fun z34 _ => (0 ≤ z34 ∧ z34 ≤ 1) → ((¬ z34 = 0) → ∀ z39 : Int, μ 162 (((10 * p1) + p2).toNat) = z39 → ((-1) ≤ z39 ∧ z39 ≤ 2) → ((¬ z39 = p3) → ∀ μ43 : mM, mU μ 162 (((10 * p1) + p2).toNat) p3 μ43 → mT w μ43 → WP_X12_look_W w μ43 p1 p2 (fun μ46 => mT w μ46 → mF [106026, 106027, 106028, 106029, 106030, 106031, 106072, 126999, 151999, 152999, 153999, 155999, 156999, 157999, 158999, 159999, 160999, 161999, 165999] w μ43 μ46 → Q (0 : Int) μ46)) ∧ ((z39 = p3) → Q ((-2) : Int) μ)) ∧ ((z34 = 0) → Q ((-1) : Int) μ))))))
theorem vc_X12_announce_W_15 {p3 z34 z39 : Int} (h0 : z39 = p3) (h1 : (z34 = 1 → (0 : Int) ≤ p3 ∧ p3 ≤ (2 : Int))) (h2 : (z34 = 0 → p3 < (0 : Int) ∨ (2 : Int) < p3)) (h3 : (0 : Int) ≤ p3 ∧ p3 ≤ (2 : Int)) (h4 : 0 ≤ p3 ∧ p3 ≤ 2) (h5 : 1 ≤ z34 ∧ z34 ≤ 1) (h6 : (-1) ≤ z39 ∧ z39 ≤ 2) : 0 ≤ z39 ∧ z39 ≤ 2 := by omega
set_option maxRecDepth 4000 in
set_option maxHeartbeats 4000000 in
theorem c_X12_announce_W {l : Launch} {D : va_G} {c : Nat → ClassId} {H0 : Heap} {sa : Nat × Nat × (Nat → Int32)} {w : mW} {μ : mM} (hw : mWF w) (hT : mT w μ) {p1 : Int} (hp1 : (-2147483648) ≤ p1 ∧ p1 ≤ 2147483647) {p2 : Int} (hp2 : (-2147483648) ≤ p2 ∧ p2 ≤ 2147483647) {p3 : Int} (hp3 : (-2147483648) ≤ p3 ∧ p3 ≤ 2147483647) (hIG1 : G1 μ) (hIEV : EV μ) (hIPK : PK μ) {Q : Int → mM → Prop} (hQ : WP_X12_announce_W w μ p1 p2 p3 Q) : sC (gG l D c H0 sa) mX12_announce 11 0 0 [.ref 106, iv p1, iv p2, iv p3] (mk w μ) (qI w [106026, 106027, 106028, 106029, 106030, 106031, 106072, 126999, 151999, 152999, 153999, 155999, 156999, 157999, 158999, 159999, 160999, 161999, 162999, 165999] μ (fun z μ1 => ((-2147483648) ≤ z ∧ z ≤ 2147483647) ∧ G1 μ1 ∧ EV μ1 ∧ Q z μ1 ∧ True)) := by
  refine sC.of rfl (by decide) (le_t rfl) ?_
  refine mr_lvE (lv' := [(0, .ref 106), (1, iv p1), (2, iv p2), (3, iv p3)]) rfl ?_
  refine sv_aload_n (pc := 0) dX12_announce_0 rfl rfl ?_
  refine mr_iload_n (pc := 1) (z := p1) dX12_announce_1 rfl rfl ?_
  obtain ⟨z1, q2⟩ : ∃ z, μ 106 5 = z := ⟨_, rfl⟩
  have h3 : (0 ≤ z1 ∧ z1 ≤ 10) := by rw [← q2]; exact hT 106 106 (A_106 hw) 5
  refine mr_cVP (pc := 2) (c_X12_isDomain_W hw hT hp1 q2 (hQ z1 q2 h3)) (gOk _ _ _ _ _) dX12_announce_2 (tX12_isDomain _ _ _ _ _) ⟨wV_X12_isDomain, wL_X12_isDomain⟩ wM_X12_49 (gCX12 _ _ _ _ _) rfl (A_106 hw) rfl ⟨le_t rfl, le_t rfl⟩ ⟨le_t rfl, le_t rfl⟩ rfl (le_t rfl) fun z8 h7 => ?_
  refine mr_if_eq (pc := 5) (tgt := 25) dX12_announce_5 (by decide) (r32 h7.1 rfl) (fun h9 => ?_) (fun h9 => ?_)
  · have h10 : 0 ≤ z8 ∧ z8 ≤ 0 := (vc_X12_write_78 h9 h7.2.1 h7.2.2.1 hp1 h3 h7.1)
    have h11 : p1 < 0 ∨ z1 ≤ p1 := (h7.2.2.1 (vc_X12_write_79 h7.2.1 h7.2.2.1 h9 hp1 h3 h10))
    refine mr_iconst (pc := 25) (z := (-1)) dX12_announce_25 ?_
    exact mr_iret dX12_announce_26 rfl (le_t rfl) (le_t rfl) hT mF.refl ⟨(rW (c := (-2147483648)) (d := 2147483647) (rR (x := (-1))) rfl), hIG1, hIEV, ((h7.2.2.2.1 h7.1).1 h9), trivial⟩
  have h12 : 1 ≤ z8 ∧ z8 ≤ 1 := (vc_X12_write_12 h9 h7.2.1 h7.2.2.1 hp1 h3 h7.1)
  have h13 : 0 ≤ p1 ∧ p1 < z1 := (h7.2.1 (vc_X12_write_13 h7.2.1 h7.2.2.1 h9 hp1 h3 h12))
  have h14 : 0 ≤ p1 ∧ p1 ≤ 9 := (vc_X12_write_14 h13 h7.2.1 h7.2.2.1 hp1 h3 h12)
  have h15 : 1 ≤ z1 ∧ z1 ≤ 10 := (vc_X12_write_15 h13 h7.2.1 h7.2.2.1 h14 h3 h12)
  refine sv_aload_n (pc := 8) dX12_announce_8 rfl rfl ?_
  refine mr_iload_n (pc := 9) (z := p2) dX12_announce_9 rfl rfl ?_
  obtain ⟨z16, q17⟩ : ∃ z, μ 106 2 = z := ⟨_, rfl⟩
  have h18 : (0 ≤ z16 ∧ z16 ≤ 10) := by rw [← q17]; exact hT 106 106 (A_106 hw) 2
  refine mr_cVP (pc := 10) (c_X12_isPrefix_W hw hT hp2 q17 (((h7.2.2.2.1 h7.1).2 h9) z16 q17 h18)) (gOk _ _ _ _ _) dX12_announce_10 (tX12_isPrefix _ _ _ _ _) ⟨wV_X12_isPrefix, wL_X12_isPrefix⟩ wM_X12_92 (gCX12 _ _ _ _ _) rfl (A_106 hw) rfl ⟨le_t rfl, le_t rfl⟩ ⟨le_t rfl, le_t rfl⟩ rfl (le_t rfl) fun z23 h22 => ?_
  refine mr_if_eq (pc := 13) (tgt := 25) dX12_announce_13 (by decide) (r32 h22.1 rfl) (fun h24 => ?_) (fun h24 => ?_)
  · have h25 : 0 ≤ z23 ∧ z23 ≤ 0 := (vc_X12_write_78 h24 h22.2.1 h22.2.2.1 hp2 h18 h22.1)
    have h26 : p2 < 0 ∨ z16 ≤ p2 := (h22.2.2.1 (vc_X12_write_79 h22.2.1 h22.2.2.1 h24 hp2 h18 h25))
    refine mr_iconst (pc := 25) (z := (-1)) dX12_announce_25 ?_
    exact mr_iret dX12_announce_26 rfl (le_t rfl) (le_t rfl) hT mF.refl ⟨(rW (c := (-2147483648)) (d := 2147483647) (rR (x := (-1))) rfl), hIG1, hIEV, ((h22.2.2.2.1 h22.1).1 h24), trivial⟩
  have h27 : 1 ≤ z23 ∧ z23 ≤ 1 := (vc_X12_write_12 h24 h22.2.1 h22.2.2.1 hp2 h18 h22.1)
  have h28 : 0 ≤ p2 ∧ p2 < z16 := (h22.2.1 (vc_X12_write_13 h22.2.1 h22.2.2.1 h24 hp2 h18 h27))
  have h29 : 0 ≤ p2 ∧ p2 ≤ 9 := (vc_X12_write_14 h28 h22.2.1 h22.2.2.1 hp2 h18 h27)
  refine mr_iload_n (pc := 16) (z := p3) dX12_announce_16 rfl rfl ?_
  refine mr_iconst (pc := 17) (z := 0) dX12_announce_17 ?_
  refine mr_iconst (pc := 18) (z := 2) dX12_announce_18 ?_
  refine mr_cSP (pc := 19) (c_X12_in_W hw hT hp3 (rW (c := (-2147483648)) (d := 2147483647) (rR (x := 0)) rfl) (rW (c := (-2147483648)) (d := 2147483647) (rR (x := 2)) rfl) ((h22.2.2.2.1 h22.1).2 h24)) (gOk _ _ _ _ _) dX12_announce_19 (tX12_in _ _ _ _ _) wS_X12_in wM_X12_18 ⟨le_t rfl, le_t rfl⟩ ⟨le_t rfl, le_t rfl⟩ rfl (le_t rfl) fun z34 h33 => ?_
  refine mr_if_ne (pc := 22) (tgt := 27) dX12_announce_22 (by decide) (r32 h33.1 rfl) (fun h35 => ?_) (fun h35 => ?_)
  · have h36 : 1 ≤ z34 ∧ z34 ≤ 1 := (vc_X12_units_1 h35 h33.2.1 h33.2.2.1 hp3 h33.1)
    have h37 : (0 : Int) ≤ p3 ∧ p3 ≤ (2 : Int) := (h33.2.1 (vc_X12_units_2 h33.2.1 h33.2.2.1 h35 hp3 h36))
    have h38 : 0 ≤ p3 ∧ p3 ≤ 2 := (vc_X12_units_3 h37 h33.2.1 h33.2.2.1 hp3 h36)
    refine mr_bipush (pc := 27) (z := 10) dX12_announce_27 (by decide) ?_
    refine mr_iload_n (pc := 29) (z := p1) dX12_announce_29 rfl rfl ?_
    refine mr_imul (pc := 30) (x := 10) (y := p1) dX12_announce_30 ?_
    refine mr_iload_n (pc := 31) (z := p2) dX12_announce_31 rfl rfl ?_
    refine mr_iadd (pc := 32) (x := (10 * p1)) (y := p2) dX12_announce_32 ?_
    refine mr_istore (pc := 33) (lv' := [(4, iv ((10 * p1) + p2)), (0, .ref 106), (1, iv p1), (2, iv p2), (3, iv p3)]) dX12_announce_33 (by decide) rfl ?_
    refine sv_aload_n (pc := 35) dX12_announce_35 rfl rfl ?_
    refine gf_X12_82 (pc := 36) dX12_announce_36 wF_X12_448 (A_106 hw) hT ?_
    refine mr_iload (pc := 39) (z := ((10 * p1) + p2)) dX12_announce_39 rfl ?_
    refine la_162 (pc := 41) dX12_announce_41 (A_162 hw) hT (rIx (n := 100) (rAdd (e := 0) (f := 99) (rMulL (n := 10) (e := 0) (f := 90) h14 rfl) h29 rfl) rfl) fun z39 q40 h41 => ?_
    refine mr_iload_n (pc := 42) (z := p3) dX12_announce_42 rfl rfl ?_
    refine mr_icmp_ne (pc := 43) (tgt := 49) dX12_announce_43 (by decide) (r32 h41 rfl) (r32 h38 rfl) (fun h42 => ?_) (fun h42 => ?_)
    · refine sv_aload_n (pc := 49) dX12_announce_49 rfl rfl ?_
      refine gf_X12_82 (pc := 50) dX12_announce_50 wF_X12_448 (A_106 hw) hT ?_
      refine mr_iload (pc := 53) (z := ((10 * p1) + p2)) dX12_announce_53 rfl ?_
      refine mr_iload_n (pc := 55) (z := p3) dX12_announce_55 rfl rfl ?_
      refine ss_162 (pc := 56) dX12_announce_56 (A_162 hw) hT (rIx (n := 100) (rAdd (e := 0) (f := 99) (rMulL (n := 10) (e := 0) (f := 90) h14 rfl) h29 rfl) rfl) (rW (c := (-1)) (d := 2) h38 rfl) fun μ43 u44 T45 => ?_
      refine sv_aload_n (pc := 57) dX12_announce_57 rfl rfl ?_
      refine mr_iload_n (pc := 58) (z := p1) dX12_announce_58 rfl rfl ?_
      refine mr_iload_n (pc := 59) (z := p2) dX12_announce_59 rfl rfl ?_
      refine mr_cVV (pc := 60) (c_X12_look_W hw T45 h14 h29 (G1.keep hIG1 hw ((mF.up mF.refl (A_162 hw) u44 rfl) : mF [162999] w μ μ43) rfl rfl ((mG.upO mG.refl u44 rfl) : mG [] μ μ43) (fun _ h => absurd h List.not_mem_nil)) (EV.keep hIEV hw ((mF.up mF.refl (A_162 hw) u44 rfl) : mF [162999] w μ μ43) rfl) (PK.keep hIPK hw ((mF.up mF.refl (A_162 hw) u44 rfl) : mF [162999] w μ μ43) rfl) (((((h33.2.2.2.1 h33.1).1 h35) z39 q40 h41).1 h42) μ43 u44 T45)) (gOk _ _ _ _ _) dX12_announce_60 (tX12_look _ _ _ _ _) ⟨wV_X12_look, wL_X12_look⟩ wM_X12_597 (gCX12 _ _ _ _ _) rfl (A_106 hw) rfl ⟨le_t rfl, le_t rfl⟩ ⟨le_t rfl, le_t rfl⟩ rfl (le_t rfl) fun μ46 T47 F48 h49 => ?_
      refine mr_iconst (pc := 63) (z := 0) dX12_announce_63 ?_
      exact mr_iret dX12_announce_64 rfl (le_t rfl) (le_t rfl) T47 (mF.call (mF.up mF.refl (A_162 hw) u44 rfl) F48 rfl) ⟨(rW (c := (-2147483648)) (d := 2147483647) (rR (x := 0)) rfl), h49.2.1, h49.2.2.1, (h49.2.2.2.1 T47 F48), trivial⟩
    have h50 : 0 ≤ z39 ∧ z39 ≤ 2 := (vc_X12_announce_W_15 h42 h33.2.1 h33.2.2.1 h37 h38 h36 h41)
    refine mr_bipush (pc := 46) (z := (-2)) dX12_announce_46 (by decide) ?_
    exact mr_iret dX12_announce_48 rfl (le_t rfl) (le_t rfl) hT mF.refl ⟨(rW (c := (-2147483648)) (d := 2147483647) (rR (x := (-2))) rfl), hIG1, hIEV, ((((h33.2.2.2.1 h33.1).1 h35) z39 q40 h41).2 h42), trivial⟩
  have h51 : 0 ≤ z34 ∧ z34 ≤ 0 := (vc_X12_units_9 h35 h33.2.1 h33.2.2.1 hp3 h33.1)
  have h52 : p3 < (0 : Int) ∨ (2 : Int) < p3 := (h33.2.2.1 (vc_X12_units_10 h33.2.1 h33.2.2.1 h35 hp3 h51))
  refine mr_iconst (pc := 25) (z := (-1)) dX12_announce_25 ?_
  exact mr_iret dX12_announce_26 rfl (le_t rfl) (le_t rfl) hT mF.refl ⟨(rW (c := (-2147483648)) (d := 2147483647) (rR (x := (-1))) rfl), hIG1, hIEV, ((h33.2.2.2.1 h33.1).2 h35), trivial⟩
def WP_X11_withdraw_W (w : mW) (μ : mM) (p1 : Int) (p2 : Int) (Q : Int → mM → Prop) : Prop := ∀ z1 : Int, μ 6 15 = z1 → (z1 = w.2.2.2 0 ∧ 0 ≤ z1 ∧ z1 ≤ 10) → WP_X11_isDomain_W w μ p1 (fun z8 _ => (0 ≤ z8 ∧ z8 ≤ 1) → ((z8 = 0) → Q ((-1) : Int) μ) ∧ ((¬ z8 = 0) → ∀ z16 : Int, μ 6 14 = z16 → (0 ≤ z16 ∧ z16 ≤ 10) → WP_X11_isPrefix_W w μ p2 (fun z23 _ => (0 ≤ z23 ∧ z23 ≤ 1) → ((¬ z23 = 0) → ∀ b28 : Nat, μ 10 (p1.toNat) = (b28 : Int) → mAt w b28 210 → ∀ z32 : Int, μ (b28 + 2) (p2.toNat) = z32 → ((-1) ≤ z32 ∧ z32 ≤ 2) → ((¬ z32 = (-1)) → ∀ μ38 : mM, mU μ (b28 + 2) (p2.toNat) ((-1) : Int) μ38 → mT w μ38 → WP_X8_look_W w μ38 p1 p2 (fun μ41 => mT w μ41 → mF [21002, 21003, 21004, 21005, 21006, 21007, 32009, 32010, 33999, 34999, 66999, 200002, 200003, 200004, 200005, 200006, 200007, 200008, 200009, 200010, 200011, 201999, 202999, 213999] w μ38 μ41 → Q (0 : Int) μ41)) ∧ ((z32 = (-1)) → Q ((-2) : Int) μ)) ∧ ((z23 = 0) → Q ((-1) : Int) μ))))
set_option maxRecDepth 4000 in
set_option maxHeartbeats 4000000 in
theorem c_X11_withdraw_W {l : Launch} {D : va_G} {c : Nat → ClassId} {H0 : Heap} {sa : Nat × Nat × (Nat → Int32)} {w : mW} {μ : mM} (hw : mWF w) (hT : mT w μ) {p1 : Int} (hp1 : (-2147483648) ≤ p1 ∧ p1 ≤ 2147483647) {p2 : Int} (hp2 : (-2147483648) ≤ p2 ∧ p2 ≤ 2147483647) (hIPC : PC w μ) {Q : Int → mM → Prop} (hQ : WP_X11_withdraw_W w μ p1 p2 Q) : sC (gG l D c H0 sa) mX11_withdraw 43 0 0 [.ref 0, iv p1, iv p2] (mk w μ) (qI w [21002, 21003, 21004, 21005, 21006, 21007, 32009, 32010, 33999, 34999, 66999, 200002, 200003, 200004, 200005, 200006, 200007, 200008, 200009, 200010, 200011, 201999, 202999, 212999, 213999] μ (fun z μ1 => ((-2147483648) ≤ z ∧ z ≤ 2147483647) ∧ Q z μ1 ∧ True)) := by
  refine sC.of rfl (by decide) (le_t rfl) ?_
  refine mr_lvE (lv' := [(0, .ref 0), (1, iv p1), (2, iv p2)]) rfl ?_
  refine sv_aload_n (pc := 0) dX11_withdraw_0 rfl rfl ?_
  refine mr_iload_n (pc := 1) (z := p1) dX11_withdraw_1 rfl rfl ?_
  obtain ⟨z1, q2⟩ : ∃ z, μ 6 15 = z := ⟨_, rfl⟩
  have h3 : (z1 = w.2.2.2 0 ∧ 0 ≤ z1 ∧ z1 ≤ 10) := by rw [← q2]; exact hT 6 6 (A_6 hw) 15
  refine mr_cVP (pc := 2) (c_X11_isDomain_W hw hT hp1 q2 (hQ z1 q2 h3)) (gOk _ _ _ _ _) dX11_withdraw_2 (tX11_isDomain _ _ _ _ _) ⟨wV_X11_isDomain, wL_X11_isDomain⟩ wM_X11_105 (gCX11 _ _ _ _ _) rfl (A_0 hw) rfl ⟨le_t rfl, le_t rfl⟩ ⟨le_t rfl, le_t rfl⟩ rfl (le_t rfl) fun z8 h7 => ?_
  refine mr_if_eq (pc := 5) (tgt := 16) dX11_withdraw_5 (by decide) (r32 h7.1 rfl) (fun h9 => ?_) (fun h9 => ?_)
  · have h10 : 0 ≤ z8 ∧ z8 ≤ 0 := (vc_X12_write_78 h9 h7.2.1 h7.2.2.1 hp1 h3.2 h7.1)
    have h11 : p1 < 0 ∨ z1 ≤ p1 := (h7.2.2.1 (vc_X11_letter_2 h7.2.1 h7.2.2.1 h9 h3.1 hp1 h3.2 h10))
    refine mr_iconst (pc := 16) (z := (-1)) dX11_withdraw_16 ?_
    exact mr_iret dX11_withdraw_17 rfl (le_t rfl) (le_t rfl) hT mF.refl ⟨(rW (c := (-2147483648)) (d := 2147483647) (rR (x := (-1))) rfl), ((h7.2.2.2.1 h7.1).1 h9), trivial⟩
  have h12 : 1 ≤ z8 ∧ z8 ≤ 1 := (vc_X12_write_12 h9 h7.2.1 h7.2.2.1 hp1 h3.2 h7.1)
  have h13 : 0 ≤ p1 ∧ p1 < z1 := (h7.2.1 (vc_X11_letter_4 h7.2.1 h7.2.2.1 h9 h3.1 hp1 h3.2 h12))
  have h14 : 0 ≤ p1 ∧ p1 ≤ 9 := (vc_X11_letter_5 h13 h3.1 h7.2.1 h7.2.2.1 hp1 h3.2 h12)
  have h15 : 1 ≤ z1 ∧ z1 ≤ 10 := (vc_X11_letter_6 h13 h3.1 h7.2.1 h7.2.2.1 h14 h3.2 h12)
  refine sv_aload_n (pc := 8) dX11_withdraw_8 rfl rfl ?_
  refine mr_iload_n (pc := 9) (z := p2) dX11_withdraw_9 rfl rfl ?_
  obtain ⟨z16, q17⟩ : ∃ z, μ 6 14 = z := ⟨_, rfl⟩
  have h18 : (0 ≤ z16 ∧ z16 ≤ 10) := by rw [← q17]; exact hT 6 6 (A_6 hw) 14
  refine mr_cVP (pc := 10) (c_X11_isPrefix_W hw hT hp2 q17 (((h7.2.2.2.1 h7.1).2 h9) z16 q17 h18)) (gOk _ _ _ _ _) dX11_withdraw_10 (tX11_isPrefix _ _ _ _ _) ⟨wV_X11_isPrefix, wL_X11_isPrefix⟩ wM_X11_182 (gCX11 _ _ _ _ _) rfl (A_0 hw) rfl ⟨le_t rfl, le_t rfl⟩ ⟨le_t rfl, le_t rfl⟩ rfl (le_t rfl) fun z23 h22 => ?_
  refine mr_if_ne (pc := 13) (tgt := 18) dX11_withdraw_13 (by decide) (r32 h22.1 rfl) (fun h24 => ?_) (fun h24 => ?_)
  · have h25 : 1 ≤ z23 ∧ z23 ≤ 1 := (vc_X12_write_12 h24 h22.2.1 h22.2.2.1 hp2 h18 h22.1)
    have h26 : 0 ≤ p2 ∧ p2 < z16 := (h22.2.1 (vc_X12_write_13 h22.2.1 h22.2.2.1 h24 hp2 h18 h25))
    have h27 : 0 ≤ p2 ∧ p2 ≤ 9 := (vc_X12_write_14 h26 h22.2.1 h22.2.2.1 hp2 h18 h25)
    refine sv_aload_n (pc := 18) dX11_withdraw_18 rfl rfl ?_
    refine gf_X11_3 (pc := 19) dX11_withdraw_19 wF_X11_26 (A_0 hw) hT ?_
    refine gf_X10_3 (pc := 22) dX11_withdraw_22 wF_X11_283 (A_6 hw) hT ?_
    refine mr_iload_n (pc := 25) (z := p1) dX11_withdraw_25 rfl rfl ?_
    refine la_10 (pc := 26) dX11_withdraw_26 (A_10 hw) hT (rIx (n := 10) h14 rfl) (vc_X11_letter_7 h3.1 h7.2.1 h7.2.2.1 h13 h9 h14 h15 h12) fun b28 q29 A30 => ?_
    refine gf_X0_1 (pc := 27) dX11_withdraw_27 wF_X11_293 A30 hT fun A31 => ?_
    refine mr_iload_n (pc := 30) (z := p2) dX11_withdraw_30 rfl rfl ?_
    refine la_212 (pc := 31) dX11_withdraw_31 A31 hT (rIx (n := 10) h27 rfl) fun z32 q33 h34 => ?_
    refine mr_iconst (pc := 32) (z := (-1)) dX11_withdraw_32 ?_
    refine mr_icmp_ne (pc := 33) (tgt := 39) dX11_withdraw_33 (by decide) (r32 h34 rfl) (r32 (rR (x := (-1))) rfl) (fun h35 => ?_) (fun h35 => ?_)
    · have h36 : 0 ≤ z32 ∧ z32 ≤ 2 := (vc_X8_look_W_36 h35 h34)
      refine sv_aload_n (pc := 39) dX11_withdraw_39 rfl rfl ?_
      refine gf_X11_3 (pc := 40) dX11_withdraw_40 wF_X11_26 (A_0 hw) hT ?_
      refine gf_X10_3 (pc := 43) dX11_withdraw_43 wF_X11_283 (A_6 hw) hT ?_
      refine mr_iload_n (pc := 46) (z := p1) dX11_withdraw_46 rfl rfl ?_
      refine lk_10 (pc := 47) dX11_withdraw_47 (A_10 hw) (rIx (n := 10) h14 rfl) q29 ?_
      refine gf_X0_1 (pc := 48) dX11_withdraw_48 wF_X11_293 A30 hT fun A37 => ?_
      refine mr_iload_n (pc := 51) (z := p2) dX11_withdraw_51 rfl rfl ?_
      refine mr_iconst (pc := 52) (z := (-1)) dX11_withdraw_52 ?_
      refine ss_212 (pc := 53) dX11_withdraw_53 A37 hT (rIx (n := 10) h27 rfl) (rW (c := (-1)) (d := 2) (rR (x := (-1))) rfl) fun μ38 u39 T40 => ?_
      refine sv_aload_n (pc := 54) dX11_withdraw_54 rfl rfl ?_
      refine gf_X11_6 (pc := 55) dX11_withdraw_55 wF_X11_51 (A_0 hw) T40 ?_
      refine mr_iload_n (pc := 58) (z := p1) dX11_withdraw_58 rfl rfl ?_
      refine mr_iload_n (pc := 59) (z := p2) dX11_withdraw_59 rfl rfl ?_
      refine mr_cVV (pc := 60) (c_X8_look_W hw T40 h14 h27 (vc_X11_letter_7 h3.1 h7.2.1 h7.2.2.1 h13 h9 h14 h15 h12) (PC.keep hIPC hw ((mF.up mF.refl A37 u39 rfl) : mF [212999] w μ μ38) rfl) ((((((h22.2.2.2.1 h22.1).1 h24) b28 q29 A30) z32 q33 h34).1 h35) μ38 u39 T40)) (gOk _ _ _ _ _) dX11_withdraw_60 (tX8_look _ _ _ _ _) ⟨wV_X8_look, wL_X8_look⟩ wM_X11_296 (gCX8 _ _ _ _ _) rfl (A_32 hw) rfl ⟨le_t rfl, le_t rfl⟩ ⟨le_t rfl, le_t rfl⟩ rfl (le_t rfl) fun μ41 T42 F43 h44 => ?_
      refine mr_iconst (pc := 63) (z := 0) dX11_withdraw_63 ?_
      exact mr_iret dX11_withdraw_64 rfl (le_t rfl) (le_t rfl) T42 (mF.call (mF.up mF.refl A37 u39 rfl) F43 rfl) ⟨(rW (c := (-2147483648)) (d := 2147483647) (rR (x := 0)) rfl), (h44.1 T42 F43), trivial⟩
    have h45 : (-1) ≤ z32 ∧ z32 ≤ (-1) := (vc_X8_look_W_22 h35 h34)
    refine mr_bipush (pc := 36) (z := (-2)) dX11_withdraw_36 (by decide) ?_
    exact mr_iret dX11_withdraw_38 rfl (le_t rfl) (le_t rfl) hT mF.refl ⟨(rW (c := (-2147483648)) (d := 2147483647) (rR (x := (-2))) rfl), (((((h22.2.2.2.1 h22.1).1 h24) b28 q29 A30) z32 q33 h34).2 h35), trivial⟩
  have h46 : 0 ≤ z23 ∧ z23 ≤ 0 := (vc_X12_write_78 h24 h22.2.1 h22.2.2.1 hp2 h18 h22.1)
  have h47 : p2 < 0 ∨ z16 ≤ p2 := (h22.2.2.1 (vc_X12_write_79 h22.2.1 h22.2.2.1 h24 hp2 h18 h46))
  refine mr_iconst (pc := 16) (z := (-1)) dX11_withdraw_16 ?_
  exact mr_iret dX11_withdraw_17 rfl (le_t rfl) (le_t rfl) hT mF.refl ⟨(rW (c := (-2147483648)) (d := 2147483647) (rR (x := (-1))) rfl), ((h22.2.2.2.1 h22.1).2 h24), trivial⟩
def WP_X12_withdraw_W (w : mW) (μ : mM) (p1 : Int) (p2 : Int) (Q : Int → mM → Prop) : Prop := ∀ z1 : Int, μ 106 5 = z1 → (0 ≤ z1 ∧ z1 ≤ 10) → WP_X12_isDomain_W w μ p1 (fun z8 _ => (0 ≤ z8 ∧ z8 ≤ 1) → ((z8 = 0) → Q ((-1) : Int) μ) ∧ ((¬ z8 = 0) → ∀ z16 : Int, μ 106 2 = z16 → (0 ≤ z16 ∧ z16 ≤ 10) → WP_X12_isPrefix_W w μ p2 (fun z23 _ => (0 ≤ z23 ∧ z23 ≤ 1) → ((¬ z23 = 0) → ∀ z28 : Int, μ 162 (((10 * p1) + p2).toNat) = z28 → ((-1) ≤ z28 ∧ z28 ≤ 2) → ((0 ≤ z28) → ∀ μ33 : mM, mU μ 162 (((10 * p1) + p2).toNat) ((-1) : Int) μ33 → mT w μ33 → WP_X12_look_W w μ33 p1 p2 (fun μ36 => mT w μ36 → mF [106026, 106027, 106028, 106029, 106030, 106031, 106072, 126999, 151999, 152999, 153999, 155999, 156999, 157999, 158999, 159999, 160999, 161999, 165999] w μ33 μ36 → Q (0 : Int) μ36)) ∧ ((z28 < 0) → Q ((-2) : Int) μ)) ∧ ((z23 = 0) → Q ((-1) : Int) μ))))
set_option maxRecDepth 4000 in
set_option maxHeartbeats 4000000 in
theorem c_X12_withdraw_W {l : Launch} {D : va_G} {c : Nat → ClassId} {H0 : Heap} {sa : Nat × Nat × (Nat → Int32)} {w : mW} {μ : mM} (hw : mWF w) (hT : mT w μ) {p1 : Int} (hp1 : (-2147483648) ≤ p1 ∧ p1 ≤ 2147483647) {p2 : Int} (hp2 : (-2147483648) ≤ p2 ∧ p2 ≤ 2147483647) (hIG1 : G1 μ) (hIEV : EV μ) (hIPK : PK μ) {Q : Int → mM → Prop} (hQ : WP_X12_withdraw_W w μ p1 p2 Q) : sC (gG l D c H0 sa) mX12_withdraw 11 0 0 [.ref 106, iv p1, iv p2] (mk w μ) (qI w [106026, 106027, 106028, 106029, 106030, 106031, 106072, 126999, 151999, 152999, 153999, 155999, 156999, 157999, 158999, 159999, 160999, 161999, 162999, 165999] μ (fun z μ1 => ((-2147483648) ≤ z ∧ z ≤ 2147483647) ∧ G1 μ1 ∧ EV μ1 ∧ Q z μ1 ∧ True)) := by
  refine sC.of rfl (by decide) (le_t rfl) ?_
  refine mr_lvE (lv' := [(0, .ref 106), (1, iv p1), (2, iv p2)]) rfl ?_
  refine sv_aload_n (pc := 0) dX12_withdraw_0 rfl rfl ?_
  refine mr_iload_n (pc := 1) (z := p1) dX12_withdraw_1 rfl rfl ?_
  obtain ⟨z1, q2⟩ : ∃ z, μ 106 5 = z := ⟨_, rfl⟩
  have h3 : (0 ≤ z1 ∧ z1 ≤ 10) := by rw [← q2]; exact hT 106 106 (A_106 hw) 5
  refine mr_cVP (pc := 2) (c_X12_isDomain_W hw hT hp1 q2 (hQ z1 q2 h3)) (gOk _ _ _ _ _) dX12_withdraw_2 (tX12_isDomain _ _ _ _ _) ⟨wV_X12_isDomain, wL_X12_isDomain⟩ wM_X12_49 (gCX12 _ _ _ _ _) rfl (A_106 hw) rfl ⟨le_t rfl, le_t rfl⟩ ⟨le_t rfl, le_t rfl⟩ rfl (le_t rfl) fun z8 h7 => ?_
  refine mr_if_eq (pc := 5) (tgt := 16) dX12_withdraw_5 (by decide) (r32 h7.1 rfl) (fun h9 => ?_) (fun h9 => ?_)
  · have h10 : 0 ≤ z8 ∧ z8 ≤ 0 := (vc_X12_write_78 h9 h7.2.1 h7.2.2.1 hp1 h3 h7.1)
    have h11 : p1 < 0 ∨ z1 ≤ p1 := (h7.2.2.1 (vc_X12_write_79 h7.2.1 h7.2.2.1 h9 hp1 h3 h10))
    refine mr_iconst (pc := 16) (z := (-1)) dX12_withdraw_16 ?_
    exact mr_iret dX12_withdraw_17 rfl (le_t rfl) (le_t rfl) hT mF.refl ⟨(rW (c := (-2147483648)) (d := 2147483647) (rR (x := (-1))) rfl), hIG1, hIEV, ((h7.2.2.2.1 h7.1).1 h9), trivial⟩
  have h12 : 1 ≤ z8 ∧ z8 ≤ 1 := (vc_X12_write_12 h9 h7.2.1 h7.2.2.1 hp1 h3 h7.1)
  have h13 : 0 ≤ p1 ∧ p1 < z1 := (h7.2.1 (vc_X12_write_13 h7.2.1 h7.2.2.1 h9 hp1 h3 h12))
  have h14 : 0 ≤ p1 ∧ p1 ≤ 9 := (vc_X12_write_14 h13 h7.2.1 h7.2.2.1 hp1 h3 h12)
  have h15 : 1 ≤ z1 ∧ z1 ≤ 10 := (vc_X12_write_15 h13 h7.2.1 h7.2.2.1 h14 h3 h12)
  refine sv_aload_n (pc := 8) dX12_withdraw_8 rfl rfl ?_
  refine mr_iload_n (pc := 9) (z := p2) dX12_withdraw_9 rfl rfl ?_
  obtain ⟨z16, q17⟩ : ∃ z, μ 106 2 = z := ⟨_, rfl⟩
  have h18 : (0 ≤ z16 ∧ z16 ≤ 10) := by rw [← q17]; exact hT 106 106 (A_106 hw) 2
  refine mr_cVP (pc := 10) (c_X12_isPrefix_W hw hT hp2 q17 (((h7.2.2.2.1 h7.1).2 h9) z16 q17 h18)) (gOk _ _ _ _ _) dX12_withdraw_10 (tX12_isPrefix _ _ _ _ _) ⟨wV_X12_isPrefix, wL_X12_isPrefix⟩ wM_X12_92 (gCX12 _ _ _ _ _) rfl (A_106 hw) rfl ⟨le_t rfl, le_t rfl⟩ ⟨le_t rfl, le_t rfl⟩ rfl (le_t rfl) fun z23 h22 => ?_
  refine mr_if_ne (pc := 13) (tgt := 18) dX12_withdraw_13 (by decide) (r32 h22.1 rfl) (fun h24 => ?_) (fun h24 => ?_)
  · have h25 : 1 ≤ z23 ∧ z23 ≤ 1 := (vc_X12_write_12 h24 h22.2.1 h22.2.2.1 hp2 h18 h22.1)
    have h26 : 0 ≤ p2 ∧ p2 < z16 := (h22.2.1 (vc_X12_write_13 h22.2.1 h22.2.2.1 h24 hp2 h18 h25))
    have h27 : 0 ≤ p2 ∧ p2 ≤ 9 := (vc_X12_write_14 h26 h22.2.1 h22.2.2.1 hp2 h18 h25)
    refine sv_aload_n (pc := 18) dX12_withdraw_18 rfl rfl ?_
    refine gf_X12_82 (pc := 19) dX12_withdraw_19 wF_X12_448 (A_106 hw) hT ?_
    refine mr_bipush (pc := 22) (z := 10) dX12_withdraw_22 (by decide) ?_
    refine mr_iload_n (pc := 24) (z := p1) dX12_withdraw_24 rfl rfl ?_
    refine mr_imul (pc := 25) (x := 10) (y := p1) dX12_withdraw_25 ?_
    refine mr_iload_n (pc := 26) (z := p2) dX12_withdraw_26 rfl rfl ?_
    refine mr_iadd (pc := 27) (x := (10 * p1)) (y := p2) dX12_withdraw_27 ?_
    refine la_162 (pc := 28) dX12_withdraw_28 (A_162 hw) hT (rIx (n := 100) (rAdd (e := 0) (f := 99) (rMulL (n := 10) (e := 0) (f := 90) h14 rfl) h27 rfl) rfl) fun z28 q29 h30 => ?_
    refine mr_if_ge (pc := 29) (tgt := 35) dX12_withdraw_29 (by decide) (r32 h30 rfl) (fun h31 => ?_) (fun h31 => ?_)
    · have h32 : 0 ≤ z28 ∧ z28 ≤ 2 := (vc_X12_look_W_75 h31 h30)
      refine sv_aload_n (pc := 35) dX12_withdraw_35 rfl rfl ?_
      refine gf_X12_82 (pc := 36) dX12_withdraw_36 wF_X12_448 (A_106 hw) hT ?_
      refine mr_bipush (pc := 39) (z := 10) dX12_withdraw_39 (by decide) ?_
      refine mr_iload_n (pc := 41) (z := p1) dX12_withdraw_41 rfl rfl ?_
      refine mr_imul (pc := 42) (x := 10) (y := p1) dX12_withdraw_42 ?_
      refine mr_iload_n (pc := 43) (z := p2) dX12_withdraw_43 rfl rfl ?_
      refine mr_iadd (pc := 44) (x := (10 * p1)) (y := p2) dX12_withdraw_44 ?_
      refine mr_iconst (pc := 45) (z := (-1)) dX12_withdraw_45 ?_
      refine ss_162 (pc := 46) dX12_withdraw_46 (A_162 hw) hT (rIx (n := 100) (rAdd (e := 0) (f := 99) (rMulL (n := 10) (e := 0) (f := 90) h14 rfl) h27 rfl) rfl) (rW (c := (-1)) (d := 2) (rR (x := (-1))) rfl) fun μ33 u34 T35 => ?_
      refine sv_aload_n (pc := 47) dX12_withdraw_47 rfl rfl ?_
      refine mr_iload_n (pc := 48) (z := p1) dX12_withdraw_48 rfl rfl ?_
      refine mr_iload_n (pc := 49) (z := p2) dX12_withdraw_49 rfl rfl ?_
      refine mr_cVV (pc := 50) (c_X12_look_W hw T35 h14 h27 (G1.keep hIG1 hw ((mF.up mF.refl (A_162 hw) u34 rfl) : mF [162999] w μ μ33) rfl rfl ((mG.upO mG.refl u34 rfl) : mG [] μ μ33) (fun _ h => absurd h List.not_mem_nil)) (EV.keep hIEV hw ((mF.up mF.refl (A_162 hw) u34 rfl) : mF [162999] w μ μ33) rfl) (PK.keep hIPK hw ((mF.up mF.refl (A_162 hw) u34 rfl) : mF [162999] w μ μ33) rfl) (((((h22.2.2.2.1 h22.1).1 h24) z28 q29 h30).1 h31) μ33 u34 T35)) (gOk _ _ _ _ _) dX12_withdraw_50 (tX12_look _ _ _ _ _) ⟨wV_X12_look, wL_X12_look⟩ wM_X12_597 (gCX12 _ _ _ _ _) rfl (A_106 hw) rfl ⟨le_t rfl, le_t rfl⟩ ⟨le_t rfl, le_t rfl⟩ rfl (le_t rfl) fun μ36 T37 F38 h39 => ?_
      refine mr_iconst (pc := 53) (z := 0) dX12_withdraw_53 ?_
      exact mr_iret dX12_withdraw_54 rfl (le_t rfl) (le_t rfl) T37 (mF.call (mF.up mF.refl (A_162 hw) u34 rfl) F38 rfl) ⟨(rW (c := (-2147483648)) (d := 2147483647) (rR (x := 0)) rfl), h39.2.1, h39.2.2.1, (h39.2.2.2.1 T37 F38), trivial⟩
    have h40 : (-1) ≤ z28 ∧ z28 ≤ (-1) := (vc_X12_look_W_48 h31 h30)
    refine mr_bipush (pc := 32) (z := (-2)) dX12_withdraw_32 (by decide) ?_
    exact mr_iret dX12_withdraw_34 rfl (le_t rfl) (le_t rfl) hT mF.refl ⟨(rW (c := (-2147483648)) (d := 2147483647) (rR (x := (-2))) rfl), hIG1, hIEV, ((((h22.2.2.2.1 h22.1).1 h24) z28 q29 h30).2 h31), trivial⟩
  have h41 : 0 ≤ z23 ∧ z23 ≤ 0 := (vc_X12_write_78 h24 h22.2.1 h22.2.2.1 hp2 h18 h22.1)
  have h42 : p2 < 0 ∨ z16 ≤ p2 := (h22.2.2.1 (vc_X12_write_79 h22.2.1 h22.2.2.1 h24 hp2 h18 h41))
  refine mr_iconst (pc := 16) (z := (-1)) dX12_withdraw_16 ?_
  exact mr_iret dX12_withdraw_17 rfl (le_t rfl) (le_t rfl) hT mF.refl ⟨(rW (c := (-2147483648)) (d := 2147483647) (rR (x := (-1))) rfl), hIG1, hIEV, ((h22.2.2.2.1 h22.1).2 h24), trivial⟩
def WL_X8_silence_W_2 (w : mW) (Q : mM → Prop) (μ230 : mM) (z269 : Int) (rec2 : (Int × mM) → Prop) (s : (Int × mM)) : Prop := ∀ z311 : Int, ∀ μ312 : mM, s = (z311, μ312) → (0 ≤ z311 ∧ z311 ≤ 800) → mT w μ312 → mF [32010, 33999, 34999] w μ230 μ312 → ((z269 ≤ z311) → Q μ312) ∧ ((z311 < z269) → WP_X8_cancel_W w μ312 z311 (fun μ330 => mT w μ330 → mF [32010, 33999, 34999] w μ312 μ330 → rec2 ((z311 + 1), μ330)))
def WL_X8_silence_W_1 (w : mW) (p1 : Int) (Q : mM → Prop) (b1 : Nat) (μ4 : mM) (rec1 : (Int × mM) → Prop) (s : (Int × mM)) : Prop := ∀ z229 : Int, ∀ μ230 : mM, s = (z229, μ230) → (0 ≤ z229 ∧ z229 ≤ 20) → mT w μ230 → mF [200002, 200009] w μ4 μ230 → ((20 ≤ z229) → WP_X8_slotOf_W w μ230 p1 (0) (0) (0) (fun z263 _ => (0 ≤ z263 ∧ z263 ≤ 839) → WP_X8_slotOf_W w μ230 (p1 + 1) (0) (0) (0) (fun z269 _ => (0 ≤ z269 ∧ z269 ≤ 839) → loopF (WL_X8_silence_W_2 w Q μ230 z269) False 802 (z263, μ230)))) ∧ ((z229 < 20) → ∀ b336 : Nat, μ230 (b1 + 2) (z229.toNat) = (b336 : Int) → mAt w b336 200 → WP_X7_vanish_W w μ230 b336 (fun μ339 => mT w μ339 → mF [200002, 200009] w μ230 μ339 → ∀ b344 : Nat, μ339 (b1 + 3) (z229.toNat) = (b344 : Int) → mAt w b344 200 → WP_X7_vanish_W w μ339 b344 (fun μ347 => mT w μ347 → mF [200002, 200009] w μ339 μ347 → rec1 ((z229 + 1), μ347))))
def WP_X8_silence_W (w : mW) (μ : mM) (p1 : Int) (Q : mM → Prop) : Prop := ∀ b1 : Nat, μ 11 (p1.toNat) = (b1 : Int) → mAt w b1 220 → ∀ μ4 : mM, mU μ b1 (6) (0 : Int) μ4 → mT w μ4 → loopF (WL_X8_silence_W_1 w p1 Q b1 μ4) False 22 ((0 : Int), μ4)
theorem vc_X8_silence_W_4 {n1 p1 z263 : Int} (h0 : z263 = ((((40 * p1) + (20 * 0)) + (2 * 0)) + 0)) (h1 : p1 < n1) (h2 : 0 ≤ p1 ∧ p1 ≤ 19) (h3 : 0 ≤ z263 ∧ z263 ≤ 839) : 0 ≤ z263 ∧ z263 ≤ 760 := by omega
theorem vc_X8_silence_W_5 {n1 p1 z263 z269 : Int} (h0 : z269 = ((((40 * (p1 + 1)) + (20 * 0)) + (2 * 0)) + 0)) (h1 : p1 < n1) (h2 : z263 = ((((40 * p1) + (20 * 0)) + (2 * 0)) + 0)) (h3 : 0 ≤ p1 ∧ p1 ≤ 19) (h4 : 0 ≤ z263 ∧ z263 ≤ 760) (h5 : 0 ≤ z269 ∧ z269 ≤ 839) : 40 ≤ z269 ∧ z269 ≤ 800 := by omega
theorem vc_X8_silence_W_7 {p1 z269 z311 : Int} (h0 : z269 ≤ z311) (h1 : z269 = ((((40 * (p1 + 1)) + (20 * 0)) + (2 * 0)) + 0)) (h2 : 0 ≤ p1 ∧ p1 ≤ 19) (h3 : 40 ≤ z269 ∧ z269 ≤ 800) (h4 : 0 ≤ z311 ∧ z311 ≤ 800) : 40 ≤ z311 ∧ z311 ≤ 800 := by omega
theorem vc_X8_silence_W_8 {p1 z269 z311 : Int} (h0 : z311 < z269) (h1 : z269 = ((((40 * (p1 + 1)) + (20 * 0)) + (2 * 0)) + 0)) (h2 : 0 ≤ p1 ∧ p1 ≤ 19) (h3 : 40 ≤ z269 ∧ z269 ≤ 800) (h4 : 0 ≤ z311 ∧ z311 ≤ 800) : 0 ≤ z311 ∧ z311 ≤ 799 := by omega
theorem vc_X8_silence_W_9 {N p1 z269 z311 : Int} (h0 : (801 - z311) < N + 1) (h1 : z311 < z269) (h2 : z269 = ((((40 * (p1 + 1)) + (20 * 0)) + (2 * 0)) + 0)) (h3 : 0 ≤ p1 ∧ p1 ≤ 19) (h4 : 40 ≤ z269 ∧ z269 ≤ 800) (h5 : 0 ≤ z311 ∧ z311 ≤ 799) : (801 - (z311 + 1)) < N := by omega
theorem vc_X8_silence_W_10 {n1 p1 z263 z269 : Int} (h0 : z263 = ((((40 * p1) + (20 * 0)) + (2 * 0)) + 0)) (h1 : p1 < n1) (h2 : z269 = ((((40 * (p1 + 1)) + (20 * 0)) + (2 * 0)) + 0)) (h3 : 0 ≤ p1 ∧ p1 ≤ 19) (h4 : 0 ≤ z263 ∧ z263 ≤ 760) (h5 : 40 ≤ z269 ∧ z269 ≤ 800) : (801 - z263) < ((802 : Nat) : Int) := by omega
theorem vc_X8_silence_W_12 {N z229 : Int} (h0 : (21 - z229) < N + 1) (h1 : z229 < 20) (h2 : 0 ≤ z229 ∧ z229 ≤ 19) : (21 - (z229 + 1)) < N := by omega
set_option maxRecDepth 4000 in
set_option maxHeartbeats 4000000 in
theorem c_X8_silence_W {l : Launch} {D : va_G} {c : Nat → ClassId} {H0 : Heap} {sa : Nat × Nat × (Nat → Int32)} {w : mW} {μ : mM} (hw : mWF w) (hT : mT w μ) {p1 : Int} (hp1 : 0 ≤ p1 ∧ p1 ≤ 19) (hq0 : p1 < w.2.2.2 1) {Q : mM → Prop} (hQ : WP_X8_silence_W w μ p1 Q) : sC (gG l D c H0 sa) mX8_silence 4 0 0 [.ref 32, iv p1] (mk w μ) (qV w [32010, 33999, 34999, 200002, 200009, 220006] μ (fun μ1 => Q μ1 ∧ True)) := by
  refine sC.of rfl (by decide) (le_t rfl) ?_
  refine mr_lvE (lv' := [(0, .ref 32), (1, iv p1)]) rfl ?_
  refine sv_aload_n (pc := 0) dX8_silence_0 rfl rfl ?_
  refine gf_X8_0 (pc := 1) dX8_silence_1 wF_X8_9 (A_32 hw) hT ?_
  refine gf_X10_4 (pc := 4) dX8_silence_4 wF_X8_76 (A_6 hw) hT ?_
  refine mr_iload_n (pc := 7) (z := p1) dX8_silence_7 rfl rfl ?_
  refine la_11 (pc := 8) dX8_silence_8 (A_11 hw) hT (rIx (n := 20) hp1 rfl) (vc_X8_say_W_1 hq0 hp1) fun b1 q2 A3 => ?_
  refine mr_astore_n (pc := 9) (lv' := [(2, .ref b1), (0, .ref 32), (1, iv p1)]) dX8_silence_9 rfl (by decide) rfl ?_
  refine sv_aload_n (pc := 10) dX8_silence_10 rfl rfl ?_
  refine mr_iconst (pc := 11) (z := 0) dX8_silence_11 ?_
  refine pf_X9_6 (pc := 12) dX8_silence_12 wF_X8_136 A3 hT (rW (c := 0) (d := 1) (rR (x := 0)) rfl) fun μ4 u5 T6 => ?_
  refine mr_iconst (pc := 15) (z := 0) dX8_silence_15 ?_
  refine mr_istore_n (pc := 16) (lv' := [(3, iv 0), (2, .ref b1), (0, .ref 32), (1, iv p1)]) dX8_silence_16 rfl (by decide) rfl ?_
  have L231 : ∀ (nL231 : Nat) (z229 : Int) (μ230 : mM), mT w μ230 → mF [200002, 200009] w μ4 μ230 → (0 ≤ z229 ∧ z229 ≤ 20) → (21 - z229) < (nL231 : Int) → loopF (WL_X8_silence_W_1 w p1 Q b1 μ4) False nL231 (z229, μ230) → sV (gG l D c H0 sa) mX8_silence (sRm 4 0 0) (sZ (gG l D c H0 sa) 0 0 (qV w [32010, 33999, 34999, 200002, 200009, 220006] μ (fun μ1 => Q μ1 ∧ True))) 17 [(0, .ref 32), (1, iv p1), (2, .ref b1), (3, iv z229)] [] (mk w μ230) 0 0 := by
    intro nL231
    induction nL231 with
    | zero => intro z229 μ230 T233 F234 h232 h236 W237; exact ((vc_X12_tieOf_1 h236 h232)).elim
    | succ nL231 ih238 =>
      intro z229 μ230 T233 F234 h232 h236 W237
      refine mr_iload_n (pc := 17) (z := z229) dX8_silence_17 rfl rfl ?_
      refine mr_bipush (pc := 18) (z := 20) dX8_silence_18 (by decide) ?_
      refine mr_icmp_ge (pc := 20) (tgt := 47) dX8_silence_20 (by decide) (r32 h232 rfl) (r32 (rR (x := 20)) rfl) (fun h257 => ?_) (fun h257 => ?_)
      · have h258 : 20 ≤ z229 ∧ z229 ≤ 20 := (vc_X12_feed_3 h257 h232)
        refine mr_iload_n (pc := 47) (z := p1) dX8_silence_47 rfl rfl ?_
        refine mr_iconst (pc := 48) (z := 0) dX8_silence_48 ?_
        refine mr_iconst (pc := 49) (z := 0) dX8_silence_49 ?_
        refine mr_iconst (pc := 50) (z := 0) dX8_silence_50 ?_
        refine mr_cSP (pc := 51) (c_X8_slotOf_W hw T233 (rW (c := 0) (d := 20) hp1 rfl) (rW (c := 0) (d := 1) (rR (x := 0)) rfl) (rW (c := 0) (d := 9) (rR (x := 0)) rfl) (rW (c := 0) (d := 1) (rR (x := 0)) rfl) ((W237 z229 μ230 rfl h232 T233 F234).1 h257)) (gOk _ _ _ _ _) dX8_silence_51 (tX8_slotOf _ _ _ _ _) wS_X8_slotOf wM_X8_143 ⟨le_t rfl, le_t rfl⟩ ⟨le_t rfl, le_t rfl⟩ rfl (le_t rfl) fun z263 h262 => ?_
        have h264 : 0 ≤ z263 ∧ z263 ≤ 760 := (vc_X8_silence_W_4 h262.2.1 hq0 hp1 h262.1)
        refine mr_istore_n (pc := 54) (lv' := [(3, iv z263), (0, .ref 32), (1, iv p1), (2, .ref b1)]) dX8_silence_54 rfl (by decide) rfl ?_
        refine mr_iload_n (pc := 55) (z := p1) dX8_silence_55 rfl rfl ?_
        refine mr_iconst (pc := 56) (z := 1) dX8_silence_56 ?_
        refine mr_iadd (pc := 57) (x := p1) (y := 1) dX8_silence_57 ?_
        refine mr_iconst (pc := 58) (z := 0) dX8_silence_58 ?_
        refine mr_iconst (pc := 59) (z := 0) dX8_silence_59 ?_
        refine mr_iconst (pc := 60) (z := 0) dX8_silence_60 ?_
        refine mr_cSP (pc := 61) (c_X8_slotOf_W hw T233 (rW (c := 0) (d := 20) (rAdd (e := 1) (f := 20) hp1 (rR (x := 1)) rfl) rfl) (rW (c := 0) (d := 1) (rR (x := 0)) rfl) (rW (c := 0) (d := 9) (rR (x := 0)) rfl) (rW (c := 0) (d := 1) (rR (x := 0)) rfl) (h262.2.2.1 h262.1)) (gOk _ _ _ _ _) dX8_silence_61 (tX8_slotOf _ _ _ _ _) wS_X8_slotOf wM_X8_143 ⟨le_t rfl, le_t rfl⟩ ⟨le_t rfl, le_t rfl⟩ rfl (le_t rfl) fun z269 h268 => ?_
        have h270 : 40 ≤ z269 ∧ z269 ≤ 800 := (vc_X8_silence_W_5 h268.2.1 hq0 h262.2.1 hp1 h264 h268.1)
        refine mr_istore (pc := 64) (lv' := [(4, iv z269), (3, iv z263), (0, .ref 32), (1, iv p1), (2, .ref b1)]) dX8_silence_64 (by decide) rfl ?_
        refine mr_iload_n (pc := 66) (z := z263) dX8_silence_66 rfl rfl ?_
        refine mr_istore (pc := 67) (lv' := [(5, iv z263), (4, iv z269), (3, iv z263), (0, .ref 32), (1, iv p1), (2, .ref b1)]) dX8_silence_67 (by decide) rfl ?_
        have L313 : ∀ (nL313 : Nat) (z311 : Int) (μ312 : mM), mT w μ312 → mF [32010, 33999, 34999] w μ230 μ312 → (0 ≤ z311 ∧ z311 ≤ 800) → (801 - z311) < (nL313 : Int) → loopF (WL_X8_silence_W_2 w Q μ230 z269) False nL313 (z311, μ312) → sV (gG l D c H0 sa) mX8_silence (sRm 4 0 0) (sZ (gG l D c H0 sa) 0 0 (qV w [32010, 33999, 34999, 200002, 200009, 220006] μ (fun μ1 => Q μ1 ∧ True))) 69 [(0, .ref 32), (4, iv z269), (5, iv z311)] [] (mk w μ312) 0 0 := by
          intro nL313
          induction nL313 with
          | zero => intro z311 μ312 T315 F316 h314 h318 W319; exact ((vc_X8_cancel_W_2 h318 h314)).elim
          | succ nL313 ih320 =>
            intro z311 μ312 T315 F316 h314 h318 W319
            refine mr_iload (pc := 69) (z := z311) dX8_silence_69 rfl ?_
            refine mr_iload (pc := 71) (z := z269) dX8_silence_71 rfl ?_
            refine mr_icmp_ge (pc := 73) (tgt := 88) dX8_silence_73 (by decide) (r32 h314 rfl) (r32 h270 rfl) (fun h327 => ?_) (fun h327 => ?_)
            · have h328 : 40 ≤ z311 ∧ z311 ≤ 800 := (vc_X8_silence_W_7 h327 h268.2.1 hp1 h270 h314)
              exact mr_vret dX8_silence_88 rfl (le_t rfl) (le_t rfl) T315 (mF.call (mF.call (mF.up mF.refl A3 u5 rfl) F234 rfl) F316 rfl) ⟨((W319 z311 μ312 rfl h314 T315 F316).1 h327), trivial⟩
            have h329 : 0 ≤ z311 ∧ z311 ≤ 799 := (vc_X8_silence_W_8 h327 h268.2.1 hp1 h270 h314)
            refine sv_aload_n (pc := 76) dX8_silence_76 rfl rfl ?_
            refine mr_iload (pc := 77) (z := z311) dX8_silence_77 rfl ?_
            refine mr_cVV (pc := 79) (c_X8_cancel_W hw T315 h329 ((W319 z311 μ312 rfl h314 T315 F316).2 h327)) (gOk _ _ _ _ _) dX8_silence_79 (tX8_cancel _ _ _ _ _) ⟨wV_X8_cancel, wL_X8_cancel⟩ wM_X8_65 (gCX8 _ _ _ _ _) rfl (A_32 hw) rfl ⟨le_t rfl, le_t rfl⟩ ⟨le_t rfl, le_t rfl⟩ rfl (le_t rfl) fun μ330 T331 F332 h333 => ?_
            refine mr_iinc (pc := 82) (lv' := [(5, iv (z311 + 1)), (0, .ref 32), (4, iv z269)]) dX8_silence_82 rfl (by decide) rfl ?_
            refine sv_goto (pc := 85) (tgt := 69) dX8_silence_85 (by decide) ?_
            refine mr_lvS (lv' := [(0, .ref 32), (4, iv z269), (5, iv (z311 + 1))]) (List.forall_mem_cons.mpr ⟨rfl, List.forall_mem_cons.mpr ⟨rfl, List.forall_mem_cons.mpr ⟨rfl, fun _ h => absurd h List.not_mem_nil⟩⟩⟩) ?_
            exact ih320 (z311 + 1) μ330 T331 (mF.call (mF.call mF.refl F316 rfl) F332 rfl) (rW (c := 0) (d := 800) (rAdd (e := 1) (f := 800) h329 (rR (x := 1)) rfl) rfl) (vc_X8_silence_W_9 (nS h318) h327 h268.2.1 hp1 h270 h329) (h333.1 T331 F332)
        refine mr_lvS (lv' := [(0, .ref 32), (4, iv z269), (5, iv z263)]) (List.forall_mem_cons.mpr ⟨rfl, List.forall_mem_cons.mpr ⟨rfl, List.forall_mem_cons.mpr ⟨rfl, fun _ h => absurd h List.not_mem_nil⟩⟩⟩) ?_
        exact L313 802 z263 μ230 T233 mF.refl (rW (c := 0) (d := 800) h264 rfl) (vc_X8_silence_W_10 h262.2.1 hq0 h268.2.1 hp1 h264 h270) (h268.2.2.1 h268.1)
      have h334 : 0 ≤ z229 ∧ z229 ≤ 19 := (vc_X12_feed_4 h257 h232)
      refine sv_aload_n (pc := 23) dX8_silence_23 rfl rfl ?_
      refine gf_X9_4 (pc := 24) dX8_silence_24 wF_X8_96 A3 T233 fun A335 => ?_
      refine mr_iload_n (pc := 27) (z := z229) dX8_silence_27 rfl rfl ?_
      refine la_222 (pc := 28) dX8_silence_28 A335 T233 (rIx (n := 20) h334 rfl) fun b336 q337 A338 => ?_
      refine mr_cVV (pc := 29) (c_X7_vanish_W hw T233 A338 (((W237 z229 μ230 rfl h232 T233 F234).2 h257) b336 q337 A338)) (gOk _ _ _ _ _) dX8_silence_29 (tX7_vanish _ _ _ _ _) ⟨wV_X7_vanish, wL_X7_vanish⟩ wM_X8_140 (gCX7 _ _ _ _ _) rfl A338 rfl ⟨le_t rfl, le_t rfl⟩ ⟨le_t rfl, le_t rfl⟩ rfl (le_t rfl) fun μ339 T340 F341 h342 => ?_
      refine sv_aload_n (pc := 32) dX8_silence_32 rfl rfl ?_
      refine gf_X9_5 (pc := 33) dX8_silence_33 wF_X8_103 A3 T340 fun A343 => ?_
      refine mr_iload_n (pc := 36) (z := z229) dX8_silence_36 rfl rfl ?_
      refine la_223 (pc := 37) dX8_silence_37 A343 T340 (rIx (n := 20) h334 rfl) fun b344 q345 A346 => ?_
      refine mr_cVV (pc := 38) (c_X7_vanish_W hw T340 A346 ((h342.1 T340 F341) b344 q345 A346)) (gOk _ _ _ _ _) dX8_silence_38 (tX7_vanish _ _ _ _ _) ⟨wV_X7_vanish, wL_X7_vanish⟩ wM_X8_140 (gCX7 _ _ _ _ _) rfl A346 rfl ⟨le_t rfl, le_t rfl⟩ ⟨le_t rfl, le_t rfl⟩ rfl (le_t rfl) fun μ347 T348 F349 h350 => ?_
      refine mr_iinc (pc := 41) (lv' := [(3, iv (z229 + 1)), (0, .ref 32), (1, iv p1), (2, .ref b1)]) dX8_silence_41 rfl (by decide) rfl ?_
      refine sv_goto (pc := 44) (tgt := 17) dX8_silence_44 (by decide) ?_
      refine mr_lvS (lv' := [(0, .ref 32), (1, iv p1), (2, .ref b1), (3, iv (z229 + 1))]) (List.forall_mem_cons.mpr ⟨rfl, List.forall_mem_cons.mpr ⟨rfl, List.forall_mem_cons.mpr ⟨rfl, List.forall_mem_cons.mpr ⟨rfl, fun _ h => absurd h List.not_mem_nil⟩⟩⟩⟩) ?_
      exact ih238 (z229 + 1) μ347 T348 (mF.call (mF.call (mF.call mF.refl F234 rfl) F341 rfl) F349 rfl) (rW (c := 0) (d := 20) (rAdd (e := 1) (f := 20) h334 (rR (x := 1)) rfl) rfl) (vc_X8_silence_W_12 (nS h236) h257 h334) (h350.1 T348 F349)
  refine mr_lvS (lv' := [(0, .ref 32), (1, iv p1), (2, .ref b1), (3, iv 0)]) (List.forall_mem_cons.mpr ⟨rfl, List.forall_mem_cons.mpr ⟨rfl, List.forall_mem_cons.mpr ⟨rfl, List.forall_mem_cons.mpr ⟨rfl, fun _ h => absurd h List.not_mem_nil⟩⟩⟩⟩) ?_
  exact L231 22 0 μ4 T6 mF.refl (rW (c := 0) (d := 20) (rR (x := 0)) rfl) vc_X12_tieOf_12 ((hQ b1 q2 A3) μ4 u5 T6)
def WJ_X11_raise_W_1 (w : mW) (μ : mM) (p1 : Int) (p2 : Int) (Q : Int → mM → Prop) (b14 : Nat) (z22 : Int) : Prop := (0 ≤ z22 ∧ z22 ≤ 1) → ((p2 = 0) → ((¬ z22 = 1) → Q z22 μ) ∧ ((z22 = 1) → WP_X8_silence_W w μ p1 (fun μ88 => mT w μ88 → mF [32010, 33999, 34999, 200002, 200009, 220006] w μ μ88 → ∀ z92 : Int, μ88 b14 0 = z92 → (0 ≤ z92 ∧ z92 ≤ 9 ∧ z92 < w.2.2.2 0) → WP_X8_lookAtAll_W w μ88 z92 (fun μ96 => mT w μ96 → mF [21002, 21003, 21004, 21005, 21006, 21007, 32009, 32010, 33999, 34999, 66999, 200002, 200003, 200004, 200005, 200006, 200007, 200008, 200009, 200010, 200011, 201999, 202999, 213999] w μ88 μ96 → ∀ z100 : Int, μ96 b14 1 = z100 → (0 ≤ z100 ∧ z100 ≤ 9 ∧ z100 < w.2.2.2 0) → WP_X8_lookAtAll_W w μ96 z100 (fun μ104 => mT w μ104 → mF [21002, 21003, 21004, 21005, 21006, 21007, 32009, 32010, 33999, 34999, 66999, 200002, 200003, 200004, 200005, 200006, 200007, 200008, 200009, 200010, 200011, 201999, 202999, 213999] w μ96 μ104 → Q z22 μ104))))) ∧ ((¬ p2 = 0) → ∀ μ109 : mM, mU μ b14 (6) (1 : Int) μ109 → mT w μ109 → WP_X8_sayAll_W w μ109 p1 (0) (fun μ112 => mT w μ112 → mF [21002, 21003, 21004, 21005, 21006, 21007, 32010, 33999, 34999, 200002, 200003, 200004, 200005, 200006, 200007, 200008, 200009, 201999, 202999] w μ109 μ112 → WP_X8_sayAll_W w μ112 p1 (1) (fun μ116 => mT w μ116 → mF [21002, 21003, 21004, 21005, 21006, 21007, 32010, 33999, 34999, 200002, 200003, 200004, 200005, 200006, 200007, 200008, 200009, 201999, 202999] w μ112 μ116 → Q z22 μ116)))
def WP_X11_raise_W (w : mW) (μ : mM) (p1 : Int) (p2 : Int) (Q : Int → mM → Prop) : Prop := ∀ z1 : Int, μ 6 16 = z1 → (z1 = w.2.2.2 1 ∧ 0 ≤ z1 ∧ z1 ≤ 20) → WP_X11_isTie_W w μ p1 (fun z8 _ => (0 ≤ z8 ∧ z8 ≤ 1) → ((¬ z8 = 0) → ∀ b14 : Nat, μ 11 (p1.toNat) = (b14 : Int) → mAt w b14 220 → ∀ z17 : Int, μ b14 6 = z17 → (0 ≤ z17 ∧ z17 ≤ 1) → ((z17 = 0) → (WJ_X11_raise_W_1 w μ p1 p2 Q b14) (0 : Int)) ∧ ((¬ z17 = 0) → (WJ_X11_raise_W_1 w μ p1 p2 Q b14) (1 : Int))) ∧ ((z8 = 0) → Q ((-1) : Int) μ))
theorem vc_X11_raise_W_10 {n0 z100 z92 : Int} (h0 : z92 < n0) (h1 : z100 < n0) (h2 : 0 ≤ z100 ∧ z100 ≤ 9) (h3 : 0 ≤ z92 ∧ z92 ≤ 9) : z100 < n0 := by omega
set_option maxRecDepth 4000 in
set_option maxHeartbeats 4000000 in
theorem c_X11_raise_W {l : Launch} {D : va_G} {c : Nat → ClassId} {H0 : Heap} {sa : Nat × Nat × (Nat → Int32)} {w : mW} {μ : mM} (hw : mWF w) (hT : mT w μ) {p1 : Int} (hp1 : (-2147483648) ≤ p1 ∧ p1 ≤ 2147483647) {p2 : Int} (hp2 : 0 ≤ p2 ∧ p2 ≤ 1) (hIPC : PC w μ) {Q : Int → mM → Prop} (hQ : WP_X11_raise_W w μ p1 p2 Q) : sC (gG l D c H0 sa) mX11_raise 44 0 0 [.ref 0, iv p1, iv p2] (mk w μ) (qI w [21002, 21003, 21004, 21005, 21006, 21007, 32009, 32010, 33999, 34999, 66999, 200002, 200003, 200004, 200005, 200006, 200007, 200008, 200009, 200010, 200011, 201999, 202999, 213999, 220006] μ (fun z μ1 => ((-2147483648) ≤ z ∧ z ≤ 2147483647) ∧ Q z μ1 ∧ True)) := by
  refine sC.of rfl (by decide) (le_t rfl) ?_
  refine mr_lvE (lv' := [(0, .ref 0), (1, iv p1), (2, iv p2)]) rfl ?_
  refine sv_aload_n (pc := 0) dX11_raise_0 rfl rfl ?_
  refine mr_iload_n (pc := 1) (z := p1) dX11_raise_1 rfl rfl ?_
  obtain ⟨z1, q2⟩ : ∃ z, μ 6 16 = z := ⟨_, rfl⟩
  have h3 : (z1 = w.2.2.2 1 ∧ 0 ≤ z1 ∧ z1 ≤ 20) := by rw [← q2]; exact hT 6 6 (A_6 hw) 16
  refine mr_cVP (pc := 2) (c_X11_isTie_W hw hT hp1 q2 (hQ z1 q2 h3)) (gOk _ _ _ _ _) dX11_raise_2 (tX11_isTie _ _ _ _ _) ⟨wV_X11_isTie, wL_X11_isTie⟩ wM_X11_119 (gCX11 _ _ _ _ _) rfl (A_0 hw) rfl ⟨le_t rfl, le_t rfl⟩ ⟨le_t rfl, le_t rfl⟩ rfl (le_t rfl) fun z8 h7 => ?_
  refine mr_if_ne (pc := 5) (tgt := 10) dX11_raise_5 (by decide) (r32 h7.1 rfl) (fun h9 => ?_) (fun h9 => ?_)
  · have h10 : 1 ≤ z8 ∧ z8 ≤ 1 := (vc_X12_write_3 h9 h7.2.1 h7.2.2.1 hp1 h3.2 h7.1)
    have h11 : 0 ≤ p1 ∧ p1 < z1 := (h7.2.1 (vc_X11_write_4 h7.2.1 h7.2.2.1 h9 h3.1 hp1 h3.2 h10))
    have h12 : 0 ≤ p1 ∧ p1 ≤ 19 := (vc_X11_write_5 h11 h3.1 h7.2.1 h7.2.2.1 hp1 h3.2 h10)
    have h13 : 1 ≤ z1 ∧ z1 ≤ 20 := (vc_X11_write_6 h11 h3.1 h7.2.1 h7.2.2.1 h12 h3.2 h10)
    refine sv_aload_n (pc := 10) dX11_raise_10 rfl rfl ?_
    refine gf_X11_3 (pc := 11) dX11_raise_11 wF_X11_26 (A_0 hw) hT ?_
    refine gf_X10_4 (pc := 14) dX11_raise_14 wF_X11_122 (A_6 hw) hT ?_
    refine mr_iload_n (pc := 17) (z := p1) dX11_raise_17 rfl rfl ?_
    refine la_11 (pc := 18) dX11_raise_18 (A_11 hw) hT (rIx (n := 20) h12 rfl) (vc_X11_write_16 h3.1 h7.2.1 h7.2.2.1 h11 h9 h12 h13 h10) fun b14 q15 A16 => ?_
    refine gf_X9_6 (pc := 19) dX11_raise_19 wF_X11_134 A16 hT fun z17 q18 h19 => ?_
    have J24 : ∀ (z22 : Int), ((0 ≤ z22 ∧ z22 ≤ 1)) → ((WJ_X11_raise_W_1 w μ p1 p2 Q b14) z22) → sV (gG l D c H0 sa) mX11_raise (sRm 44 0 0) (sZ (gG l D c H0 sa) 0 0 (qI w [21002, 21003, 21004, 21005, 21006, 21007, 32009, 32010, 33999, 34999, 66999, 200002, 200003, 200004, 200005, 200006, 200007, 200008, 200009, 200010, 200011, 201999, 202999, 213999, 220006] μ (fun z μ1 => ((-2147483648) ≤ z ∧ z ≤ 2147483647) ∧ Q z μ1 ∧ True))) 30 [(0, .ref 0), (1, iv p1), (2, iv p2)] [iv z22] (mk w μ) 0 0 := by
      intro z22 h23 W25
      refine mr_istore_n (pc := 30) (lv' := [(3, iv z22), (0, .ref 0), (1, iv p1), (2, iv p2)]) dX11_raise_30 rfl (by decide) rfl ?_
      refine mr_iload_n (pc := 31) (z := p2) dX11_raise_31 rfl rfl ?_
      refine mr_if_eq (pc := 32) (tgt := 69) dX11_raise_32 (by decide) (r32 hp2 rfl) (fun h61 => ?_) (fun h61 => ?_)
      · have h62 : 0 ≤ p2 ∧ p2 ≤ 0 := (vc_X12_ring_22 h61 hp2)
        refine mr_iload_n (pc := 69) (z := z22) dX11_raise_69 rfl rfl ?_
        refine mr_iconst (pc := 70) (z := 1) dX11_raise_70 ?_
        refine mr_icmp_ne (pc := 71) (tgt := 120) dX11_raise_71 (by decide) (r32 h23 rfl) (r32 (rR (x := 1)) rfl) (fun h85 => ?_) (fun h85 => ?_)
        · have h86 : 0 ≤ z22 ∧ z22 ≤ 0 := (vc_X1_goThrough_W12_38 h85 h23)
          refine mr_iload_n (pc := 120) (z := z22) dX11_raise_120 rfl rfl ?_
          exact mr_iret dX11_raise_121 rfl (le_t rfl) (le_t rfl) hT mF.refl ⟨(rW (c := (-2147483648)) (d := 2147483647) h86 rfl), (((W25 h23).1 h61).1 h85), trivial⟩
        have h87 : 1 ≤ z22 ∧ z22 ≤ 1 := (vc_X1_goThrough_W12_37 h85 h23)
        refine sv_aload_n (pc := 74) dX11_raise_74 rfl rfl ?_
        refine gf_X11_6 (pc := 75) dX11_raise_75 wF_X11_51 (A_0 hw) hT ?_
        refine mr_iload_n (pc := 78) (z := p1) dX11_raise_78 rfl rfl ?_
        refine mr_cVV (pc := 79) (c_X8_silence_W hw hT h12 (vc_X11_write_16 h3.1 h7.2.1 h7.2.2.1 h11 h9 h12 h13 h10) (((W25 h23).1 h61).2 h85)) (gOk _ _ _ _ _) dX11_raise_79 (tX8_silence _ _ _ _ _) ⟨wV_X8_silence, wL_X8_silence⟩ wM_X11_142 (gCX8 _ _ _ _ _) rfl (A_32 hw) rfl ⟨le_t rfl, le_t rfl⟩ ⟨le_t rfl, le_t rfl⟩ rfl (le_t rfl) fun μ88 T89 F90 h91 => ?_
        refine sv_aload_n (pc := 82) dX11_raise_82 rfl rfl ?_
        refine gf_X11_6 (pc := 83) dX11_raise_83 wF_X11_51 (A_0 hw) T89 ?_
        refine sv_aload_n (pc := 86) dX11_raise_86 rfl rfl ?_
        refine gf_X11_3 (pc := 87) dX11_raise_87 wF_X11_26 (A_0 hw) T89 ?_
        refine gf_X10_4 (pc := 90) dX11_raise_90 wF_X11_122 (A_6 hw) T89 ?_
        refine mr_iload_n (pc := 93) (z := p1) dX11_raise_93 rfl rfl ?_
        refine lk_11 (pc := 94) dX11_raise_94 (A_11 hw) (rIx (n := 20) h12 rfl) (F90.f (A_11 hw) rfl q15) ?_
        refine gf_X9_0 (pc := 95) dX11_raise_95 wF_X11_145 A16 T89 fun z92 q93 h94 => ?_
        have h95 : 0 ≤ z92 ∧ z92 ≤ 9 := ⟨h94.1, h94.2.1⟩
        refine mr_cVV (pc := 98) (c_X8_lookAtAll_W hw T89 h95 (vc_X9_end_1 h94.2.2 h95) (PC.keep hIPC hw ((mF.call mF.refl F90 rfl) : mF [32010, 33999, 34999, 200002, 200009, 220006] w μ μ88) rfl) ((h91.1 T89 F90) z92 q93 h94)) (gOk _ _ _ _ _) dX11_raise_98 (tX8_lookAtAll _ _ _ _ _) ⟨wV_X8_lookAtAll, wL_X8_lookAtAll⟩ wM_X11_148 (gCX8 _ _ _ _ _) rfl (A_32 hw) rfl ⟨le_t rfl, le_t rfl⟩ ⟨le_t rfl, le_t rfl⟩ rfl (le_t rfl) fun μ96 T97 F98 h99 => ?_
        refine sv_aload_n (pc := 101) dX11_raise_101 rfl rfl ?_
        refine gf_X11_6 (pc := 102) dX11_raise_102 wF_X11_51 (A_0 hw) T97 ?_
        refine sv_aload_n (pc := 105) dX11_raise_105 rfl rfl ?_
        refine gf_X11_3 (pc := 106) dX11_raise_106 wF_X11_26 (A_0 hw) T97 ?_
        refine gf_X10_4 (pc := 109) dX11_raise_109 wF_X11_122 (A_6 hw) T97 ?_
        refine mr_iload_n (pc := 112) (z := p1) dX11_raise_112 rfl rfl ?_
        refine lk_11 (pc := 113) dX11_raise_113 (A_11 hw) (rIx (n := 20) h12 rfl) (F98.f (A_11 hw) rfl (F90.f (A_11 hw) rfl q15)) ?_
        refine gf_X9_1 (pc := 114) dX11_raise_114 wF_X11_151 A16 T97 fun z100 q101 h102 => ?_
        have h103 : 0 ≤ z100 ∧ z100 ≤ 9 := ⟨h102.1, h102.2.1⟩
        refine mr_cVV (pc := 117) (c_X8_lookAtAll_W hw T97 h103 (vc_X11_raise_W_10 h94.2.2 h102.2.2 h103 h95) (PC.keep hIPC hw ((mF.call (mF.call mF.refl F90 rfl) F98 rfl) : mF [21002, 21003, 21004, 21005, 21006, 21007, 32009, 32010, 33999, 34999, 66999, 200002, 200003, 200004, 200005, 200006, 200007, 200008, 200009, 200010, 200011, 201999, 202999, 213999, 220006] w μ μ96) rfl) ((h99.1 T97 F98) z100 q101 h102)) (gOk _ _ _ _ _) dX11_raise_117 (tX8_lookAtAll _ _ _ _ _) ⟨wV_X8_lookAtAll, wL_X8_lookAtAll⟩ wM_X11_148 (gCX8 _ _ _ _ _) rfl (A_32 hw) rfl ⟨le_t rfl, le_t rfl⟩ ⟨le_t rfl, le_t rfl⟩ rfl (le_t rfl) fun μ104 T105 F106 h107 => ?_
        refine mr_iload_n (pc := 120) (z := z22) dX11_raise_120 rfl rfl ?_
        exact mr_iret dX11_raise_121 rfl (le_t rfl) (le_t rfl) T105 (mF.call (mF.call (mF.call mF.refl F90 rfl) F98 rfl) F106 rfl) ⟨(rW (c := (-2147483648)) (d := 2147483647) h87 rfl), (h107.1 T105 F106), trivial⟩
      have h108 : 1 ≤ p2 ∧ p2 ≤ 1 := (vc_X12_ring_24 h61 hp2)
      refine sv_aload_n (pc := 35) dX11_raise_35 rfl rfl ?_
      refine gf_X11_3 (pc := 36) dX11_raise_36 wF_X11_26 (A_0 hw) hT ?_
      refine gf_X10_4 (pc := 39) dX11_raise_39 wF_X11_122 (A_6 hw) hT ?_
      refine mr_iload_n (pc := 42) (z := p1) dX11_raise_42 rfl rfl ?_
      refine lk_11 (pc := 43) dX11_raise_43 (A_11 hw) (rIx (n := 20) h12 rfl) q15 ?_
      refine mr_iconst (pc := 44) (z := 1) dX11_raise_44 ?_
      refine pf_X9_6 (pc := 45) dX11_raise_45 wF_X11_134 A16 hT (rW (c := 0) (d := 1) (rR (x := 1)) rfl) fun μ109 u110 T111 => ?_
      refine sv_aload_n (pc := 48) dX11_raise_48 rfl rfl ?_
      refine gf_X11_6 (pc := 49) dX11_raise_49 wF_X11_51 (A_0 hw) T111 ?_
      refine mr_iload_n (pc := 52) (z := p1) dX11_raise_52 rfl rfl ?_
      refine mr_iconst (pc := 53) (z := 0) dX11_raise_53 ?_
      refine mr_cVV (pc := 54) (c_X8_sayAll_W hw T111 h12 (rW (c := 0) (d := 1) (rR (x := 0)) rfl) (vc_X11_write_16 h3.1 h7.2.1 h7.2.2.1 h11 h9 h12 h13 h10) (PC.keep hIPC hw ((mF.up mF.refl A16 u110 rfl) : mF [220006] w μ μ109) rfl) (((W25 h23).2 h61) μ109 u110 T111)) (gOk _ _ _ _ _) dX11_raise_54 (tX8_sayAll _ _ _ _ _) ⟨wV_X8_sayAll, wL_X8_sayAll⟩ wM_X11_138 (gCX8 _ _ _ _ _) rfl (A_32 hw) rfl ⟨le_t rfl, le_t rfl⟩ ⟨le_t rfl, le_t rfl⟩ rfl (le_t rfl) fun μ112 T113 F114 h115 => ?_
      refine sv_aload_n (pc := 57) dX11_raise_57 rfl rfl ?_
      refine gf_X11_6 (pc := 58) dX11_raise_58 wF_X11_51 (A_0 hw) T113 ?_
      refine mr_iload_n (pc := 61) (z := p1) dX11_raise_61 rfl rfl ?_
      refine mr_iconst (pc := 62) (z := 1) dX11_raise_62 ?_
      refine mr_cVV (pc := 63) (c_X8_sayAll_W hw T113 h12 (rW (c := 0) (d := 1) (rR (x := 1)) rfl) (vc_X11_write_16 h3.1 h7.2.1 h7.2.2.1 h11 h9 h12 h13 h10) (PC.keep hIPC hw ((mF.call (mF.up mF.refl A16 u110 rfl) F114 rfl) : mF [21002, 21003, 21004, 21005, 21006, 21007, 32010, 33999, 34999, 200002, 200003, 200004, 200005, 200006, 200007, 200008, 200009, 201999, 202999, 220006] w μ μ112) rfl) (h115.1 T113 F114)) (gOk _ _ _ _ _) dX11_raise_63 (tX8_sayAll _ _ _ _ _) ⟨wV_X8_sayAll, wL_X8_sayAll⟩ wM_X11_138 (gCX8 _ _ _ _ _) rfl (A_32 hw) rfl ⟨le_t rfl, le_t rfl⟩ ⟨le_t rfl, le_t rfl⟩ rfl (le_t rfl) fun μ116 T117 F118 h119 => ?_
      refine sv_goto (pc := 66) (tgt := 120) dX11_raise_66 (by decide) ?_
      refine mr_iload_n (pc := 120) (z := z22) dX11_raise_120 rfl rfl ?_
      exact mr_iret dX11_raise_121 rfl (le_t rfl) (le_t rfl) T117 (mF.call (mF.call (mF.up mF.refl A16 u110 rfl) F114 rfl) F118 rfl) ⟨(rW (c := (-2147483648)) (d := 2147483647) h23 rfl), (h119.1 T117 F118), trivial⟩
    refine mr_if_eq (pc := 22) (tgt := 29) dX11_raise_22 (by decide) (r32 h19 rfl) (fun h120 => ?_) (fun h120 => ?_)
    · have h121 : 0 ≤ z17 ∧ z17 ≤ 0 := (vc_X12_ring_22 h120 h19)
      refine mr_iconst (pc := 29) (z := 0) dX11_raise_29 ?_
      exact J24 0 (rW (c := 0) (d := 1) (rR (x := 0)) rfl) (((((h7.2.2.2.1 h7.1).1 h9) b14 q15 A16) z17 q18 h19).1 h120)
    have h122 : 1 ≤ z17 ∧ z17 ≤ 1 := (vc_X12_ring_24 h120 h19)
    refine mr_iconst (pc := 25) (z := 1) dX11_raise_25 ?_
    refine sv_goto (pc := 26) (tgt := 30) dX11_raise_26 (by decide) ?_
    exact J24 1 (rW (c := 0) (d := 1) (rR (x := 1)) rfl) (((((h7.2.2.2.1 h7.1).1 h9) b14 q15 A16) z17 q18 h19).2 h120)
  have h123 : 0 ≤ z8 ∧ z8 ≤ 0 := (vc_X12_write_1 h9 h7.2.1 h7.2.2.1 hp1 h3.2 h7.1)
  have h124 : p1 < 0 ∨ z1 ≤ p1 := (h7.2.2.1 (vc_X11_write_2 h7.2.1 h7.2.2.1 h9 h3.1 hp1 h3.2 h123))
  refine mr_iconst (pc := 8) (z := (-1)) dX11_raise_8 ?_
  exact mr_iret dX11_raise_9 rfl (le_t rfl) (le_t rfl) hT mF.refl ⟨(rW (c := (-2147483648)) (d := 2147483647) (rR (x := (-1))) rfl), ((h7.2.2.2.1 h7.1).2 h9), trivial⟩
def WL_X12_raise_W_2 (w : mW) (p1 : Int) (Q : Int → mM → Prop) (z19 : Int) (μ45 : mM) (rec2 : (Int × mM) → Prop) (s : (Int × mM)) : Prop := ∀ z329 : Int, ∀ μ330 : mM, s = (z329, μ330) → (0 ≤ z329 ∧ z329 ≤ 400) → mT w μ330 → mF [126999, 155999, 157999, 159999] w μ45 μ330 → WP_X12_slot_W w μ330 p1 (2) (0) (fun z346 _ => (0 ≤ z346 ∧ z346 ≤ 449) → ((z346 ≤ z329) → ∀ z383 : Int, μ330 110 ((2 * p1).toNat) = z383 → (0 ≤ z383 ∧ z383 ≤ 9) → WP_X12_lookAll_W w μ330 z383 (fun μ386 => mT w μ386 → mF [106026, 106027, 106028, 106029, 106030, 106031, 106072, 126999, 151999, 152999, 153999, 155999, 156999, 157999, 158999, 159999, 160999, 161999, 165999] w μ330 μ386 → ∀ z390 : Int, μ386 110 (((2 * p1) + 1).toNat) = z390 → (0 ≤ z390 ∧ z390 ≤ 9) → WP_X12_lookAll_W w μ386 z390 (fun μ393 => mT w μ393 → mF [106026, 106027, 106028, 106029, 106030, 106031, 106072, 126999, 151999, 152999, 153999, 155999, 156999, 157999, 158999, 159999, 160999, 161999, 165999] w μ386 μ393 → Q z19 μ393))) ∧ ((z329 < z346) → WP_X12_nothing_W w μ330 (130 + z329) (fun μ398 => mT w μ398 → mF [126999] w μ330 μ398 → ∀ z402 : Int, μ398 126 ((40 * (130 + z329)).toNat) = z402 → WP_X12_nothing_W w μ398 (530 + z329) (fun μ409 => mT w μ409 → mF [126999] w μ398 μ409 → ∀ z413 : Int, μ409 126 ((40 * (530 + z329)).toNat) = z413 → ∀ μ420 : mM, mU μ409 155 (z329.toNat) (0 : Int) μ420 → mT w μ420 → ∀ μ423 : mM, mU μ420 157 (z329.toNat) ((-1) : Int) μ423 → mT w μ423 → ∀ μ427 : mM, mU μ423 159 (z329.toNat) ((-1) : Int) μ427 → mT w μ427 → rec2 ((z329 + 1), μ427)))))
def WJ_X12_raise_W_1 (w : mW) (μ : mM) (p1 : Int) (p2 : Int) (Q : Int → mM → Prop) (z19 : Int) : Prop := (0 ≤ z19 ∧ z19 ≤ 1) → ((¬ p2 = 0) → ∀ μ25 : mM, mU μ 112 (p1.toNat) p2 μ25 → mT w μ25 → ∀ z28 : Int, μ25 110 ((2 * p1).toNat) = z28 → (0 ≤ z28 ∧ z28 ≤ 9) → ∀ z31 : Int, μ25 110 (((2 * p1) + 1).toNat) = z31 → (0 ≤ z31 ∧ z31 ≤ 9) → WP_X12_sayAll_W w μ25 z28 p1 (fun μ34 => mT w μ34 → mF [106026, 106027, 106028, 106029, 106030, 106031, 106072, 126999, 151999, 152999, 153999, 155999, 156999, 157999, 158999, 159999, 160999] w μ25 μ34 → WP_X12_sayAll_W w μ34 z31 p1 (fun μ38 => mT w μ38 → mF [106026, 106027, 106028, 106029, 106030, 106031, 106072, 126999, 151999, 152999, 153999, 155999, 156999, 157999, 158999, 159999, 160999] w μ34 μ38 → Q z19 μ38))) ∧ ((p2 = 0) → ((¬ z19 = 0) → ∀ μ45 : mM, mU μ 112 (p1.toNat) p2 μ45 → mT w μ45 → WP_X12_slot_W w μ45 p1 (0) (0) (fun z52 _ => (0 ≤ z52 ∧ z52 ≤ 449) → loopF (WL_X12_raise_W_2 w p1 Q z19 μ45) False 402 (z52, μ45))) ∧ ((z19 = 0) → Q (0 : Int) μ))
def WP_X12_raise_W (w : mW) (μ : mM) (p1 : Int) (p2 : Int) (Q : Int → mM → Prop) : Prop := ∀ z1 : Int, μ 106 6 = z1 → (0 ≤ z1 ∧ z1 ≤ 20) → WP_X12_isTie_W w μ p1 (fun z8 _ => (0 ≤ z8 ∧ z8 ≤ 1) → ((¬ z8 = 0) → ∀ z14 : Int, μ 112 (p1.toNat) = z14 → (0 ≤ z14 ∧ z14 ≤ 1) → ((z14 = 0) → (WJ_X12_raise_W_1 w μ p1 p2 Q) (0 : Int)) ∧ ((¬ z14 = 0) → (WJ_X12_raise_W_1 w μ p1 p2 Q) (1 : Int))) ∧ ((z8 = 0) → Q ((-1) : Int) μ))
theorem vc_X12_raise_W_7 {p1 z1 z8 : Int} (h0 : (z8 = 1 → 0 ≤ p1 ∧ p1 < z1)) (h1 : (z8 = 0 → p1 < 0 ∨ z1 ≤ p1)) (h2 : 0 ≤ p1 ∧ p1 < z1) (h3 : ¬ z8 = 0) (h4 : 0 ≤ p1 ∧ p1 ≤ 19) (h5 : 1 ≤ z1 ∧ z1 ≤ 20) (h6 : 1 ≤ z8 ∧ z8 ≤ 1) : p1 < z1 := by omega
theorem vc_X12_raise_W_13 {p1 z1 z52 z8 : Int} (h0 : z52 = (((20 * p1) + (10 * 0)) + 0)) (h1 : (z8 = 1 → 0 ≤ p1 ∧ p1 < z1)) (h2 : (z8 = 0 → p1 < 0 ∨ z1 ≤ p1)) (h3 : 0 ≤ p1 ∧ p1 < z1) (h4 : 0 ≤ p1 ∧ p1 ≤ 19) (h5 : 1 ≤ z1 ∧ z1 ≤ 20) (h6 : 0 ≤ z52 ∧ z52 ≤ 449) (h7 : 1 ≤ z8 ∧ z8 ≤ 1) : 0 ≤ z52 ∧ z52 ≤ 380 := by omega
theorem vc_X12_raise_W_15 {p1 z1 z346 z52 z8 : Int} (h0 : z346 = (((20 * p1) + (10 * 2)) + 0)) (h1 : (z8 = 1 → 0 ≤ p1 ∧ p1 < z1)) (h2 : (z8 = 0 → p1 < 0 ∨ z1 ≤ p1)) (h3 : 0 ≤ p1 ∧ p1 < z1) (h4 : z52 = (((20 * p1) + (10 * 0)) + 0)) (h5 : 0 ≤ p1 ∧ p1 ≤ 19) (h6 : 1 ≤ z1 ∧ z1 ≤ 20) (h7 : 0 ≤ z346 ∧ z346 ≤ 449) (h8 : 0 ≤ z52 ∧ z52 ≤ 380) (h9 : 1 ≤ z8 ∧ z8 ≤ 1) : 20 ≤ z346 ∧ z346 ≤ 400 := by omega
theorem vc_X12_raise_W_16 {p1 z329 z346 : Int} (h0 : z346 ≤ z329) (h1 : z346 = (((20 * p1) + (10 * 2)) + 0)) (h2 : 0 ≤ p1 ∧ p1 ≤ 19) (h3 : 0 ≤ z329 ∧ z329 ≤ 400) (h4 : 20 ≤ z346 ∧ z346 ≤ 400) : 20 ≤ z329 ∧ z329 ≤ 400 := by omega
theorem vc_X12_raise_W_17 {p1 z329 z346 : Int} (h0 : z329 < z346) (h1 : z346 = (((20 * p1) + (10 * 2)) + 0)) (h2 : 0 ≤ p1 ∧ p1 ≤ 19) (h3 : 0 ≤ z329 ∧ z329 ≤ 400) (h4 : 20 ≤ z346 ∧ z346 ≤ 400) : 0 ≤ z329 ∧ z329 ≤ 399 := by omega
theorem vc_X12_raise_W_18 {p1 z329 z346 : Int} (h0 : z329 < z346) (h1 : z346 = (((20 * p1) + (10 * 2)) + 0)) (h2 : 0 ≤ p1 ∧ p1 ≤ 19) (h3 : 0 ≤ z329 ∧ z329 ≤ 399) (h4 : 20 ≤ z346 ∧ z346 ≤ 400) : 0 ≤ (40 * (130 + z329)) := by omega
theorem vc_X12_raise_W_19 {p1 z329 z346 : Int} (h0 : z329 < z346) (h1 : z346 = (((20 * p1) + (10 * 2)) + 0)) (h2 : 0 ≤ p1 ∧ p1 ≤ 19) (h3 : 0 ≤ z329 ∧ z329 ≤ 399) (h4 : 20 ≤ z346 ∧ z346 ≤ 400) : (40 * (130 + z329)) % 40 = 0 := by omega
theorem vc_X12_raise_W_21 {p1 z329 z346 : Int} (h0 : z329 < z346) (h1 : z346 = (((20 * p1) + (10 * 2)) + 0)) (h2 : 0 ≤ p1 ∧ p1 ≤ 19) (h3 : 0 ≤ z329 ∧ z329 ≤ 399) (h4 : 20 ≤ z346 ∧ z346 ≤ 400) : 0 ≤ (40 * (530 + z329)) := by omega
theorem vc_X12_raise_W_22 {p1 z329 z346 : Int} (h0 : z329 < z346) (h1 : z346 = (((20 * p1) + (10 * 2)) + 0)) (h2 : 0 ≤ p1 ∧ p1 ≤ 19) (h3 : 0 ≤ z329 ∧ z329 ≤ 399) (h4 : 20 ≤ z346 ∧ z346 ≤ 400) : (40 * (530 + z329)) % 40 = 0 := by omega
theorem vc_X12_raise_W_24 {p1 z329 z346 : Int} (h0 : z329 < z346) (h1 : z346 = (((20 * p1) + (10 * 2)) + 0)) (h2 : 0 ≤ p1 ∧ p1 ≤ 19) (h3 : 0 ≤ z329 ∧ z329 ≤ 399) (h4 : 20 ≤ z346 ∧ z346 ≤ 400) : 0 ≤ z329 := by omega
theorem vc_X12_raise_W_25 {p1 z1 z329 z346 z52 z8 : Int} (h0 : (z8 = 1 → 0 ≤ p1 ∧ p1 < z1)) (h1 : (z8 = 0 → p1 < 0 ∨ z1 ≤ p1)) (h2 : 0 ≤ p1 ∧ p1 < z1) (h3 : z329 < z346) (h4 : ¬ z8 = 0) (h5 : z52 = (((20 * p1) + (10 * 0)) + 0)) (h6 : z346 = (((20 * p1) + (10 * 2)) + 0)) (h7 : 0 ≤ p1 ∧ p1 ≤ 19) (h8 : 1 ≤ z1 ∧ z1 ≤ 20) (h9 : 0 ≤ z329 ∧ z329 ≤ 399) (h10 : 20 ≤ z346 ∧ z346 ≤ 400) (h11 : 0 ≤ z52 ∧ z52 ≤ 380) (h12 : 1 ≤ z8 ∧ z8 ≤ 1) : ((-1) : Int) < 0 ∨ z329 < 20 * z1 := by omega
theorem vc_X12_raise_W_26 {N p1 z329 z346 : Int} (h0 : (401 - z329) < N + 1) (h1 : z329 < z346) (h2 : z346 = (((20 * p1) + (10 * 2)) + 0)) (h3 : 0 ≤ p1 ∧ p1 ≤ 19) (h4 : 0 ≤ z329 ∧ z329 ≤ 399) (h5 : 20 ≤ z346 ∧ z346 ≤ 400) : (401 - (z329 + 1)) < N := by omega
theorem vc_X12_raise_W_27 {p1 z329 z346 : Int} (h0 : z329 < z346) (h1 : z346 = (((20 * p1) + (10 * 2)) + 0)) (h2 : 0 ≤ p1 ∧ p1 ≤ 19) (h3 : 0 ≤ z329 ∧ z329 ≤ 399) (h4 : 20 ≤ z346 ∧ z346 ≤ 400) : (40 * (130 + z329)) ≤ (40 * (130 + z329)) ∧ ((40 * (130 + z329)) + 1) ≤ ((40 * (130 + z329)) + 1) := by omega
theorem vc_X12_raise_W_28 {p1 z329 z346 : Int} (h0 : z329 < z346) (h1 : z346 = (((20 * p1) + (10 * 2)) + 0)) (h2 : 0 ≤ p1 ∧ p1 ≤ 19) (h3 : 0 ≤ z329 ∧ z329 ≤ 399) (h4 : 20 ≤ z346 ∧ z346 ≤ 400) : (40 * (530 + z329)) ≤ (40 * (530 + z329)) ∧ ((40 * (530 + z329)) + 1) ≤ ((40 * (530 + z329)) + 1) := by omega
theorem vc_X12_raise_W_29 {p1 z329 z346 : Int} (h0 : z329 < z346) (h1 : z346 = (((20 * p1) + (10 * 2)) + 0)) (h2 : 0 ≤ p1 ∧ p1 ≤ 19) (h3 : 0 ≤ z329 ∧ z329 ≤ 399) (h4 : 20 ≤ z346 ∧ z346 ≤ 400) : (1 ≤ (40 * (530 + z329)) ∧ ((40 * (530 + z329)) + 1) ≤ 1200) ∨ 5200 ≤ (40 * (530 + z329)) := by omega
theorem vc_X12_raise_W_30 {p1 z329 z346 : Int} (h0 : z329 < z346) (h1 : z346 = (((20 * p1) + (10 * 2)) + 0)) (h2 : 0 ≤ p1 ∧ p1 ≤ 19) (h3 : 0 ≤ z329 ∧ z329 ≤ 399) (h4 : 20 ≤ z346 ∧ z346 ≤ 400) : (1 ≤ (40 * (130 + z329)) ∧ ((40 * (130 + z329)) + 1) ≤ 1200) ∨ 5200 ≤ (40 * (130 + z329)) := by omega
theorem vc_X12_raise_W_31 {p1 z1 z52 z8 : Int} (h0 : z52 = (((20 * p1) + (10 * 0)) + 0)) (h1 : (z8 = 1 → 0 ≤ p1 ∧ p1 < z1)) (h2 : (z8 = 0 → p1 < 0 ∨ z1 ≤ p1)) (h3 : 0 ≤ p1 ∧ p1 < z1) (h4 : 0 ≤ p1 ∧ p1 ≤ 19) (h5 : 1 ≤ z1 ∧ z1 ≤ 20) (h6 : 0 ≤ z52 ∧ z52 ≤ 380) (h7 : 1 ≤ z8 ∧ z8 ≤ 1) : (401 - z52) < ((402 : Nat) : Int) := by omega
set_option maxRecDepth 4000 in
set_option maxHeartbeats 4000000 in
theorem c_X12_raise_W {l : Launch} {D : va_G} {c : Nat → ClassId} {H0 : Heap} {sa : Nat × Nat × (Nat → Int32)} {w : mW} {μ : mM} (hw : mWF w) (hT : mT w μ) {p1 : Int} (hp1 : (-2147483648) ≤ p1 ∧ p1 ≤ 2147483647) {p2 : Int} (hp2 : 0 ≤ p2 ∧ p2 ≤ 1) (hIG1 : G1 μ) (hIEV : EV μ) (hIPK : PK μ) {Q : Int → mM → Prop} (hQ : WP_X12_raise_W w μ p1 p2 Q) : sC (gG l D c H0 sa) mX12_raise 12 0 0 [.ref 106, iv p1, iv p2] (mk w μ) (qI w [106026, 106027, 106028, 106029, 106030, 106031, 106072, 112999, 126999, 151999, 152999, 153999, 155999, 156999, 157999, 158999, 159999, 160999, 161999, 165999] μ (fun z μ1 => ((-2147483648) ≤ z ∧ z ≤ 2147483647) ∧ G1 μ1 ∧ EV μ1 ∧ Q z μ1 ∧ True)) := by
  refine sC.of rfl (by decide) (le_t rfl) ?_
  refine mr_lvE (lv' := [(0, .ref 106), (1, iv p1), (2, iv p2)]) rfl ?_
  refine sv_aload_n (pc := 0) dX12_raise_0 rfl rfl ?_
  refine mr_iload_n (pc := 1) (z := p1) dX12_raise_1 rfl rfl ?_
  obtain ⟨z1, q2⟩ : ∃ z, μ 106 6 = z := ⟨_, rfl⟩
  have h3 : (0 ≤ z1 ∧ z1 ≤ 20) := by rw [← q2]; exact hT 106 106 (A_106 hw) 6
  refine mr_cVP (pc := 2) (c_X12_isTie_W hw hT hp1 q2 (hQ z1 q2 h3)) (gOk _ _ _ _ _) dX12_raise_2 (tX12_isTie _ _ _ _ _) ⟨wV_X12_isTie, wL_X12_isTie⟩ wM_X12_66 (gCX12 _ _ _ _ _) rfl (A_106 hw) rfl ⟨le_t rfl, le_t rfl⟩ ⟨le_t rfl, le_t rfl⟩ rfl (le_t rfl) fun z8 h7 => ?_
  refine mr_if_ne (pc := 5) (tgt := 10) dX12_raise_5 (by decide) (r32 h7.1 rfl) (fun h9 => ?_) (fun h9 => ?_)
  · have h10 : 1 ≤ z8 ∧ z8 ≤ 1 := (vc_X12_write_3 h9 h7.2.1 h7.2.2.1 hp1 h3 h7.1)
    have h11 : 0 ≤ p1 ∧ p1 < z1 := (h7.2.1 (vc_X12_write_4 h7.2.1 h7.2.2.1 h9 hp1 h3 h10))
    have h12 : 0 ≤ p1 ∧ p1 ≤ 19 := (vc_X12_write_5 h11 h7.2.1 h7.2.2.1 hp1 h3 h10)
    have h13 : 1 ≤ z1 ∧ z1 ≤ 20 := (vc_X12_write_6 h11 h7.2.1 h7.2.2.1 h12 h3 h10)
    refine sv_aload_n (pc := 10) dX12_raise_10 rfl rfl ?_
    refine gf_X12_9 (pc := 11) dX12_raise_11 wF_X12_53 (A_106 hw) hT ?_
    refine mr_iload_n (pc := 14) (z := p1) dX12_raise_14 rfl rfl ?_
    refine la_112 (pc := 15) dX12_raise_15 (A_112 hw) hT (rIx (n := 20) h12 rfl) fun z14 q15 h16 => ?_
    have J21 : ∀ (z19 : Int), ((0 ≤ z19 ∧ z19 ≤ 1)) → ((WJ_X12_raise_W_1 w μ p1 p2 Q) z19) → sV (gG l D c H0 sa) mX12_raise (sRm 12 0 0) (sZ (gG l D c H0 sa) 0 0 (qI w [106026, 106027, 106028, 106029, 106030, 106031, 106072, 112999, 126999, 151999, 152999, 153999, 155999, 156999, 157999, 158999, 159999, 160999, 161999, 165999] μ (fun z μ1 => ((-2147483648) ≤ z ∧ z ≤ 2147483647) ∧ G1 μ1 ∧ EV μ1 ∧ Q z μ1 ∧ True))) 24 [(0, .ref 106), (1, iv p1), (2, iv p2)] [iv z19] (mk w μ) 0 0 := by
      intro z19 h20 W22
      refine mr_istore_n (pc := 24) (lv' := [(3, iv z19), (0, .ref 106), (1, iv p1), (2, iv p2)]) dX12_raise_24 rfl (by decide) rfl ?_
      refine mr_iload_n (pc := 25) (z := p2) dX12_raise_25 rfl rfl ?_
      refine mr_if_ne (pc := 26) (tgt := 35) dX12_raise_26 (by decide) (r32 hp2 rfl) (fun h23 => ?_) (fun h23 => ?_)
      · have h24 : 1 ≤ p2 ∧ p2 ≤ 1 := (vc_X12_ring_24 h23 hp2)
        refine sv_aload_n (pc := 35) dX12_raise_35 rfl rfl ?_
        refine gf_X12_9 (pc := 36) dX12_raise_36 wF_X12_53 (A_106 hw) hT ?_
        refine mr_iload_n (pc := 39) (z := p1) dX12_raise_39 rfl rfl ?_
        refine mr_iload_n (pc := 40) (z := p2) dX12_raise_40 rfl rfl ?_
        refine ss_112 (pc := 41) dX12_raise_41 (A_112 hw) hT (rIx (n := 20) h12 rfl) (rW (c := 0) (d := 1) h24 rfl) fun μ25 u26 T27 => ?_
        refine mr_iload_n (pc := 42) (z := p2) dX12_raise_42 rfl rfl ?_
        refine mr_if_eq (pc := 43) (tgt := 76) dX12_raise_43 (by decide) (r32 h24 rfl) (fun h => ((vc_X12_letWay_13 h h24)).elim) (fun _ => ?_)
        refine sv_aload_n (pc := 46) dX12_raise_46 rfl rfl ?_
        refine sv_aload_n (pc := 47) dX12_raise_47 rfl rfl ?_
        refine gf_X12_7 (pc := 48) dX12_raise_48 wF_X12_40 (A_106 hw) T27 ?_
        refine mr_iconst (pc := 51) (z := 2) dX12_raise_51 ?_
        refine mr_iload_n (pc := 52) (z := p1) dX12_raise_52 rfl rfl ?_
        refine mr_imul (pc := 53) (x := 2) (y := p1) dX12_raise_53 ?_
        refine la_110 (pc := 54) dX12_raise_54 (A_110 hw) T27 (rIx (n := 40) (rMulL (n := 2) (e := 0) (f := 38) h12 rfl) rfl) fun z28 q29 h30 => ?_
        refine mr_iload_n (pc := 55) (z := p1) dX12_raise_55 rfl rfl ?_
        obtain ⟨z31, q32⟩ : ∃ z, μ25 110 (((2 * p1) + 1).toNat) = z := ⟨_, rfl⟩
        have h33 : (0 ≤ z31 ∧ z31 ≤ 9) := by rw [← q32]; exact T27 110 110 (A_110 hw) (((2 * p1) + 1).toNat)
        refine mr_cVV (pc := 56) (c_X12_sayAll_W hw T27 h30 h12 q29 q32 (u26.f (Or.inl (mAt.ne (A_112 hw) (A_106 hw) rfl)) q2) (vc_X12_raise_W_7 h7.2.1 h7.2.2.1 h11 h9 h12 h13 h10) (vc_X12_doEvent_W_22 h30 h33) (G1.keep hIG1 hw ((mF.up mF.refl (A_112 hw) u26 rfl) : mF [112999] w μ μ25) rfl rfl ((mG.upO mG.refl u26 rfl) : mG [] μ μ25) (fun _ h => absurd h List.not_mem_nil)) (EV.keep hIEV hw ((mF.up mF.refl (A_112 hw) u26 rfl) : mF [112999] w μ μ25) rfl) (PK.keep hIPK hw ((mF.up mF.refl (A_112 hw) u26 rfl) : mF [112999] w μ μ25) rfl) (((((W22 h20).1 h23) μ25 u26 T27) z28 q29 h30) z31 q32 h33)) (gOk _ _ _ _ _) dX12_raise_56 (tX12_sayAll _ _ _ _ _) ⟨wV_X12_sayAll, wL_X12_sayAll⟩ wM_X12_603 (gCX12 _ _ _ _ _) rfl (A_106 hw) rfl ⟨le_t rfl, le_t rfl⟩ ⟨le_t rfl, le_t rfl⟩ rfl (le_t rfl) fun μ34 T35 F36 h37 => ?_
        refine sv_aload_n (pc := 59) dX12_raise_59 rfl rfl ?_
        refine sv_aload_n (pc := 60) dX12_raise_60 rfl rfl ?_
        refine gf_X12_7 (pc := 61) dX12_raise_61 wF_X12_40 (A_106 hw) T35 ?_
        refine mr_iconst (pc := 64) (z := 2) dX12_raise_64 ?_
        refine mr_iload_n (pc := 65) (z := p1) dX12_raise_65 rfl rfl ?_
        refine mr_imul (pc := 66) (x := 2) (y := p1) dX12_raise_66 ?_
        refine mr_iconst (pc := 67) (z := 1) dX12_raise_67 ?_
        refine mr_iadd (pc := 68) (x := (2 * p1)) (y := 1) dX12_raise_68 ?_
        refine lk_110 (pc := 69) dX12_raise_69 (A_110 hw) (rIx (n := 40) (rAdd (e := 1) (f := 39) (rMulL (n := 2) (e := 0) (f := 38) h12 rfl) (rR (x := 1)) rfl) rfl) (F36.f (A_110 hw) rfl q32) ?_
        refine mr_iload_n (pc := 70) (z := p1) dX12_raise_70 rfl rfl ?_
        refine mr_cVV (pc := 71) (c_X12_sayAll_W hw T35 h33 h12 (F36.f (A_110 hw) rfl q29) (F36.f (A_110 hw) rfl q32) (F36.f (A_106 hw) rfl (u26.f (Or.inl (mAt.ne (A_112 hw) (A_106 hw) rfl)) q2)) (vc_X12_raise_W_7 h7.2.1 h7.2.2.1 h11 h9 h12 h13 h10) (vc_X12_doEvent_W_25 h30 h33) h37.2.1 h37.2.2.1 (PK.keep hIPK hw ((mF.call (mF.up mF.refl (A_112 hw) u26 rfl) F36 rfl) : mF [106026, 106027, 106028, 106029, 106030, 106031, 106072, 112999, 126999, 151999, 152999, 153999, 155999, 156999, 157999, 158999, 159999, 160999] w μ μ34) rfl) (h37.2.2.2.1 T35 F36)) (gOk _ _ _ _ _) dX12_raise_71 (tX12_sayAll _ _ _ _ _) ⟨wV_X12_sayAll, wL_X12_sayAll⟩ wM_X12_603 (gCX12 _ _ _ _ _) rfl (A_106 hw) rfl ⟨le_t rfl, le_t rfl⟩ ⟨le_t rfl, le_t rfl⟩ rfl (le_t rfl) fun μ38 T39 F40 h41 => ?_
        refine mr_iload_n (pc := 74) (z := z19) dX12_raise_74 rfl rfl ?_
        exact mr_iret dX12_raise_75 rfl (le_t rfl) (le_t rfl) T39 (mF.call (mF.call (mF.up mF.refl (A_112 hw) u26 rfl) F36 rfl) F40 rfl) ⟨(rW (c := (-2147483648)) (d := 2147483647) h20 rfl), h41.2.1, h41.2.2.1, (h41.2.2.2.1 T39 F40), trivial⟩
      have h42 : 0 ≤ p2 ∧ p2 ≤ 0 := (vc_X12_ring_22 h23 hp2)
      refine mr_iload_n (pc := 29) (z := z19) dX12_raise_29 rfl rfl ?_
      refine mr_if_ne (pc := 30) (tgt := 35) dX12_raise_30 (by decide) (r32 h20 rfl) (fun h43 => ?_) (fun h43 => ?_)
      · have h44 : 1 ≤ z19 ∧ z19 ≤ 1 := (vc_X12_ring_24 h43 h20)
        refine sv_aload_n (pc := 35) dX12_raise_35 rfl rfl ?_
        refine gf_X12_9 (pc := 36) dX12_raise_36 wF_X12_53 (A_106 hw) hT ?_
        refine mr_iload_n (pc := 39) (z := p1) dX12_raise_39 rfl rfl ?_
        refine mr_iload_n (pc := 40) (z := p2) dX12_raise_40 rfl rfl ?_
        refine ss_112 (pc := 41) dX12_raise_41 (A_112 hw) hT (rIx (n := 20) h12 rfl) (rW (c := 0) (d := 1) h42 rfl) fun μ45 u46 T47 => ?_
        refine mr_iload_n (pc := 42) (z := p2) dX12_raise_42 rfl rfl ?_
        refine mr_if_eq (pc := 43) (tgt := 76) dX12_raise_43 (by decide) (r32 h42 rfl) (fun _ => ?_) (fun h => ((vc_X10_firstWrongStep_7 h h42)).elim)
        refine mr_iload_n (pc := 76) (z := p1) dX12_raise_76 rfl rfl ?_
        refine mr_iconst (pc := 77) (z := 0) dX12_raise_77 ?_
        refine mr_iconst (pc := 78) (z := 0) dX12_raise_78 ?_
        refine mr_cSP (pc := 79) (c_X12_slot_W hw T47 (rW (c := 0) (d := 20) h12 rfl) (rW (c := 0) (d := 2) (rR (x := 0)) rfl) (rW (c := 0) (d := 9) (rR (x := 0)) rfl) ((((W22 h20).2 h23).1 h43) μ45 u46 T47)) (gOk _ _ _ _ _) dX12_raise_79 (tX12_slot _ _ _ _ _) wS_X12_slot wM_X12_545 ⟨le_t rfl, le_t rfl⟩ ⟨le_t rfl, le_t rfl⟩ rfl (le_t rfl) fun z52 h51 => ?_
        have h53 : 0 ≤ z52 ∧ z52 ≤ 380 := (vc_X12_raise_W_13 h51.2.1 h7.2.1 h7.2.2.1 h11 h12 h13 h51.1 h10)
        refine mr_istore (pc := 82) (lv' := [(4, iv z52), (3, iv z19), (0, .ref 106), (1, iv p1), (2, iv p2)]) dX12_raise_82 (by decide) rfl ?_
        have L331 : ∀ (nL331 : Nat) (z329 : Int) (μ330 : mM), mT w μ330 → mF [126999, 155999, 157999, 159999] w μ45 μ330 → (0 ≤ z329 ∧ z329 ≤ 400) → G1 μ330 → EV μ330 → PK μ330 → (401 - z329) < (nL331 : Int) → loopF (WL_X12_raise_W_2 w p1 Q z19 μ45) False nL331 (z329, μ330) → sV (gG l D c H0 sa) mX12_raise (sRm 12 0 0) (sZ (gG l D c H0 sa) 0 0 (qI w [106026, 106027, 106028, 106029, 106030, 106031, 106072, 112999, 126999, 151999, 152999, 153999, 155999, 156999, 157999, 158999, 159999, 160999, 161999, 165999] μ (fun z μ1 => ((-2147483648) ≤ z ∧ z ≤ 2147483647) ∧ G1 μ1 ∧ EV μ1 ∧ Q z μ1 ∧ True))) 84 [(0, .ref 106), (1, iv p1), (3, iv z19), (4, iv z329)] [] (mk w μ330) 0 0 := by
          intro nL331
          induction nL331 with
          | zero => intro z329 μ330 T333 F334 h332 I336 I337 I338 h339 W340; exact ((vc_X12_count_1 h339 h332)).elim
          | succ nL331 ih341 =>
            intro z329 μ330 T333 F334 h332 I336 I337 I338 h339 W340
            refine mr_iload (pc := 84) (z := z329) dX12_raise_84 rfl ?_
            refine mr_iload_n (pc := 86) (z := p1) dX12_raise_86 rfl rfl ?_
            refine mr_iconst (pc := 87) (z := 2) dX12_raise_87 ?_
            refine mr_iconst (pc := 88) (z := 0) dX12_raise_88 ?_
            refine mr_cSP (pc := 89) (c_X12_slot_W hw T333 (rW (c := 0) (d := 20) h12 rfl) (rW (c := 0) (d := 2) (rR (x := 2)) rfl) (rW (c := 0) (d := 9) (rR (x := 0)) rfl) (W340 z329 μ330 rfl h332 T333 F334)) (gOk _ _ _ _ _) dX12_raise_89 (tX12_slot _ _ _ _ _) wS_X12_slot wM_X12_545 ⟨le_t rfl, le_t rfl⟩ ⟨le_t rfl, le_t rfl⟩ rfl (le_t rfl) fun z346 h345 => ?_
            have h347 : 20 ≤ z346 ∧ z346 ≤ 400 := (vc_X12_raise_W_15 h345.2.1 h7.2.1 h7.2.2.1 h11 h51.2.1 h12 h13 h345.1 h53 h10)
            refine mr_icmp_ge (pc := 92) (tgt := 145) dX12_raise_92 (by decide) (r32 h332 rfl) (r32 h347 rfl) (fun h381 => ?_) (fun h381 => ?_)
            · have h382 : 20 ≤ z329 ∧ z329 ≤ 400 := (vc_X12_raise_W_16 h381 h345.2.1 h12 h332 h347)
              refine sv_aload_n (pc := 145) dX12_raise_145 rfl rfl ?_
              refine sv_aload_n (pc := 146) dX12_raise_146 rfl rfl ?_
              refine gf_X12_7 (pc := 147) dX12_raise_147 wF_X12_40 (A_106 hw) T333 ?_
              refine mr_iconst (pc := 150) (z := 2) dX12_raise_150 ?_
              refine mr_iload_n (pc := 151) (z := p1) dX12_raise_151 rfl rfl ?_
              refine mr_imul (pc := 152) (x := 2) (y := p1) dX12_raise_152 ?_
              refine la_110 (pc := 153) dX12_raise_153 (A_110 hw) T333 (rIx (n := 40) (rMulL (n := 2) (e := 0) (f := 38) h12 rfl) rfl) fun z383 q384 h385 => ?_
              refine mr_cVV (pc := 154) (c_X12_lookAll_W hw T333 h385 I336 I337 I338 (((h345.2.2.1 h345.1).1 h381) z383 q384 h385)) (gOk _ _ _ _ _) dX12_raise_154 (tX12_lookAll _ _ _ _ _) ⟨wV_X12_lookAll, wL_X12_lookAll⟩ wM_X12_600 (gCX12 _ _ _ _ _) rfl (A_106 hw) rfl ⟨le_t rfl, le_t rfl⟩ ⟨le_t rfl, le_t rfl⟩ rfl (le_t rfl) fun μ386 T387 F388 h389 => ?_
              refine sv_aload_n (pc := 157) dX12_raise_157 rfl rfl ?_
              refine sv_aload_n (pc := 158) dX12_raise_158 rfl rfl ?_
              refine gf_X12_7 (pc := 159) dX12_raise_159 wF_X12_40 (A_106 hw) T387 ?_
              refine mr_iconst (pc := 162) (z := 2) dX12_raise_162 ?_
              refine mr_iload_n (pc := 163) (z := p1) dX12_raise_163 rfl rfl ?_
              refine mr_imul (pc := 164) (x := 2) (y := p1) dX12_raise_164 ?_
              refine mr_iconst (pc := 165) (z := 1) dX12_raise_165 ?_
              refine mr_iadd (pc := 166) (x := (2 * p1)) (y := 1) dX12_raise_166 ?_
              refine la_110 (pc := 167) dX12_raise_167 (A_110 hw) T387 (rIx (n := 40) (rAdd (e := 1) (f := 39) (rMulL (n := 2) (e := 0) (f := 38) h12 rfl) (rR (x := 1)) rfl) rfl) fun z390 q391 h392 => ?_
              refine mr_cVV (pc := 168) (c_X12_lookAll_W hw T387 h392 h389.2.1 h389.2.2.1 (PK.keep I338 hw ((mF.call mF.refl F388 rfl) : mF [106026, 106027, 106028, 106029, 106030, 106031, 106072, 126999, 151999, 152999, 153999, 155999, 156999, 157999, 158999, 159999, 160999, 161999, 165999] w μ330 μ386) rfl) ((h389.2.2.2.1 T387 F388) z390 q391 h392)) (gOk _ _ _ _ _) dX12_raise_168 (tX12_lookAll _ _ _ _ _) ⟨wV_X12_lookAll, wL_X12_lookAll⟩ wM_X12_600 (gCX12 _ _ _ _ _) rfl (A_106 hw) rfl ⟨le_t rfl, le_t rfl⟩ ⟨le_t rfl, le_t rfl⟩ rfl (le_t rfl) fun μ393 T394 F395 h396 => ?_
              refine mr_iload_n (pc := 171) (z := z19) dX12_raise_171 rfl rfl ?_
              exact mr_iret dX12_raise_172 rfl (le_t rfl) (le_t rfl) T394 (mF.call (mF.call (mF.call (mF.up mF.refl (A_112 hw) u46 rfl) F334 rfl) F388 rfl) F395 rfl) ⟨(rW (c := (-2147483648)) (d := 2147483647) h44 rfl), h396.2.1, h396.2.2.1, (h396.2.2.2.1 T394 F395), trivial⟩
            have h397 : 0 ≤ z329 ∧ z329 ≤ 399 := (vc_X12_raise_W_17 h381 h345.2.1 h12 h332 h347)
            refine sv_aload_n (pc := 95) dX12_raise_95 rfl rfl ?_
            refine mr_sipush (pc := 96) (z := 130) dX12_raise_96 (by decide) ?_
            refine mr_iload (pc := 99) (z := z329) dX12_raise_99 rfl ?_
            refine mr_iadd (pc := 101) (x := 130) (y := z329) dX12_raise_101 ?_
            refine mr_cVV (pc := 102) (c_X12_nothing_W hw T333 (rW (c := 0) (d := 2099) (rAdd (e := 130) (f := 529) (rR (x := 130)) h397 rfl) rfl) ((h345.2.2.1 h345.1).2 h381)) (gOk _ _ _ _ _) dX12_raise_102 (tX12_nothing _ _ _ _ _) ⟨wV_X12_nothing, wL_X12_nothing⟩ wM_X12_539 (gCX12 _ _ _ _ _) rfl (A_106 hw) rfl ⟨le_t rfl, le_t rfl⟩ ⟨le_t rfl, le_t rfl⟩ rfl (le_t rfl) fun μ398 T399 F400 h401 => ?_
            obtain ⟨z402, q403, h404⟩ := h401
            have h405 := rt7 T399 (A_126 hw) (vc_X12_raise_W_18 h381 h345.2.1 h12 h397 h347) q403
            have h406 : (-1) ≤ z402 ∧ z402 ≤ 9 := h405.2.1 (vc_X12_raise_W_19 h381 h345.2.1 h12 h397 h347)
            have q407 : μ398 126 ((40 * (130 + z329)).toNat) = (-1) := q403.trans h404.2.1
            have h408 : (-1) ≤ z402 ∧ z402 ≤ (-1) := (vc_X12_candidate_4 h404.2.1 h406)
            refine sv_aload_n (pc := 105) dX12_raise_105 rfl rfl ?_
            refine mr_sipush (pc := 106) (z := 530) dX12_raise_106 (by decide) ?_
            refine mr_iload (pc := 109) (z := z329) dX12_raise_109 rfl ?_
            refine mr_iadd (pc := 111) (x := 530) (y := z329) dX12_raise_111 ?_
            refine mr_cVV (pc := 112) (c_X12_nothing_W hw T399 (rW (c := 0) (d := 2099) (rAdd (e := 530) (f := 929) (rR (x := 530)) h397 rfl) rfl) ((h404.2.2.1 T399 F400) z402 q403)) (gOk _ _ _ _ _) dX12_raise_112 (tX12_nothing _ _ _ _ _) ⟨wV_X12_nothing, wL_X12_nothing⟩ wM_X12_539 (gCX12 _ _ _ _ _) rfl (A_106 hw) rfl ⟨le_t rfl, le_t rfl⟩ ⟨le_t rfl, le_t rfl⟩ rfl (le_t rfl) fun μ409 T410 F411 h412 => ?_
            obtain ⟨z413, q414, h415⟩ := h412
            have h416 := rt7 T410 (A_126 hw) (vc_X12_raise_W_21 h381 h345.2.1 h12 h397 h347) q414
            have h417 : (-1) ≤ z413 ∧ z413 ≤ 9 := h416.2.1 (vc_X12_raise_W_22 h381 h345.2.1 h12 h397 h347)
            have q418 : μ409 126 ((40 * (530 + z329)).toNat) = (-1) := q414.trans h415.2.1
            have h419 : (-1) ≤ z413 ∧ z413 ≤ (-1) := (vc_X12_candidate_4 h415.2.1 h417)
            refine sv_aload_n (pc := 115) dX12_raise_115 rfl rfl ?_
            refine gf_X12_75 (pc := 116) dX12_raise_116 wF_X12_427 (A_106 hw) T410 ?_
            refine mr_iload (pc := 119) (z := z329) dX12_raise_119 rfl ?_
            refine mr_iconst (pc := 121) (z := 0) dX12_raise_121 ?_
            refine ss_155 (pc := 122) dX12_raise_122 (A_155 hw) T410 (rIx (n := 400) h397 rfl) (rW (c := 0) (d := 1) (rR (x := 0)) rfl) fun μ420 u421 T422 => ?_
            refine sv_aload_n (pc := 123) dX12_raise_123 rfl rfl ?_
            refine gf_X12_77 (pc := 124) dX12_raise_124 wF_X12_433 (A_106 hw) T422 ?_
            refine mr_iload (pc := 127) (z := z329) dX12_raise_127 rfl ?_
            refine mr_iconst (pc := 129) (z := (-1)) dX12_raise_129 ?_
            refine ss_157 (pc := 130) dX12_raise_130 (A_157 hw) T422 (rIx (n := 400) h397 rfl) (rW (c := (-1)) (d := 2000001000) (rR (x := (-1))) rfl) fun μ423 u424 T425 => ?_
            have I426 : EV μ423 := EV.up1 (EV.keep I337 hw ((mF.up (mF.call (mF.call mF.refl F400 rfl) F411 rfl) (A_155 hw) u421 rfl) : mF [126999, 155999] w μ330 μ420) rfl) u424 (u424.f (Or.inl (mAt.ne (A_157 hw) (A_106 hw) rfl)) (u421.f (Or.inl (mAt.ne (A_155 hw) (A_106 hw) rfl)) (F411.f (A_106 hw) rfl (F400.f (A_106 hw) rfl (F334.f (A_106 hw) rfl (u46.f (Or.inl (mAt.ne (A_112 hw) (A_106 hw) rfl)) q2)))))) (vc_X12_raise_W_24 h381 h345.2.1 h12 h397 h347) (vc_X12_raise_W_25 h7.2.1 h7.2.2.1 h11 h381 h9 h51.2.1 h345.2.1 h12 h13 h397 h347 h53 h10)
            refine sv_aload_n (pc := 131) dX12_raise_131 rfl rfl ?_
            refine gf_X12_79 (pc := 132) dX12_raise_132 wF_X12_439 (A_106 hw) T425 ?_
            refine mr_iload (pc := 135) (z := z329) dX12_raise_135 rfl ?_
            refine mr_iconst (pc := 137) (z := (-1)) dX12_raise_137 ?_
            refine ss_159 (pc := 138) dX12_raise_138 (A_159 hw) T425 (rIx (n := 400) h397 rfl) (rW (c := (-1)) (d := 2000001000) (rR (x := (-1))) rfl) fun μ427 u428 T429 => ?_
            have I430 : EV μ427 := EV.up2 I426 u428 (u428.f (Or.inl (mAt.ne (A_159 hw) (A_106 hw) rfl)) (u424.f (Or.inl (mAt.ne (A_157 hw) (A_106 hw) rfl)) (u421.f (Or.inl (mAt.ne (A_155 hw) (A_106 hw) rfl)) (F411.f (A_106 hw) rfl (F400.f (A_106 hw) rfl (F334.f (A_106 hw) rfl (u46.f (Or.inl (mAt.ne (A_112 hw) (A_106 hw) rfl)) q2))))))) (vc_X12_raise_W_24 h381 h345.2.1 h12 h397 h347) (vc_X12_raise_W_25 h7.2.1 h7.2.2.1 h11 h381 h9 h51.2.1 h345.2.1 h12 h13 h397 h347 h53 h10)
            refine mr_iinc (pc := 139) (lv' := [(4, iv (z329 + 1)), (0, .ref 106), (1, iv p1), (3, iv z19)]) dX12_raise_139 rfl (by decide) rfl ?_
            refine sv_goto (pc := 142) (tgt := 84) dX12_raise_142 (by decide) ?_
            refine mr_lvS (lv' := [(0, .ref 106), (1, iv p1), (3, iv z19), (4, iv (z329 + 1))]) (List.forall_mem_cons.mpr ⟨rfl, List.forall_mem_cons.mpr ⟨rfl, List.forall_mem_cons.mpr ⟨rfl, List.forall_mem_cons.mpr ⟨rfl, fun _ h => absurd h List.not_mem_nil⟩⟩⟩⟩) ?_
            exact ih341 (z329 + 1) μ427 T429 (mF.up (mF.up (mF.up (mF.call (mF.call (mF.call mF.refl F334 rfl) F400 rfl) F411 rfl) (A_155 hw) u421 rfl) (A_157 hw) u424 rfl) (A_159 hw) u428 rfl) (rW (c := 0) (d := 400) (rAdd (e := 1) (f := 400) h397 (rR (x := 1)) rfl) rfl) (G1.keep I336 hw ((mF.up (mF.up (mF.up (mF.call (mF.call mF.refl F400 rfl) F411 rfl) (A_155 hw) u421 rfl) (A_157 hw) u424 rfl) (A_159 hw) u428 rfl) : mF [126999, 155999, 157999, 159999] w μ330 μ427) rfl rfl ((mG.upO (mG.upO (mG.upO (mG.call (mG.call mG.refl h404.1 (List.forall_mem_cons.mpr ⟨⟨_, List.mem_cons_self, (vc_X12_raise_W_27 h381 h345.2.1 h12 h397 h347)⟩, (fun _ h => absurd h List.not_mem_nil)⟩)) h415.1 (List.forall_mem_cons.mpr ⟨⟨_, (List.mem_cons_of_mem _ List.mem_cons_self), (vc_X12_raise_W_28 h381 h345.2.1 h12 h397 h347)⟩, (fun _ h => absurd h List.not_mem_nil)⟩)) u421 rfl) u424 rfl) u428 rfl) : mG [((40 * (130 + z329)), ((40 * (130 + z329)) + 1)), ((40 * (530 + z329)), ((40 * (530 + z329)) + 1))] μ330 μ427) (List.forall_mem_cons.mpr ⟨(vc_X12_raise_W_30 h381 h345.2.1 h12 h397 h347), (List.forall_mem_cons.mpr ⟨(vc_X12_raise_W_29 h381 h345.2.1 h12 h397 h347), (fun _ h => absurd h List.not_mem_nil)⟩)⟩)) I430 (PK.keep I338 hw ((mF.up (mF.up (mF.up (mF.call (mF.call mF.refl F400 rfl) F411 rfl) (A_155 hw) u421 rfl) (A_157 hw) u424 rfl) (A_159 hw) u428 rfl) : mF [126999, 155999, 157999, 159999] w μ330 μ427) rfl) (vc_X12_raise_W_26 (nS h339) h381 h345.2.1 h12 h397 h347) (((((h415.2.2.1 T410 F411) z413 q414) μ420 u421 T422) μ423 u424 T425) μ427 u428 T429)
        refine mr_lvS (lv' := [(0, .ref 106), (1, iv p1), (3, iv z19), (4, iv z52)]) (List.forall_mem_cons.mpr ⟨rfl, List.forall_mem_cons.mpr ⟨rfl, List.forall_mem_cons.mpr ⟨rfl, List.forall_mem_cons.mpr ⟨rfl, fun _ h => absurd h List.not_mem_nil⟩⟩⟩⟩) ?_
        exact L331 402 z52 μ45 T47 mF.refl (rW (c := 0) (d := 400) h53 rfl) (G1.keep hIG1 hw ((mF.up mF.refl (A_112 hw) u46 rfl) : mF [112999] w μ μ45) rfl rfl ((mG.upO mG.refl u46 rfl) : mG [] μ μ45) (fun _ h => absurd h List.not_mem_nil)) (EV.keep hIEV hw ((mF.up mF.refl (A_112 hw) u46 rfl) : mF [112999] w μ μ45) rfl) (PK.keep hIPK hw ((mF.up mF.refl (A_112 hw) u46 rfl) : mF [112999] w μ μ45) rfl) (vc_X12_raise_W_31 h51.2.1 h7.2.1 h7.2.2.1 h11 h12 h13 h53 h10) (h51.2.2.1 h51.1)
      have h431 : 0 ≤ z19 ∧ z19 ≤ 0 := (vc_X12_ring_22 h43 h20)
      refine mr_iconst (pc := 33) (z := 0) dX12_raise_33 ?_
      exact mr_iret dX12_raise_34 rfl (le_t rfl) (le_t rfl) hT mF.refl ⟨(rW (c := (-2147483648)) (d := 2147483647) (rR (x := 0)) rfl), hIG1, hIEV, (((W22 h20).2 h23).2 h43), trivial⟩
    refine mr_if_eq (pc := 16) (tgt := 23) dX12_raise_16 (by decide) (r32 h16 rfl) (fun h432 => ?_) (fun h432 => ?_)
    · have h433 : 0 ≤ z14 ∧ z14 ≤ 0 := (vc_X12_ring_22 h432 h16)
      refine mr_iconst (pc := 23) (z := 0) dX12_raise_23 ?_
      exact J21 0 (rW (c := 0) (d := 1) (rR (x := 0)) rfl) ((((h7.2.2.2.1 h7.1).1 h9) z14 q15 h16).1 h432)
    have h434 : 1 ≤ z14 ∧ z14 ≤ 1 := (vc_X12_ring_24 h432 h16)
    refine mr_iconst (pc := 19) (z := 1) dX12_raise_19 ?_
    refine sv_goto (pc := 20) (tgt := 24) dX12_raise_20 (by decide) ?_
    exact J21 1 (rW (c := 0) (d := 1) (rR (x := 1)) rfl) ((((h7.2.2.2.1 h7.1).1 h9) z14 q15 h16).2 h432)
  have h435 : 0 ≤ z8 ∧ z8 ≤ 0 := (vc_X12_write_1 h9 h7.2.1 h7.2.2.1 hp1 h3 h7.1)
  have h436 : p1 < 0 ∨ z1 ≤ p1 := (h7.2.2.1 (vc_X12_write_2 h7.2.1 h7.2.2.1 h9 hp1 h3 h435))
  refine mr_iconst (pc := 8) (z := (-1)) dX12_raise_8 ?_
  exact mr_iret dX12_raise_9 rfl (le_t rfl) (le_t rfl) hT mF.refl ⟨(rW (c := (-2147483648)) (d := 2147483647) (rR (x := (-1))) rfl), hIG1, hIEV, ((h7.2.2.2.1 h7.1).2 h9), trivial⟩
def WP_X11_use_W (w : mW) (μ : mM) (p1 : Int) (p2 : Int) (p3 : Int) (p4 : Int) (Q : Int → mM → Prop) : Prop := ∀ z1 : Int, μ 6 16 = z1 → (z1 = w.2.2.2 1 ∧ 0 ≤ z1 ∧ z1 ≤ 20) → WP_X11_isTie_W w μ p1 (fun z8 _ => (0 ≤ z8 ∧ z8 ≤ 1) → ((z8 = 0) → Q ((-1) : Int) μ) ∧ ((¬ z8 = 0) → WP_X11_isEither_W w μ p2 (fun z20 _ => (0 ≤ z20 ∧ z20 ≤ 1) → ((z20 = 0) → Q ((-1) : Int) μ) ∧ ((¬ z20 = 0) → WP_X11_isEither_W w μ p3 (fun z31 _ => (0 ≤ z31 ∧ z31 ≤ 1) → ((¬ z31 = 0) → ((p4 = (-99999999)) → ∀ b38 : Nat, μ 11 (p1.toNat) = (b38 : Int) → mAt w b38 220 → ∀ μ42 : mM, mU μ (b38 + 1) (((p2 * 2) + p3).toNat) p4 μ42 → mT w μ42 → ((¬ p3 = 0) → WP_X8_sayAll_W w μ42 p1 p2 (fun μ62 => mT w μ62 → mF [21002, 21003, 21004, 21005, 21006, 21007, 32010, 33999, 34999, 200002, 200003, 200004, 200005, 200006, 200007, 200008, 200009, 201999, 202999] w μ42 μ62 → Q (0 : Int) μ62)) ∧ ((p3 = 0) → WP_X9_end_W w μ42 b38 p2 (fun z71 _ => (0 ≤ z71 ∧ z71 ≤ 9) → WP_X8_lookAtAll_W w μ42 z71 (fun μ72 => mT w μ72 → mF [21002, 21003, 21004, 21005, 21006, 21007, 32009, 32010, 33999, 34999, 66999, 200002, 200003, 200004, 200005, 200006, 200007, 200008, 200009, 200010, 200011, 201999, 202999, 213999] w μ42 μ72 → Q (0 : Int) μ72)))) ∧ ((¬ p4 = (-99999999)) → ((p4 < 0) → Q ((-1) : Int) μ) ∧ ((0 ≤ p4) → ∀ z79 : Int, μ 21 8 = z79 → (z79 = w.2.2.2 2 ∧ 0 ≤ z79 ∧ z79 ≤ 12) → ((p4 < z79) → ∀ b85 : Nat, μ 11 (p1.toNat) = (b85 : Int) → mAt w b85 220 → ∀ μ89 : mM, mU μ (b85 + 1) (((p2 * 2) + p3).toNat) p4 μ89 → mT w μ89 → ((¬ p3 = 0) → WP_X8_sayAll_W w μ89 p1 p2 (fun μ109 => mT w μ109 → mF [21002, 21003, 21004, 21005, 21006, 21007, 32010, 33999, 34999, 200002, 200003, 200004, 200005, 200006, 200007, 200008, 200009, 201999, 202999] w μ89 μ109 → Q (0 : Int) μ109)) ∧ ((p3 = 0) → WP_X9_end_W w μ89 b85 p2 (fun z119 _ => (0 ≤ z119 ∧ z119 ≤ 9) → WP_X8_lookAtAll_W w μ89 z119 (fun μ121 => mT w μ121 → mF [21002, 21003, 21004, 21005, 21006, 21007, 32009, 32010, 33999, 34999, 66999, 200002, 200003, 200004, 200005, 200006, 200007, 200008, 200009, 200010, 200011, 201999, 202999, 213999] w μ89 μ121 → Q (0 : Int) μ121)))) ∧ ((z79 ≤ p4) → Q ((-1) : Int) μ)))) ∧ ((z31 = 0) → Q ((-1) : Int) μ))))))
theorem vc_X11_use_W_17 {p4 : Int} (h0 : p4 = (-99999999)) (h1 : (-99999999) ≤ p4 ∧ p4 ≤ (-99999999)) : p4 = -99999999 ∨ (0 ≤ p4 ∧ p4 ≤ 11) := by omega
theorem vc_X11_use_W_21 {p4 : Int} (h0 : p4 < 0) (h1 : ¬ p4 = (-99999999)) (h2 : (-2147483648) ≤ p4 ∧ p4 ≤ 2147483647) : (-2147483648) ≤ p4 ∧ p4 ≤ (-1) := by omega
theorem vc_X11_use_W_22 {p4 : Int} (h0 : 0 ≤ p4) (h1 : ¬ p4 = (-99999999)) (h2 : (-2147483648) ≤ p4 ∧ p4 ≤ 2147483647) : 0 ≤ p4 ∧ p4 ≤ 2147483647 := by omega
theorem vc_X11_use_W_23 {n2 p4 z79 : Int} (h0 : p4 < z79) (h1 : ¬ p4 = (-99999999)) (h2 : 0 ≤ p4) (h3 : z79 = n2) (h4 : 0 ≤ p4 ∧ p4 ≤ 2147483647) (h5 : 0 ≤ z79 ∧ z79 ≤ 12) : 0 ≤ p4 ∧ p4 ≤ 11 := by omega
theorem vc_X11_use_W_24 {n2 p4 z79 : Int} (h0 : p4 < z79) (h1 : ¬ p4 = (-99999999)) (h2 : 0 ≤ p4) (h3 : z79 = n2) (h4 : 0 ≤ p4 ∧ p4 ≤ 11) (h5 : 0 ≤ z79 ∧ z79 ≤ 12) : 1 ≤ z79 ∧ z79 ≤ 12 := by omega
theorem vc_X11_use_W_25 {n2 p4 z79 : Int} (h0 : ¬ p4 = (-99999999)) (h1 : 0 ≤ p4) (h2 : p4 < z79) (h3 : z79 = n2) (h4 : 0 ≤ p4 ∧ p4 ≤ 11) (h5 : 1 ≤ z79 ∧ z79 ≤ 12) : p4 = -99999999 ∨ (0 ≤ p4 ∧ p4 ≤ 11) := by omega
set_option maxRecDepth 4000 in
set_option maxHeartbeats 4000000 in
theorem c_X11_use_W {l : Launch} {D : va_G} {c : Nat → ClassId} {H0 : Heap} {sa : Nat × Nat × (Nat → Int32)} {w : mW} {μ : mM} (hw : mWF w) (hT : mT w μ) {p1 : Int} (hp1 : (-2147483648) ≤ p1 ∧ p1 ≤ 2147483647) {p2 : Int} (hp2 : (-2147483648) ≤ p2 ∧ p2 ≤ 2147483647) {p3 : Int} (hp3 : (-2147483648) ≤ p3 ∧ p3 ≤ 2147483647) {p4 : Int} (hp4 : (-2147483648) ≤ p4 ∧ p4 ≤ 2147483647) (hIPC : PC w μ) {Q : Int → mM → Prop} (hQ : WP_X11_use_W w μ p1 p2 p3 p4 Q) : sC (gG l D c H0 sa) mX11_use 44 0 0 [.ref 0, iv p1, iv p2, iv p3, iv p4] (mk w μ) (qI w [21002, 21003, 21004, 21005, 21006, 21007, 32009, 32010, 33999, 34999, 66999, 200002, 200003, 200004, 200005, 200006, 200007, 200008, 200009, 200010, 200011, 201999, 202999, 213999, 221999] μ (fun z μ1 => ((-2147483648) ≤ z ∧ z ≤ 2147483647) ∧ Q z μ1 ∧ True)) := by
  refine sC.of rfl (by decide) (le_t rfl) ?_
  refine mr_lvE (lv' := [(0, .ref 0), (1, iv p1), (2, iv p2), (3, iv p3), (4, iv p4)]) rfl ?_
  refine sv_aload_n (pc := 0) dX11_use_0 rfl rfl ?_
  refine mr_iload_n (pc := 1) (z := p1) dX11_use_1 rfl rfl ?_
  obtain ⟨z1, q2⟩ : ∃ z, μ 6 16 = z := ⟨_, rfl⟩
  have h3 : (z1 = w.2.2.2 1 ∧ 0 ≤ z1 ∧ z1 ≤ 20) := by rw [← q2]; exact hT 6 6 (A_6 hw) 16
  refine mr_cVP (pc := 2) (c_X11_isTie_W hw hT hp1 q2 (hQ z1 q2 h3)) (gOk _ _ _ _ _) dX11_use_2 (tX11_isTie _ _ _ _ _) ⟨wV_X11_isTie, wL_X11_isTie⟩ wM_X11_119 (gCX11 _ _ _ _ _) rfl (A_0 hw) rfl ⟨le_t rfl, le_t rfl⟩ ⟨le_t rfl, le_t rfl⟩ rfl (le_t rfl) fun z8 h7 => ?_
  refine mr_if_eq (pc := 5) (tgt := 22) dX11_use_5 (by decide) (r32 h7.1 rfl) (fun h9 => ?_) (fun h9 => ?_)
  · have h10 : 0 ≤ z8 ∧ z8 ≤ 0 := (vc_X12_write_1 h9 h7.2.1 h7.2.2.1 hp1 h3.2 h7.1)
    have h11 : p1 < 0 ∨ z1 ≤ p1 := (h7.2.2.1 (vc_X11_write_2 h7.2.1 h7.2.2.1 h9 h3.1 hp1 h3.2 h10))
    refine mr_iconst (pc := 22) (z := (-1)) dX11_use_22 ?_
    exact mr_iret dX11_use_23 rfl (le_t rfl) (le_t rfl) hT mF.refl ⟨(rW (c := (-2147483648)) (d := 2147483647) (rR (x := (-1))) rfl), ((h7.2.2.2.1 h7.1).1 h9), trivial⟩
  have h12 : 1 ≤ z8 ∧ z8 ≤ 1 := (vc_X12_write_3 h9 h7.2.1 h7.2.2.1 hp1 h3.2 h7.1)
  have h13 : 0 ≤ p1 ∧ p1 < z1 := (h7.2.1 (vc_X11_write_4 h7.2.1 h7.2.2.1 h9 h3.1 hp1 h3.2 h12))
  have h14 : 0 ≤ p1 ∧ p1 ≤ 19 := (vc_X11_write_5 h13 h3.1 h7.2.1 h7.2.2.1 hp1 h3.2 h12)
  have h15 : 1 ≤ z1 ∧ z1 ≤ 20 := (vc_X11_write_6 h13 h3.1 h7.2.1 h7.2.2.1 h14 h3.2 h12)
  refine mr_iload_n (pc := 8) (z := p2) dX11_use_8 rfl rfl ?_
  refine mr_cSP (pc := 9) (c_X11_isEither_W hw hT hp2 ((h7.2.2.2.1 h7.1).2 h9)) (gOk _ _ _ _ _) dX11_use_9 (tX11_isEither _ _ _ _ _) wS_X11_isEither wM_X11_271 ⟨le_t rfl, le_t rfl⟩ ⟨le_t rfl, le_t rfl⟩ rfl (le_t rfl) fun z20 h19 => ?_
  refine mr_if_eq (pc := 12) (tgt := 22) dX11_use_12 (by decide) (r32 h19.1 rfl) (fun h21 => ?_) (fun h21 => ?_)
  · have h22 : 0 ≤ z20 ∧ z20 ≤ 0 := (vc_X11_write_7 h21 h19.2.1 h19.2.2.1 hp2 h19.1)
    have h23 : p2 < 0 ∨ 1 < p2 := (h19.2.2.1 (vc_X11_write_8 h19.2.1 h19.2.2.1 h21 hp2 h22))
    refine mr_iconst (pc := 22) (z := (-1)) dX11_use_22 ?_
    exact mr_iret dX11_use_23 rfl (le_t rfl) (le_t rfl) hT mF.refl ⟨(rW (c := (-2147483648)) (d := 2147483647) (rR (x := (-1))) rfl), ((h19.2.2.2.1 h19.1).1 h21), trivial⟩
  have h24 : 1 ≤ z20 ∧ z20 ≤ 1 := (vc_X11_write_9 h21 h19.2.1 h19.2.2.1 hp2 h19.1)
  have h25 : 0 ≤ p2 ∧ p2 ≤ 1 := (h19.2.1 (vc_X11_write_10 h19.2.1 h19.2.2.1 h21 hp2 h24))
  have h26 : 0 ≤ p2 ∧ p2 ≤ 1 := (vc_X11_write_11 h25 h19.2.1 h19.2.2.1 hp2 h24)
  refine mr_iload_n (pc := 15) (z := p3) dX11_use_15 rfl rfl ?_
  refine mr_cSP (pc := 16) (c_X11_isEither_W hw hT hp3 ((h19.2.2.2.1 h19.1).2 h21)) (gOk _ _ _ _ _) dX11_use_16 (tX11_isEither _ _ _ _ _) wS_X11_isEither wM_X11_271 ⟨le_t rfl, le_t rfl⟩ ⟨le_t rfl, le_t rfl⟩ rfl (le_t rfl) fun z31 h30 => ?_
  refine mr_if_ne (pc := 19) (tgt := 24) dX11_use_19 (by decide) (r32 h30.1 rfl) (fun h32 => ?_) (fun h32 => ?_)
  · have h33 : 1 ≤ z31 ∧ z31 ≤ 1 := (vc_X11_write_9 h32 h30.2.1 h30.2.2.1 hp3 h30.1)
    have h34 : 0 ≤ p3 ∧ p3 ≤ 1 := (h30.2.1 (vc_X11_write_10 h30.2.1 h30.2.2.1 h32 hp3 h33))
    have h35 : 0 ≤ p3 ∧ p3 ≤ 1 := (vc_X11_write_11 h34 h30.2.1 h30.2.2.1 hp3 h33)
    refine mr_iload (pc := 24) (z := p4) dX11_use_24 rfl ?_
    refine mr_ldc (pc := 26) (z := (-99999999)) dX11_use_26 wG_X11_165 (by decide) ?_
    refine mr_icmp_eq (pc := 28) (tgt := 50) dX11_use_28 (by decide) hp4 (r32 (rR (x := (-99999999))) rfl) (fun h36 => ?_) (fun h36 => ?_)
    · have h37 : (-99999999) ≤ p4 ∧ p4 ≤ (-99999999) := (vc_X12_judgedAnew_21 h36 hp4)
      refine sv_aload_n (pc := 50) dX11_use_50 rfl rfl ?_
      refine gf_X11_3 (pc := 51) dX11_use_51 wF_X11_26 (A_0 hw) hT ?_
      refine gf_X10_4 (pc := 54) dX11_use_54 wF_X11_122 (A_6 hw) hT ?_
      refine mr_iload_n (pc := 57) (z := p1) dX11_use_57 rfl rfl ?_
      refine la_11 (pc := 58) dX11_use_58 (A_11 hw) hT (rIx (n := 20) h14 rfl) (vc_X11_write_16 h3.1 h7.2.1 h7.2.2.1 h13 h9 h14 h15 h12) fun b38 q39 A40 => ?_
      refine gf_X9_3 (pc := 59) dX11_use_59 wF_X11_274 A40 hT fun A41 => ?_
      refine mr_iload_n (pc := 62) (z := p2) dX11_use_62 rfl rfl ?_
      refine mr_iconst (pc := 63) (z := 2) dX11_use_63 ?_
      refine mr_imul (pc := 64) (x := p2) (y := 2) dX11_use_64 ?_
      refine mr_iload_n (pc := 65) (z := p3) dX11_use_65 rfl rfl ?_
      refine mr_iadd (pc := 66) (x := (p2 * 2)) (y := p3) dX11_use_66 ?_
      refine mr_iload (pc := 67) (z := p4) dX11_use_67 rfl ?_
      refine ss_221 (pc := 69) dX11_use_69 A41 hT (rIx (n := 4) (rAdd (e := 0) (f := 3) (rMulR (n := 2) (e := 0) (f := 2) h26 rfl) h35 rfl) rfl) (vc_X11_use_W_17 h36 h37) fun μ42 u43 T44 => ?_
      refine mr_iload_n (pc := 70) (z := p3) dX11_use_70 rfl rfl ?_
      refine mr_if_ne (pc := 71) (tgt := 97) dX11_use_71 (by decide) (r32 h35 rfl) (fun h60 => ?_) (fun h60 => ?_)
      · have h61 : 1 ≤ p3 ∧ p3 ≤ 1 := (vc_X11_heard_W_23 h60 h30.2.1 h30.2.2.1 h34 h33)
        refine sv_aload_n (pc := 97) dX11_use_97 rfl rfl ?_
        refine gf_X11_6 (pc := 98) dX11_use_98 wF_X11_51 (A_0 hw) T44 ?_
        refine mr_iload_n (pc := 101) (z := p1) dX11_use_101 rfl rfl ?_
        refine mr_iload_n (pc := 102) (z := p2) dX11_use_102 rfl rfl ?_
        refine mr_cVV (pc := 103) (c_X8_sayAll_W hw T44 h14 h26 (vc_X11_write_16 h3.1 h7.2.1 h7.2.2.1 h13 h9 h14 h15 h12) (PC.keep hIPC hw ((mF.up mF.refl A41 u43 rfl) : mF [221999] w μ μ42) rfl) ((((((h30.2.2.2.1 h30.1).1 h32).1 h36) b38 q39 A40) μ42 u43 T44).1 h60)) (gOk _ _ _ _ _) dX11_use_103 (tX8_sayAll _ _ _ _ _) ⟨wV_X8_sayAll, wL_X8_sayAll⟩ wM_X11_138 (gCX8 _ _ _ _ _) rfl (A_32 hw) rfl ⟨le_t rfl, le_t rfl⟩ ⟨le_t rfl, le_t rfl⟩ rfl (le_t rfl) fun μ62 T63 F64 h65 => ?_
        refine mr_iconst (pc := 106) (z := 0) dX11_use_106 ?_
        exact mr_iret dX11_use_107 rfl (le_t rfl) (le_t rfl) T63 (mF.call (mF.up mF.refl A41 u43 rfl) F64 rfl) ⟨(rW (c := (-2147483648)) (d := 2147483647) (rR (x := 0)) rfl), (h65.1 T63 F64), trivial⟩
      have h66 : 0 ≤ p3 ∧ p3 ≤ 0 := (vc_X11_heard_W_25 h60 h30.2.1 h30.2.2.1 h34 h33)
      refine sv_aload_n (pc := 74) dX11_use_74 rfl rfl ?_
      refine gf_X11_6 (pc := 75) dX11_use_75 wF_X11_51 (A_0 hw) T44 ?_
      refine sv_aload_n (pc := 78) dX11_use_78 rfl rfl ?_
      refine gf_X11_3 (pc := 79) dX11_use_79 wF_X11_26 (A_0 hw) T44 ?_
      refine gf_X10_4 (pc := 82) dX11_use_82 wF_X11_122 (A_6 hw) T44 ?_
      refine mr_iload_n (pc := 85) (z := p1) dX11_use_85 rfl rfl ?_
      refine lk_11 (pc := 86) dX11_use_86 (A_11 hw) (rIx (n := 20) h14 rfl) (u43.f (Or.inl (mAt.ne A41 (A_11 hw) rfl)) q39) ?_
      refine mr_iload_n (pc := 87) (z := p2) dX11_use_87 rfl rfl ?_
      refine mr_cVP (pc := 88) (c_X9_end_W hw T44 A40 (rW (c := (-2147483648)) (d := 2147483647) h26 rfl) ((((((h30.2.2.2.1 h30.1).1 h32).1 h36) b38 q39 A40) μ42 u43 T44).2 h60)) (gOk _ _ _ _ _) dX11_use_88 (tX9_end _ _ _ _ _) ⟨wV_X9_end, wL_X9_end⟩ wM_X11_277 (gCX9 _ _ _ _ _) rfl A40 rfl ⟨le_t rfl, le_t rfl⟩ ⟨le_t rfl, le_t rfl⟩ rfl (le_t rfl) fun z71 h70 => ?_
      refine mr_cVV (pc := 91) (c_X8_lookAtAll_W hw T44 h70.1 (vc_X9_end_1 h70.2.1 h70.1) (PC.keep hIPC hw ((mF.up mF.refl A41 u43 rfl) : mF [221999] w μ μ42) rfl) (h70.2.2.1 h70.1)) (gOk _ _ _ _ _) dX11_use_91 (tX8_lookAtAll _ _ _ _ _) ⟨wV_X8_lookAtAll, wL_X8_lookAtAll⟩ wM_X11_148 (gCX8 _ _ _ _ _) rfl (A_32 hw) rfl ⟨le_t rfl, le_t rfl⟩ ⟨le_t rfl, le_t rfl⟩ rfl (le_t rfl) fun μ72 T73 F74 h75 => ?_
      refine sv_goto (pc := 94) (tgt := 106) dX11_use_94 (by decide) ?_
      refine mr_iconst (pc := 106) (z := 0) dX11_use_106 ?_
      exact mr_iret dX11_use_107 rfl (le_t rfl) (le_t rfl) T73 (mF.call (mF.up mF.refl A41 u43 rfl) F74 rfl) ⟨(rW (c := (-2147483648)) (d := 2147483647) (rR (x := 0)) rfl), (h75.1 T73 F74), trivial⟩
    refine mr_iload (pc := 31) (z := p4) dX11_use_31 rfl ?_
    refine mr_if_lt (pc := 33) (tgt := 48) dX11_use_33 (by decide) hp4 (fun h76 => ?_) (fun h76 => ?_)
    · have h77 : (-2147483648) ≤ p4 ∧ p4 ≤ (-1) := (vc_X11_use_W_21 h76 h36 hp4)
      refine mr_iconst (pc := 48) (z := (-1)) dX11_use_48 ?_
      exact mr_iret dX11_use_49 rfl (le_t rfl) (le_t rfl) hT mF.refl ⟨(rW (c := (-2147483648)) (d := 2147483647) (rR (x := (-1))) rfl), ((((h30.2.2.2.1 h30.1).1 h32).2 h36).1 h76), trivial⟩
    have h78 : 0 ≤ p4 ∧ p4 ≤ 2147483647 := (vc_X11_use_W_22 h76 h36 hp4)
    refine mr_iload (pc := 36) (z := p4) dX11_use_36 rfl ?_
    refine sv_aload_n (pc := 38) dX11_use_38 rfl rfl ?_
    refine gf_X11_4 (pc := 39) dX11_use_39 wF_X11_35 (A_0 hw) hT ?_
    refine gf_X1_8 (pc := 42) dX11_use_42 wF_X11_205 (A_21 hw) hT fun z79 q80 h81 => ?_
    refine mr_icmp_lt (pc := 45) (tgt := 50) dX11_use_45 (by decide) (r32 h78 rfl) (r32 h81.2 rfl) (fun h82 => ?_) (fun h82 => ?_)
    · have h83 : 0 ≤ p4 ∧ p4 ≤ 11 := (vc_X11_use_W_23 h82 h36 h76 h81.1 h78 h81.2)
      have h84 : 1 ≤ z79 ∧ z79 ≤ 12 := (vc_X11_use_W_24 h82 h36 h76 h81.1 h83 h81.2)
      refine sv_aload_n (pc := 50) dX11_use_50 rfl rfl ?_
      refine gf_X11_3 (pc := 51) dX11_use_51 wF_X11_26 (A_0 hw) hT ?_
      refine gf_X10_4 (pc := 54) dX11_use_54 wF_X11_122 (A_6 hw) hT ?_
      refine mr_iload_n (pc := 57) (z := p1) dX11_use_57 rfl rfl ?_
      refine la_11 (pc := 58) dX11_use_58 (A_11 hw) hT (rIx (n := 20) h14 rfl) (vc_X11_write_16 h3.1 h7.2.1 h7.2.2.1 h13 h9 h14 h15 h12) fun b85 q86 A87 => ?_
      refine gf_X9_3 (pc := 59) dX11_use_59 wF_X11_274 A87 hT fun A88 => ?_
      refine mr_iload_n (pc := 62) (z := p2) dX11_use_62 rfl rfl ?_
      refine mr_iconst (pc := 63) (z := 2) dX11_use_63 ?_
      refine mr_imul (pc := 64) (x := p2) (y := 2) dX11_use_64 ?_
      refine mr_iload_n (pc := 65) (z := p3) dX11_use_65 rfl rfl ?_
      refine mr_iadd (pc := 66) (x := (p2 * 2)) (y := p3) dX11_use_66 ?_
      refine mr_iload (pc := 67) (z := p4) dX11_use_67 rfl ?_
      refine ss_221 (pc := 69) dX11_use_69 A88 hT (rIx (n := 4) (rAdd (e := 0) (f := 3) (rMulR (n := 2) (e := 0) (f := 2) h26 rfl) h35 rfl) rfl) (vc_X11_use_W_25 h36 h76 h82 h81.1 h83 h84) fun μ89 u90 T91 => ?_
      refine mr_iload_n (pc := 70) (z := p3) dX11_use_70 rfl rfl ?_
      refine mr_if_ne (pc := 71) (tgt := 97) dX11_use_71 (by decide) (r32 h35 rfl) (fun h107 => ?_) (fun h107 => ?_)
      · have h108 : 1 ≤ p3 ∧ p3 ≤ 1 := (vc_X11_heard_W_23 h107 h30.2.1 h30.2.2.1 h34 h33)
        refine sv_aload_n (pc := 97) dX11_use_97 rfl rfl ?_
        refine gf_X11_6 (pc := 98) dX11_use_98 wF_X11_51 (A_0 hw) T91 ?_
        refine mr_iload_n (pc := 101) (z := p1) dX11_use_101 rfl rfl ?_
        refine mr_iload_n (pc := 102) (z := p2) dX11_use_102 rfl rfl ?_
        have W113 := (((((((((h30.2.2.2.1 h30.1).1 h32).2 h36).2 h76) z79 q80 h81).1 h82) b85 q86 A87) μ89 u90 T91).1 h107)
        refine mr_cVV (pc := 103) (c_X8_sayAll_W hw T91 h14 h26 (vc_X11_write_16 h3.1 h7.2.1 h7.2.2.1 h13 h9 h14 h15 h12) (PC.keep hIPC hw ((mF.up mF.refl A88 u90 rfl) : mF [221999] w μ μ89) rfl) W113) (gOk _ _ _ _ _) dX11_use_103 (tX8_sayAll _ _ _ _ _) ⟨wV_X8_sayAll, wL_X8_sayAll⟩ wM_X11_138 (gCX8 _ _ _ _ _) rfl (A_32 hw) rfl ⟨le_t rfl, le_t rfl⟩ ⟨le_t rfl, le_t rfl⟩ rfl (le_t rfl) fun μ109 T110 F111 h112 => ?_
        refine mr_iconst (pc := 106) (z := 0) dX11_use_106 ?_
        exact mr_iret dX11_use_107 rfl (le_t rfl) (le_t rfl) T110 (mF.call (mF.up mF.refl A88 u90 rfl) F111 rfl) ⟨(rW (c := (-2147483648)) (d := 2147483647) (rR (x := 0)) rfl), (h112.1 T110 F111), trivial⟩
      have h114 : 0 ≤ p3 ∧ p3 ≤ 0 := (vc_X11_heard_W_25 h107 h30.2.1 h30.2.2.1 h34 h33)
      refine sv_aload_n (pc := 74) dX11_use_74 rfl rfl ?_
      refine gf_X11_6 (pc := 75) dX11_use_75 wF_X11_51 (A_0 hw) T91 ?_
      refine sv_aload_n (pc := 78) dX11_use_78 rfl rfl ?_
      refine gf_X11_3 (pc := 79) dX11_use_79 wF_X11_26 (A_0 hw) T91 ?_
      refine gf_X10_4 (pc := 82) dX11_use_82 wF_X11_122 (A_6 hw) T91 ?_
      refine mr_iload_n (pc := 85) (z := p1) dX11_use_85 rfl rfl ?_
      refine lk_11 (pc := 86) dX11_use_86 (A_11 hw) (rIx (n := 20) h14 rfl) (u90.f (Or.inl (mAt.ne A88 (A_11 hw) rfl)) q86) ?_
      refine mr_iload_n (pc := 87) (z := p2) dX11_use_87 rfl rfl ?_
      have W120 := (((((((((h30.2.2.2.1 h30.1).1 h32).2 h36).2 h76) z79 q80 h81).1 h82) b85 q86 A87) μ89 u90 T91).2 h107)
      refine mr_cVP (pc := 88) (c_X9_end_W hw T91 A87 (rW (c := (-2147483648)) (d := 2147483647) h26 rfl) W120) (gOk _ _ _ _ _) dX11_use_88 (tX9_end _ _ _ _ _) ⟨wV_X9_end, wL_X9_end⟩ wM_X11_277 (gCX9 _ _ _ _ _) rfl A87 rfl ⟨le_t rfl, le_t rfl⟩ ⟨le_t rfl, le_t rfl⟩ rfl (le_t rfl) fun z119 h118 => ?_
      refine mr_cVV (pc := 91) (c_X8_lookAtAll_W hw T91 h118.1 (vc_X9_end_1 h118.2.1 h118.1) (PC.keep hIPC hw ((mF.up mF.refl A88 u90 rfl) : mF [221999] w μ μ89) rfl) (h118.2.2.1 h118.1)) (gOk _ _ _ _ _) dX11_use_91 (tX8_lookAtAll _ _ _ _ _) ⟨wV_X8_lookAtAll, wL_X8_lookAtAll⟩ wM_X11_148 (gCX8 _ _ _ _ _) rfl (A_32 hw) rfl ⟨le_t rfl, le_t rfl⟩ ⟨le_t rfl, le_t rfl⟩ rfl (le_t rfl) fun μ121 T122 F123 h124 => ?_
      refine sv_goto (pc := 94) (tgt := 106) dX11_use_94 (by decide) ?_
      refine mr_iconst (pc := 106) (z := 0) dX11_use_106 ?_
      exact mr_iret dX11_use_107 rfl (le_t rfl) (le_t rfl) T122 (mF.call (mF.up mF.refl A88 u90 rfl) F123 rfl) ⟨(rW (c := (-2147483648)) (d := 2147483647) (rR (x := 0)) rfl), (h124.1 T122 F123), trivial⟩
    refine mr_iconst (pc := 48) (z := (-1)) dX11_use_48 ?_
    exact mr_iret dX11_use_49 rfl (le_t rfl) (le_t rfl) hT mF.refl ⟨(rW (c := (-2147483648)) (d := 2147483647) (rR (x := (-1))) rfl), ((((((h30.2.2.2.1 h30.1).1 h32).2 h36).2 h76) z79 q80 h81).2 h82), trivial⟩
  have h125 : 0 ≤ z31 ∧ z31 ≤ 0 := (vc_X11_write_7 h32 h30.2.1 h30.2.2.1 hp3 h30.1)
  have h126 : p3 < 0 ∨ 1 < p3 := (h30.2.2.1 (vc_X11_write_8 h30.2.1 h30.2.2.1 h32 hp3 h125))
  refine mr_iconst (pc := 22) (z := (-1)) dX11_use_22 ?_
  exact mr_iret dX11_use_23 rfl (le_t rfl) (le_t rfl) hT mF.refl ⟨(rW (c := (-2147483648)) (d := 2147483647) (rR (x := (-1))) rfl), ((h30.2.2.2.1 h30.1).2 h32), trivial⟩
