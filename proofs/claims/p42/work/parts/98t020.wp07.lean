def WP_X12_use_W (w : mW) (μ : mM) (p1 : Int) (p2 : Int) (p3 : Int) (p4 : Int) (Q : Int → mM → Prop) : Prop := ∀ z1 : Int, μ 106 6 = z1 → (0 ≤ z1 ∧ z1 ≤ 20) → WP_X12_isTie_W w μ p1 (fun z8 _ => (0 ≤ z8 ∧ z8 ≤ 1) → ((z8 = 0) → Q ((-1) : Int) μ) ∧ ((¬ z8 = 0) → WP_X12_in_W w μ p2 (0) (1) (fun z20 _ => (0 ≤ z20 ∧ z20 ≤ 1) → ((z20 = 0) → Q ((-1) : Int) μ) ∧ ((¬ z20 = 0) → WP_X12_in_W w μ p3 (0) (1) (fun z31 _ => (0 ≤ z31 ∧ z31 ≤ 1) → ((z31 = 0) → Q ((-1) : Int) μ) ∧ ((¬ z31 = 0) → ((p4 = (-99999999)) → ∀ μ40 : mM, mU μ 115 ((((4 * p1) + (2 * p2)) + p3).toNat) p4 μ40 → mT w μ40 → ∀ z43 : Int, μ40 106 39 = z43 → (0 ≤ z43 ∧ z43 ≤ 12) → ∀ z47 : Int, μ40 110 ((2 * p1).toNat) = z47 → (0 ≤ z47 ∧ z47 ≤ 9) → ∀ z50 : Int, μ40 110 (((2 * p1) + 1).toNat) = z50 → (0 ≤ z50 ∧ z50 ≤ 9) → ((p2 = 0) → ((¬ p3 = 0) → WP_X12_sayAll_W w μ40 z47 p1 (fun μ68 => mT w μ68 → mF [106026, 106027, 106028, 106029, 106030, 106031, 106072, 126999, 151999, 152999, 153999, 155999, 156999, 157999, 158999, 159999, 160999] w μ40 μ68 → Q (0 : Int) μ68)) ∧ ((p3 = 0) → WP_X12_lookAll_W w μ40 z47 (fun μ73 => mT w μ73 → mF [106026, 106027, 106028, 106029, 106030, 106031, 106072, 126999, 151999, 152999, 153999, 155999, 156999, 157999, 158999, 159999, 160999, 161999, 165999] w μ40 μ73 → Q (0 : Int) μ73))) ∧ (¬ (p2 = 0) → ((¬ p3 = 0) → WP_X12_sayAll_W w μ40 z50 p1 (fun μ90 => mT w μ90 → mF [106026, 106027, 106028, 106029, 106030, 106031, 106072, 126999, 151999, 152999, 153999, 155999, 156999, 157999, 158999, 159999, 160999] w μ40 μ90 → Q (0 : Int) μ90)) ∧ ((p3 = 0) → WP_X12_lookAll_W w μ40 z50 (fun μ95 => mT w μ95 → mF [106026, 106027, 106028, 106029, 106030, 106031, 106072, 126999, 151999, 152999, 153999, 155999, 156999, 157999, 158999, 159999, 160999, 161999, 165999] w μ40 μ95 → Q (0 : Int) μ95)))) ∧ ((¬ p4 = (-99999999)) → ∀ z99 : Int, μ 106 39 = z99 → (0 ≤ z99 ∧ z99 ≤ 12) → WP_X12_in_W w μ p4 (0) (z99 - 1) (fun z106 _ => (0 ≤ z106 ∧ z106 ≤ 1) → ((¬ z106 = 0) → ∀ μ111 : mM, mU μ 115 ((((4 * p1) + (2 * p2)) + p3).toNat) p4 μ111 → mT w μ111 → ∀ z115 : Int, μ111 110 ((2 * p1).toNat) = z115 → (0 ≤ z115 ∧ z115 ≤ 9) → ∀ z118 : Int, μ111 110 (((2 * p1) + 1).toNat) = z118 → (0 ≤ z118 ∧ z118 ≤ 9) → ((p2 = 0) → ((¬ p3 = 0) → WP_X12_sayAll_W w μ111 z115 p1 (fun μ136 => mT w μ136 → mF [106026, 106027, 106028, 106029, 106030, 106031, 106072, 126999, 151999, 152999, 153999, 155999, 156999, 157999, 158999, 159999, 160999] w μ111 μ136 → Q (0 : Int) μ136)) ∧ ((p3 = 0) → WP_X12_lookAll_W w μ111 z115 (fun μ141 => mT w μ141 → mF [106026, 106027, 106028, 106029, 106030, 106031, 106072, 126999, 151999, 152999, 153999, 155999, 156999, 157999, 158999, 159999, 160999, 161999, 165999] w μ111 μ141 → Q (0 : Int) μ141))) ∧ (¬ (p2 = 0) → ((¬ p3 = 0) → WP_X12_sayAll_W w μ111 z118 p1 (fun μ158 => mT w μ158 → mF [106026, 106027, 106028, 106029, 106030, 106031, 106072, 126999, 151999, 152999, 153999, 155999, 156999, 157999, 158999, 159999, 160999] w μ111 μ158 → Q (0 : Int) μ158)) ∧ ((p3 = 0) → WP_X12_lookAll_W w μ111 z118 (fun μ163 => mT w μ163 → mF [106026, 106027, 106028, 106029, 106030, 106031, 106072, 126999, 151999, 152999, 153999, 155999, 156999, 157999, 158999, 159999, 160999, 161999, 165999] w μ111 μ163 → Q (0 : Int) μ163)))) ∧ ((z106 = 0) → Q ((-1) : Int) μ)))))))))
theorem vc_X12_use_W_19 {p4 z43 : Int} (h0 : p4 = (-99999999)) (h1 : (-99999999) ≤ p4 ∧ p4 ≤ (-99999999)) (h2 : 0 ≤ z43 ∧ z43 ≤ 12) : p4 = -99999999 ∨ (0 ≤ p4 ∧ p4 < z43) := by omega
theorem vc_X12_use_W_21 {p1 p2 z1 z20 z8 : Int} (h0 : (z8 = 1 → 0 ≤ p1 ∧ p1 < z1)) (h1 : (z8 = 0 → p1 < 0 ∨ z1 ≤ p1)) (h2 : 0 ≤ p1 ∧ p1 < z1) (h3 : (z20 = 1 → (0 : Int) ≤ p2 ∧ p2 ≤ (1 : Int))) (h4 : (z20 = 0 → p2 < (0 : Int) ∨ (1 : Int) < p2)) (h5 : (0 : Int) ≤ p2 ∧ p2 ≤ (1 : Int)) (h6 : p2 = 0) (h7 : ¬ z8 = 0) (h8 : ¬ z20 = 0) (h9 : 0 ≤ p1 ∧ p1 ≤ 19) (h10 : 0 ≤ p2 ∧ p2 ≤ 0) (h11 : 1 ≤ z1 ∧ z1 ≤ 20) (h12 : 1 ≤ z20 ∧ z20 ≤ 1) (h13 : 1 ≤ z8 ∧ z8 ≤ 1) : ((2 * p1) + p2) = (2 * p1) := by omega
theorem vc_X12_use_W_27 {p1 p2 z1 z20 z8 : Int} (h0 : (z8 = 1 → 0 ≤ p1 ∧ p1 < z1)) (h1 : (z8 = 0 → p1 < 0 ∨ z1 ≤ p1)) (h2 : 0 ≤ p1 ∧ p1 < z1) (h3 : (z20 = 1 → (0 : Int) ≤ p2 ∧ p2 ≤ (1 : Int))) (h4 : (z20 = 0 → p2 < (0 : Int) ∨ (1 : Int) < p2)) (h5 : (0 : Int) ≤ p2 ∧ p2 ≤ (1 : Int)) (h6 : ¬ p2 = 0) (h7 : ¬ z8 = 0) (h8 : ¬ z20 = 0) (h9 : 0 ≤ p1 ∧ p1 ≤ 19) (h10 : 1 ≤ p2 ∧ p2 ≤ 1) (h11 : 1 ≤ z1 ∧ z1 ≤ 20) (h12 : 1 ≤ z20 ∧ z20 ≤ 1) (h13 : 1 ≤ z8 ∧ z8 ≤ 1) : ((2 * p1) + p2) = ((2 * p1) + 1) := by omega
theorem vc_X12_use_W_29 {p4 z106 z99 : Int} (h0 : ¬ z106 = 0) (h1 : (z106 = 1 → (0 : Int) ≤ p4 ∧ p4 ≤ (z99 - 1))) (h2 : (z106 = 0 → p4 < (0 : Int) ∨ (z99 - 1) < p4)) (h3 : (-2147483648) ≤ p4 ∧ p4 ≤ 2147483647) (h4 : 0 ≤ z106 ∧ z106 ≤ 1) (h5 : 0 ≤ z99 ∧ z99 ≤ 12) : 1 ≤ z106 ∧ z106 ≤ 1 := by omega
theorem vc_X12_use_W_30 {p4 z106 z99 : Int} (h0 : (z106 = 1 → (0 : Int) ≤ p4 ∧ p4 ≤ (z99 - 1))) (h1 : (z106 = 0 → p4 < (0 : Int) ∨ (z99 - 1) < p4)) (h2 : ¬ z106 = 0) (h3 : ¬ p4 = (-99999999)) (h4 : (-2147483648) ≤ p4 ∧ p4 ≤ 2147483647) (h5 : 1 ≤ z106 ∧ z106 ≤ 1) (h6 : 0 ≤ z99 ∧ z99 ≤ 12) : z106 = 1 := by omega
theorem vc_X12_use_W_31 {p4 z106 z99 : Int} (h0 : (0 : Int) ≤ p4 ∧ p4 ≤ (z99 - 1)) (h1 : ¬ p4 = (-99999999)) (h2 : (z106 = 1 → (0 : Int) ≤ p4 ∧ p4 ≤ (z99 - 1))) (h3 : (z106 = 0 → p4 < (0 : Int) ∨ (z99 - 1) < p4)) (h4 : (-2147483648) ≤ p4 ∧ p4 ≤ 2147483647) (h5 : 1 ≤ z106 ∧ z106 ≤ 1) (h6 : 0 ≤ z99 ∧ z99 ≤ 12) : 0 ≤ p4 ∧ p4 ≤ 2147483647 := by omega
theorem vc_X12_use_W_32 {p4 z106 z99 : Int} (h0 : ¬ p4 = (-99999999)) (h1 : (z106 = 1 → (0 : Int) ≤ p4 ∧ p4 ≤ (z99 - 1))) (h2 : (z106 = 0 → p4 < (0 : Int) ∨ (z99 - 1) < p4)) (h3 : (0 : Int) ≤ p4 ∧ p4 ≤ (z99 - 1)) (h4 : ¬ z106 = 0) (h5 : 0 ≤ p4 ∧ p4 ≤ 2147483647) (h6 : 1 ≤ z106 ∧ z106 ≤ 1) (h7 : 0 ≤ z99 ∧ z99 ≤ 12) : p4 = -99999999 ∨ (0 ≤ p4 ∧ p4 ≤ 11) := by omega
theorem vc_X12_use_W_33 {p4 z106 z99 : Int} (h0 : ¬ p4 = (-99999999)) (h1 : (z106 = 1 → (0 : Int) ≤ p4 ∧ p4 ≤ (z99 - 1))) (h2 : (z106 = 0 → p4 < (0 : Int) ∨ (z99 - 1) < p4)) (h3 : (0 : Int) ≤ p4 ∧ p4 ≤ (z99 - 1)) (h4 : ¬ z106 = 0) (h5 : 0 ≤ p4 ∧ p4 ≤ 2147483647) (h6 : 1 ≤ z106 ∧ z106 ≤ 1) (h7 : 0 ≤ z99 ∧ z99 ≤ 12) : p4 = -99999999 ∨ (0 ≤ p4 ∧ p4 < z99) := by omega
theorem vc_X12_use_W_36 {p4 z106 z99 : Int} (h0 : z106 = 0) (h1 : (z106 = 1 → (0 : Int) ≤ p4 ∧ p4 ≤ (z99 - 1))) (h2 : (z106 = 0 → p4 < (0 : Int) ∨ (z99 - 1) < p4)) (h3 : (-2147483648) ≤ p4 ∧ p4 ≤ 2147483647) (h4 : 0 ≤ z106 ∧ z106 ≤ 1) (h5 : 0 ≤ z99 ∧ z99 ≤ 12) : 0 ≤ z106 ∧ z106 ≤ 0 := by omega
theorem vc_X12_use_W_37 {p4 z106 z99 : Int} (h0 : (z106 = 1 → (0 : Int) ≤ p4 ∧ p4 ≤ (z99 - 1))) (h1 : (z106 = 0 → p4 < (0 : Int) ∨ (z99 - 1) < p4)) (h2 : z106 = 0) (h3 : ¬ p4 = (-99999999)) (h4 : (-2147483648) ≤ p4 ∧ p4 ≤ 2147483647) (h5 : 0 ≤ z106 ∧ z106 ≤ 0) (h6 : 0 ≤ z99 ∧ z99 ≤ 12) : z106 = 0 := by omega
set_option maxRecDepth 4000 in
set_option maxHeartbeats 4000000 in
theorem c_X12_use_W {l : Launch} {D : va_G} {c : Nat → ClassId} {H0 : Heap} {sa : Nat × Nat × (Nat → Int32)} {w : mW} {μ : mM} (hw : mWF w) (hT : mT w μ) {p1 : Int} (hp1 : (-2147483648) ≤ p1 ∧ p1 ≤ 2147483647) {p2 : Int} (hp2 : (-2147483648) ≤ p2 ∧ p2 ≤ 2147483647) {p3 : Int} (hp3 : (-2147483648) ≤ p3 ∧ p3 ≤ 2147483647) {p4 : Int} (hp4 : (-2147483648) ≤ p4 ∧ p4 ≤ 2147483647) (hIG1 : G1 μ) (hIEV : EV μ) (hIPK : PK μ) {Q : Int → mM → Prop} (hQ : WP_X12_use_W w μ p1 p2 p3 p4 Q) : sC (gG l D c H0 sa) mX12_use 12 0 0 [.ref 106, iv p1, iv p2, iv p3, iv p4] (mk w μ) (qI w [106026, 106027, 106028, 106029, 106030, 106031, 106072, 115999, 126999, 151999, 152999, 153999, 155999, 156999, 157999, 158999, 159999, 160999, 161999, 165999] μ (fun z μ1 => ((-2147483648) ≤ z ∧ z ≤ 2147483647) ∧ G1 μ1 ∧ EV μ1 ∧ PK μ1 ∧ Q z μ1 ∧ True)) := by
  refine sC.of rfl (by decide) (le_t rfl) ?_
  refine mr_lvE (lv' := [(0, .ref 106), (1, iv p1), (2, iv p2), (3, iv p3), (4, iv p4)]) rfl ?_
  refine sv_aload_n (pc := 0) dX12_use_0 rfl rfl ?_
  refine mr_iload_n (pc := 1) (z := p1) dX12_use_1 rfl rfl ?_
  obtain ⟨z1, q2⟩ : ∃ z, μ 106 6 = z := ⟨_, rfl⟩
  have h3 : (0 ≤ z1 ∧ z1 ≤ 20) := by rw [← q2]; exact hT 106 106 (A_106 hw) 6
  refine mr_cVP (pc := 2) (c_X12_isTie_W hw hT hp1 q2 (hQ z1 q2 h3)) (gOk _ _ _ _ _) dX12_use_2 (tX12_isTie _ _ _ _ _) ⟨wV_X12_isTie, wL_X12_isTie⟩ wM_X12_66 (gCX12 _ _ _ _ _) rfl (A_106 hw) rfl ⟨le_t rfl, le_t rfl⟩ ⟨le_t rfl, le_t rfl⟩ rfl (le_t rfl) fun z8 h7 => ?_
  refine mr_if_eq (pc := 5) (tgt := 48) dX12_use_5 (by decide) (r32 h7.1 rfl) (fun h9 => ?_) (fun h9 => ?_)
  · have h10 : 0 ≤ z8 ∧ z8 ≤ 0 := (vc_X12_write_1 h9 h7.2.1 h7.2.2.1 hp1 h3 h7.1)
    have h11 : p1 < 0 ∨ z1 ≤ p1 := (h7.2.2.1 (vc_X12_write_2 h7.2.1 h7.2.2.1 h9 hp1 h3 h10))
    refine mr_iconst (pc := 48) (z := (-1)) dX12_use_48 ?_
    exact mr_iret dX12_use_49 rfl (le_t rfl) (le_t rfl) hT mF.refl ⟨(rW (c := (-2147483648)) (d := 2147483647) (rR (x := (-1))) rfl), hIG1, hIEV, hIPK, ((h7.2.2.2.1 h7.1).1 h9), trivial⟩
  have h12 : 1 ≤ z8 ∧ z8 ≤ 1 := (vc_X12_write_3 h9 h7.2.1 h7.2.2.1 hp1 h3 h7.1)
  have h13 : 0 ≤ p1 ∧ p1 < z1 := (h7.2.1 (vc_X12_write_4 h7.2.1 h7.2.2.1 h9 hp1 h3 h12))
  have h14 : 0 ≤ p1 ∧ p1 ≤ 19 := (vc_X12_write_5 h13 h7.2.1 h7.2.2.1 hp1 h3 h12)
  have h15 : 1 ≤ z1 ∧ z1 ≤ 20 := (vc_X12_write_6 h13 h7.2.1 h7.2.2.1 h14 h3 h12)
  refine mr_iload_n (pc := 8) (z := p2) dX12_use_8 rfl rfl ?_
  refine mr_iconst (pc := 9) (z := 0) dX12_use_9 ?_
  refine mr_iconst (pc := 10) (z := 1) dX12_use_10 ?_
  refine mr_cSP (pc := 11) (c_X12_in_W hw hT hp2 (rW (c := (-2147483648)) (d := 2147483647) (rR (x := 0)) rfl) (rW (c := (-2147483648)) (d := 2147483647) (rR (x := 1)) rfl) ((h7.2.2.2.1 h7.1).2 h9)) (gOk _ _ _ _ _) dX12_use_11 (tX12_in _ _ _ _ _) wS_X12_in wM_X12_18 ⟨le_t rfl, le_t rfl⟩ ⟨le_t rfl, le_t rfl⟩ rfl (le_t rfl) fun z20 h19 => ?_
  refine mr_if_eq (pc := 14) (tgt := 48) dX12_use_14 (by decide) (r32 h19.1 rfl) (fun h21 => ?_) (fun h21 => ?_)
  · have h22 : 0 ≤ z20 ∧ z20 ≤ 0 := (vc_X12_write_7 h21 h19.2.1 h19.2.2.1 hp2 h19.1)
    have h23 : p2 < (0 : Int) ∨ (1 : Int) < p2 := (h19.2.2.1 (vc_X12_write_8 h19.2.1 h19.2.2.1 h21 hp2 h22))
    refine mr_iconst (pc := 48) (z := (-1)) dX12_use_48 ?_
    exact mr_iret dX12_use_49 rfl (le_t rfl) (le_t rfl) hT mF.refl ⟨(rW (c := (-2147483648)) (d := 2147483647) (rR (x := (-1))) rfl), hIG1, hIEV, hIPK, ((h19.2.2.2.1 h19.1).1 h21), trivial⟩
  have h24 : 1 ≤ z20 ∧ z20 ≤ 1 := (vc_X12_write_9 h21 h19.2.1 h19.2.2.1 hp2 h19.1)
  have h25 : (0 : Int) ≤ p2 ∧ p2 ≤ (1 : Int) := (h19.2.1 (vc_X12_write_10 h19.2.1 h19.2.2.1 h21 hp2 h24))
  have h26 : 0 ≤ p2 ∧ p2 ≤ 1 := (vc_X12_write_11 h25 h19.2.1 h19.2.2.1 hp2 h24)
  refine mr_iload_n (pc := 17) (z := p3) dX12_use_17 rfl rfl ?_
  refine mr_iconst (pc := 18) (z := 0) dX12_use_18 ?_
  refine mr_iconst (pc := 19) (z := 1) dX12_use_19 ?_
  refine mr_cSP (pc := 20) (c_X12_in_W hw hT hp3 (rW (c := (-2147483648)) (d := 2147483647) (rR (x := 0)) rfl) (rW (c := (-2147483648)) (d := 2147483647) (rR (x := 1)) rfl) ((h19.2.2.2.1 h19.1).2 h21)) (gOk _ _ _ _ _) dX12_use_20 (tX12_in _ _ _ _ _) wS_X12_in wM_X12_18 ⟨le_t rfl, le_t rfl⟩ ⟨le_t rfl, le_t rfl⟩ rfl (le_t rfl) fun z31 h30 => ?_
  refine mr_if_eq (pc := 23) (tgt := 48) dX12_use_23 (by decide) (r32 h30.1 rfl) (fun h32 => ?_) (fun h32 => ?_)
  · have h33 : 0 ≤ z31 ∧ z31 ≤ 0 := (vc_X12_write_7 h32 h30.2.1 h30.2.2.1 hp3 h30.1)
    have h34 : p3 < (0 : Int) ∨ (1 : Int) < p3 := (h30.2.2.1 (vc_X12_write_8 h30.2.1 h30.2.2.1 h32 hp3 h33))
    refine mr_iconst (pc := 48) (z := (-1)) dX12_use_48 ?_
    exact mr_iret dX12_use_49 rfl (le_t rfl) (le_t rfl) hT mF.refl ⟨(rW (c := (-2147483648)) (d := 2147483647) (rR (x := (-1))) rfl), hIG1, hIEV, hIPK, ((h30.2.2.2.1 h30.1).1 h32), trivial⟩
  have h35 : 1 ≤ z31 ∧ z31 ≤ 1 := (vc_X12_write_9 h32 h30.2.1 h30.2.2.1 hp3 h30.1)
  have h36 : (0 : Int) ≤ p3 ∧ p3 ≤ (1 : Int) := (h30.2.1 (vc_X12_write_10 h30.2.1 h30.2.2.1 h32 hp3 h35))
  have h37 : 0 ≤ p3 ∧ p3 ≤ 1 := (vc_X12_write_11 h36 h30.2.1 h30.2.2.1 hp3 h35)
  refine mr_iload (pc := 26) (z := p4) dX12_use_26 rfl ?_
  refine mr_ldc (pc := 28) (z := (-99999999)) dX12_use_28 wG_X12_29 (by decide) ?_
  refine mr_icmp_eq (pc := 30) (tgt := 50) dX12_use_30 (by decide) hp4 (r32 (rR (x := (-99999999))) rfl) (fun h38 => ?_) (fun h38 => ?_)
  · have h39 : (-99999999) ≤ p4 ∧ p4 ≤ (-99999999) := (vc_X12_judgedAnew_21 h38 hp4)
    refine sv_aload_n (pc := 50) dX12_use_50 rfl rfl ?_
    refine gf_X12_12 (pc := 51) dX12_use_51 wF_X12_63 (A_106 hw) hT ?_
    refine mr_iconst (pc := 54) (z := 4) dX12_use_54 ?_
    refine mr_iload_n (pc := 55) (z := p1) dX12_use_55 rfl rfl ?_
    refine mr_imul (pc := 56) (x := 4) (y := p1) dX12_use_56 ?_
    refine mr_iconst (pc := 57) (z := 2) dX12_use_57 ?_
    refine mr_iload_n (pc := 58) (z := p2) dX12_use_58 rfl rfl ?_
    refine mr_imul (pc := 59) (x := 2) (y := p2) dX12_use_59 ?_
    refine mr_iadd (pc := 60) (x := (4 * p1)) (y := (2 * p2)) dX12_use_60 ?_
    refine mr_iload_n (pc := 61) (z := p3) dX12_use_61 rfl rfl ?_
    refine mr_iadd (pc := 62) (x := ((4 * p1) + (2 * p2))) (y := p3) dX12_use_62 ?_
    refine mr_iload (pc := 63) (z := p4) dX12_use_63 rfl ?_
    refine ss_115 (pc := 65) dX12_use_65 (A_115 hw) hT (rIx (n := 80) (rAdd (e := 0) (f := 79) (rAdd (e := 0) (f := 78) (rMulL (n := 4) (e := 0) (f := 76) h14 rfl) (rMulL (n := 2) (e := 0) (f := 2) h26 rfl) rfl) h37 rfl) rfl) (vc_X11_use_W_17 h38 h39) fun μ40 u41 T42 => ?_
    obtain ⟨z43, q44⟩ : ∃ z, μ40 106 39 = z := ⟨_, rfl⟩
    have h45 : (0 ≤ z43 ∧ z43 ≤ 12) := by rw [← q44]; exact T42 106 106 (A_106 hw) 39
    have I46 : PK μ40 := PK.use hIPK u41 (u41.2 106 39 (Or.inl (by decide)) ▸ q44) (vc_X12_use_W_19 h38 h39 h45)
    refine sv_aload_n (pc := 66) dX12_use_66 rfl rfl ?_
    refine gf_X12_7 (pc := 67) dX12_use_67 wF_X12_40 (A_106 hw) T42 ?_
    refine mr_iconst (pc := 70) (z := 2) dX12_use_70 ?_
    refine mr_iload_n (pc := 71) (z := p1) dX12_use_71 rfl rfl ?_
    refine mr_imul (pc := 72) (x := 2) (y := p1) dX12_use_72 ?_
    refine mr_iload_n (pc := 73) (z := p2) dX12_use_73 rfl rfl ?_
    refine mr_iadd (pc := 74) (x := (2 * p1)) (y := p2) dX12_use_74 ?_
    obtain ⟨z47, q48⟩ : ∃ z, μ40 110 ((2 * p1).toNat) = z := ⟨_, rfl⟩
    have h49 : (0 ≤ z47 ∧ z47 ≤ 9) := by rw [← q48]; exact T42 110 110 (A_110 hw) ((2 * p1).toNat)
    obtain ⟨z50, q51⟩ : ∃ z, μ40 110 (((2 * p1) + 1).toNat) = z := ⟨_, rfl⟩
    have h52 : (0 ≤ z50 ∧ z50 ≤ 9) := by rw [← q51]; exact T42 110 110 (A_110 hw) (((2 * p1) + 1).toNat)
    have W54 := (((((((h30.2.2.2.1 h30.1).2 h32).1 h38) μ40 u41 T42) z43 q44 h45) z47 q48 h49) z50 q51 h52)
    by_cases h53 : p2 = 0
    · have h55 : 0 ≤ p2 ∧ p2 ≤ 0 := (vc_X12_heard_W_32 h53 h19.2.1 h19.2.2.1 h25 h26 h24)
      refine lk_110 (pc := 75) dX12_use_75 (A_110 hw) (rIx (n := 40) (rAdd (e := 0) (f := 38) (rMulL (n := 2) (e := 0) (f := 38) h14 rfl) h55 rfl) rfl) (ixE q48 (vc_X12_use_W_21 h7.2.1 h7.2.2.1 h13 h19.2.1 h19.2.2.1 h25 h53 h9 h21 h14 h55 h15 h24 h12)) ?_
      refine mr_istore (pc := 76) (lv' := [(5, iv z47), (0, .ref 106), (1, iv p1), (2, iv p2), (3, iv p3), (4, iv p4)]) dX12_use_76 (by decide) rfl ?_
      refine mr_iload_n (pc := 78) (z := p3) dX12_use_78 rfl rfl ?_
      refine mr_if_ne (pc := 79) (tgt := 91) dX12_use_79 (by decide) (r32 h37 rfl) (fun h66 => ?_) (fun h66 => ?_)
      · have h67 : 1 ≤ p3 ∧ p3 ≤ 1 := (vc_X12_heard_W_31 h66 h30.2.1 h30.2.2.1 h36 h37 h35)
        refine sv_aload_n (pc := 91) dX12_use_91 rfl rfl ?_
        refine mr_iload (pc := 92) (z := z47) dX12_use_92 rfl ?_
        refine mr_iload_n (pc := 94) (z := p1) dX12_use_94 rfl rfl ?_
        refine mr_cVV (pc := 95) (c_X12_sayAll_W hw T42 h49 h14 q48 q51 (u41.f (Or.inl (mAt.ne (A_115 hw) (A_106 hw) rfl)) q2) (vc_X12_raise_W_7 h7.2.1 h7.2.2.1 h13 h9 h14 h15 h12) (vc_X12_doEvent_W_22 h49 h52) (G1.keep hIG1 hw ((mF.up mF.refl (A_115 hw) u41 rfl) : mF [115999] w μ μ40) rfl rfl ((mG.upO mG.refl u41 rfl) : mG [] μ μ40) (fun _ h => absurd h List.not_mem_nil)) (EV.keep hIEV hw ((mF.up mF.refl (A_115 hw) u41 rfl) : mF [115999] w μ μ40) rfl) I46 ((W54.1 h53).1 h66)) (gOk _ _ _ _ _) dX12_use_95 (tX12_sayAll _ _ _ _ _) ⟨wV_X12_sayAll, wL_X12_sayAll⟩ wM_X12_603 (gCX12 _ _ _ _ _) rfl (A_106 hw) rfl ⟨le_t rfl, le_t rfl⟩ ⟨le_t rfl, le_t rfl⟩ rfl (le_t rfl) fun μ68 T69 F70 h71 => ?_
        refine mr_iconst (pc := 98) (z := 0) dX12_use_98 ?_
        exact mr_iret dX12_use_99 rfl (le_t rfl) (le_t rfl) T69 (mF.call (mF.up mF.refl (A_115 hw) u41 rfl) F70 rfl) ⟨(rW (c := (-2147483648)) (d := 2147483647) (rR (x := 0)) rfl), h71.2.1, h71.2.2.1, (PK.keep I46 hw ((mF.call mF.refl F70 rfl) : mF [106026, 106027, 106028, 106029, 106030, 106031, 106072, 126999, 151999, 152999, 153999, 155999, 156999, 157999, 158999, 159999, 160999] w μ40 μ68) rfl), (h71.2.2.2.1 T69 F70), trivial⟩
      have h72 : 0 ≤ p3 ∧ p3 ≤ 0 := (vc_X12_heard_W_32 h66 h30.2.1 h30.2.2.1 h36 h37 h35)
      refine sv_aload_n (pc := 82) dX12_use_82 rfl rfl ?_
      refine mr_iload (pc := 83) (z := z47) dX12_use_83 rfl ?_
      refine mr_cVV (pc := 85) (c_X12_lookAll_W hw T42 h49 (G1.keep hIG1 hw ((mF.up mF.refl (A_115 hw) u41 rfl) : mF [115999] w μ μ40) rfl rfl ((mG.upO mG.refl u41 rfl) : mG [] μ μ40) (fun _ h => absurd h List.not_mem_nil)) (EV.keep hIEV hw ((mF.up mF.refl (A_115 hw) u41 rfl) : mF [115999] w μ μ40) rfl) I46 ((W54.1 h53).2 h66)) (gOk _ _ _ _ _) dX12_use_85 (tX12_lookAll _ _ _ _ _) ⟨wV_X12_lookAll, wL_X12_lookAll⟩ wM_X12_600 (gCX12 _ _ _ _ _) rfl (A_106 hw) rfl ⟨le_t rfl, le_t rfl⟩ ⟨le_t rfl, le_t rfl⟩ rfl (le_t rfl) fun μ73 T74 F75 h76 => ?_
      refine sv_goto (pc := 88) (tgt := 98) dX12_use_88 (by decide) ?_
      refine mr_iconst (pc := 98) (z := 0) dX12_use_98 ?_
      exact mr_iret dX12_use_99 rfl (le_t rfl) (le_t rfl) T74 (mF.call (mF.up mF.refl (A_115 hw) u41 rfl) F75 rfl) ⟨(rW (c := (-2147483648)) (d := 2147483647) (rR (x := 0)) rfl), h76.2.1, h76.2.2.1, (PK.keep I46 hw ((mF.call mF.refl F75 rfl) : mF [106026, 106027, 106028, 106029, 106030, 106031, 106072, 126999, 151999, 152999, 153999, 155999, 156999, 157999, 158999, 159999, 160999, 161999, 165999] w μ40 μ73) rfl), (h76.2.2.2.1 T74 F75), trivial⟩
    have h77 : 1 ≤ p2 ∧ p2 ≤ 1 := (vc_X12_heard_W_31 h53 h19.2.1 h19.2.2.1 h25 h26 h24)
    refine lk_110 (pc := 75) dX12_use_75 (A_110 hw) (rIx (n := 40) (rAdd (e := 1) (f := 39) (rMulL (n := 2) (e := 0) (f := 38) h14 rfl) h77 rfl) rfl) (ixE q51 (vc_X12_use_W_27 h7.2.1 h7.2.2.1 h13 h19.2.1 h19.2.2.1 h25 h53 h9 h21 h14 h77 h15 h24 h12)) ?_
    refine mr_istore (pc := 76) (lv' := [(5, iv z50), (0, .ref 106), (1, iv p1), (2, iv p2), (3, iv p3), (4, iv p4)]) dX12_use_76 (by decide) rfl ?_
    refine mr_iload_n (pc := 78) (z := p3) dX12_use_78 rfl rfl ?_
    refine mr_if_ne (pc := 79) (tgt := 91) dX12_use_79 (by decide) (r32 h37 rfl) (fun h88 => ?_) (fun h88 => ?_)
    · have h89 : 1 ≤ p3 ∧ p3 ≤ 1 := (vc_X12_heard_W_31 h88 h30.2.1 h30.2.2.1 h36 h37 h35)
      refine sv_aload_n (pc := 91) dX12_use_91 rfl rfl ?_
      refine mr_iload (pc := 92) (z := z50) dX12_use_92 rfl ?_
      refine mr_iload_n (pc := 94) (z := p1) dX12_use_94 rfl rfl ?_
      refine mr_cVV (pc := 95) (c_X12_sayAll_W hw T42 h52 h14 q48 q51 (u41.f (Or.inl (mAt.ne (A_115 hw) (A_106 hw) rfl)) q2) (vc_X12_raise_W_7 h7.2.1 h7.2.2.1 h13 h9 h14 h15 h12) (vc_X12_doEvent_W_25 h49 h52) (G1.keep hIG1 hw ((mF.up mF.refl (A_115 hw) u41 rfl) : mF [115999] w μ μ40) rfl rfl ((mG.upO mG.refl u41 rfl) : mG [] μ μ40) (fun _ h => absurd h List.not_mem_nil)) (EV.keep hIEV hw ((mF.up mF.refl (A_115 hw) u41 rfl) : mF [115999] w μ μ40) rfl) I46 ((W54.2 h53).1 h88)) (gOk _ _ _ _ _) dX12_use_95 (tX12_sayAll _ _ _ _ _) ⟨wV_X12_sayAll, wL_X12_sayAll⟩ wM_X12_603 (gCX12 _ _ _ _ _) rfl (A_106 hw) rfl ⟨le_t rfl, le_t rfl⟩ ⟨le_t rfl, le_t rfl⟩ rfl (le_t rfl) fun μ90 T91 F92 h93 => ?_
      refine mr_iconst (pc := 98) (z := 0) dX12_use_98 ?_
      exact mr_iret dX12_use_99 rfl (le_t rfl) (le_t rfl) T91 (mF.call (mF.up mF.refl (A_115 hw) u41 rfl) F92 rfl) ⟨(rW (c := (-2147483648)) (d := 2147483647) (rR (x := 0)) rfl), h93.2.1, h93.2.2.1, (PK.keep I46 hw ((mF.call mF.refl F92 rfl) : mF [106026, 106027, 106028, 106029, 106030, 106031, 106072, 126999, 151999, 152999, 153999, 155999, 156999, 157999, 158999, 159999, 160999] w μ40 μ90) rfl), (h93.2.2.2.1 T91 F92), trivial⟩
    have h94 : 0 ≤ p3 ∧ p3 ≤ 0 := (vc_X12_heard_W_32 h88 h30.2.1 h30.2.2.1 h36 h37 h35)
    refine sv_aload_n (pc := 82) dX12_use_82 rfl rfl ?_
    refine mr_iload (pc := 83) (z := z50) dX12_use_83 rfl ?_
    refine mr_cVV (pc := 85) (c_X12_lookAll_W hw T42 h52 (G1.keep hIG1 hw ((mF.up mF.refl (A_115 hw) u41 rfl) : mF [115999] w μ μ40) rfl rfl ((mG.upO mG.refl u41 rfl) : mG [] μ μ40) (fun _ h => absurd h List.not_mem_nil)) (EV.keep hIEV hw ((mF.up mF.refl (A_115 hw) u41 rfl) : mF [115999] w μ μ40) rfl) I46 ((W54.2 h53).2 h88)) (gOk _ _ _ _ _) dX12_use_85 (tX12_lookAll _ _ _ _ _) ⟨wV_X12_lookAll, wL_X12_lookAll⟩ wM_X12_600 (gCX12 _ _ _ _ _) rfl (A_106 hw) rfl ⟨le_t rfl, le_t rfl⟩ ⟨le_t rfl, le_t rfl⟩ rfl (le_t rfl) fun μ95 T96 F97 h98 => ?_
    refine sv_goto (pc := 88) (tgt := 98) dX12_use_88 (by decide) ?_
    refine mr_iconst (pc := 98) (z := 0) dX12_use_98 ?_
    exact mr_iret dX12_use_99 rfl (le_t rfl) (le_t rfl) T96 (mF.call (mF.up mF.refl (A_115 hw) u41 rfl) F97 rfl) ⟨(rW (c := (-2147483648)) (d := 2147483647) (rR (x := 0)) rfl), h98.2.1, h98.2.2.1, (PK.keep I46 hw ((mF.call mF.refl F97 rfl) : mF [106026, 106027, 106028, 106029, 106030, 106031, 106072, 126999, 151999, 152999, 153999, 155999, 156999, 157999, 158999, 159999, 160999, 161999, 165999] w μ40 μ95) rfl), (h98.2.2.2.1 T96 F97), trivial⟩
  refine mr_iload (pc := 33) (z := p4) dX12_use_33 rfl ?_
  refine mr_iconst (pc := 35) (z := 0) dX12_use_35 ?_
  refine sv_aload_n (pc := 36) dX12_use_36 rfl rfl ?_
  refine gf_X12_39 (pc := 37) dX12_use_37 wF_X12_355 (A_106 hw) hT fun z99 q100 h101 => ?_
  refine mr_iconst (pc := 40) (z := 1) dX12_use_40 ?_
  refine mr_isub (pc := 41) (x := z99) (y := 1) dX12_use_41 ?_
  refine mr_cSP (pc := 42) (c_X12_in_W hw hT hp4 (rW (c := (-2147483648)) (d := 2147483647) (rR (x := 0)) rfl) (rW (c := (-2147483648)) (d := 2147483647) (rSub (e := (-1)) (f := 11) h101 (rR (x := 1)) rfl) rfl) ((((h30.2.2.2.1 h30.1).2 h32).2 h38) z99 q100 h101)) (gOk _ _ _ _ _) dX12_use_42 (tX12_in _ _ _ _ _) wS_X12_in wM_X12_18 ⟨le_t rfl, le_t rfl⟩ ⟨le_t rfl, le_t rfl⟩ rfl (le_t rfl) fun z106 h105 => ?_
  refine mr_if_ne (pc := 45) (tgt := 50) dX12_use_45 (by decide) (r32 h105.1 rfl) (fun h107 => ?_) (fun h107 => ?_)
  · have h108 : 1 ≤ z106 ∧ z106 ≤ 1 := (vc_X12_use_W_29 h107 h105.2.1 h105.2.2.1 hp4 h105.1 h101)
    have h109 : (0 : Int) ≤ p4 ∧ p4 ≤ (z99 - 1) := (h105.2.1 (vc_X12_use_W_30 h105.2.1 h105.2.2.1 h107 h38 hp4 h108 h101))
    have h110 : 0 ≤ p4 ∧ p4 ≤ 2147483647 := (vc_X12_use_W_31 h109 h38 h105.2.1 h105.2.2.1 hp4 h108 h101)
    refine sv_aload_n (pc := 50) dX12_use_50 rfl rfl ?_
    refine gf_X12_12 (pc := 51) dX12_use_51 wF_X12_63 (A_106 hw) hT ?_
    refine mr_iconst (pc := 54) (z := 4) dX12_use_54 ?_
    refine mr_iload_n (pc := 55) (z := p1) dX12_use_55 rfl rfl ?_
    refine mr_imul (pc := 56) (x := 4) (y := p1) dX12_use_56 ?_
    refine mr_iconst (pc := 57) (z := 2) dX12_use_57 ?_
    refine mr_iload_n (pc := 58) (z := p2) dX12_use_58 rfl rfl ?_
    refine mr_imul (pc := 59) (x := 2) (y := p2) dX12_use_59 ?_
    refine mr_iadd (pc := 60) (x := (4 * p1)) (y := (2 * p2)) dX12_use_60 ?_
    refine mr_iload_n (pc := 61) (z := p3) dX12_use_61 rfl rfl ?_
    refine mr_iadd (pc := 62) (x := ((4 * p1) + (2 * p2))) (y := p3) dX12_use_62 ?_
    refine mr_iload (pc := 63) (z := p4) dX12_use_63 rfl ?_
    refine ss_115 (pc := 65) dX12_use_65 (A_115 hw) hT (rIx (n := 80) (rAdd (e := 0) (f := 79) (rAdd (e := 0) (f := 78) (rMulL (n := 4) (e := 0) (f := 76) h14 rfl) (rMulL (n := 2) (e := 0) (f := 2) h26 rfl) rfl) h37 rfl) rfl) (vc_X12_use_W_32 h38 h105.2.1 h105.2.2.1 h109 h107 h110 h108 h101) fun μ111 u112 T113 => ?_
    have I114 : PK μ111 := PK.use hIPK u112 (u112.2 106 39 (Or.inl (by decide)) ▸ (u112.f (Or.inl (mAt.ne (A_115 hw) (A_106 hw) rfl)) q100)) (vc_X12_use_W_33 h38 h105.2.1 h105.2.2.1 h109 h107 h110 h108 h101)
    refine sv_aload_n (pc := 66) dX12_use_66 rfl rfl ?_
    refine gf_X12_7 (pc := 67) dX12_use_67 wF_X12_40 (A_106 hw) T113 ?_
    refine mr_iconst (pc := 70) (z := 2) dX12_use_70 ?_
    refine mr_iload_n (pc := 71) (z := p1) dX12_use_71 rfl rfl ?_
    refine mr_imul (pc := 72) (x := 2) (y := p1) dX12_use_72 ?_
    refine mr_iload_n (pc := 73) (z := p2) dX12_use_73 rfl rfl ?_
    refine mr_iadd (pc := 74) (x := (2 * p1)) (y := p2) dX12_use_74 ?_
    obtain ⟨z115, q116⟩ : ∃ z, μ111 110 ((2 * p1).toNat) = z := ⟨_, rfl⟩
    have h117 : (0 ≤ z115 ∧ z115 ≤ 9) := by rw [← q116]; exact T113 110 110 (A_110 hw) ((2 * p1).toNat)
    obtain ⟨z118, q119⟩ : ∃ z, μ111 110 (((2 * p1) + 1).toNat) = z := ⟨_, rfl⟩
    have h120 : (0 ≤ z118 ∧ z118 ≤ 9) := by rw [← q119]; exact T113 110 110 (A_110 hw) (((2 * p1) + 1).toNat)
    have W122 := (((((h105.2.2.2.1 h105.1).1 h107) μ111 u112 T113) z115 q116 h117) z118 q119 h120)
    by_cases h121 : p2 = 0
    · have h123 : 0 ≤ p2 ∧ p2 ≤ 0 := (vc_X12_heard_W_32 h121 h19.2.1 h19.2.2.1 h25 h26 h24)
      refine lk_110 (pc := 75) dX12_use_75 (A_110 hw) (rIx (n := 40) (rAdd (e := 0) (f := 38) (rMulL (n := 2) (e := 0) (f := 38) h14 rfl) h123 rfl) rfl) (ixE q116 (vc_X12_use_W_21 h7.2.1 h7.2.2.1 h13 h19.2.1 h19.2.2.1 h25 h121 h9 h21 h14 h123 h15 h24 h12)) ?_
      refine mr_istore (pc := 76) (lv' := [(5, iv z115), (0, .ref 106), (1, iv p1), (2, iv p2), (3, iv p3), (4, iv p4)]) dX12_use_76 (by decide) rfl ?_
      refine mr_iload_n (pc := 78) (z := p3) dX12_use_78 rfl rfl ?_
      refine mr_if_ne (pc := 79) (tgt := 91) dX12_use_79 (by decide) (r32 h37 rfl) (fun h134 => ?_) (fun h134 => ?_)
      · have h135 : 1 ≤ p3 ∧ p3 ≤ 1 := (vc_X12_heard_W_31 h134 h30.2.1 h30.2.2.1 h36 h37 h35)
        refine sv_aload_n (pc := 91) dX12_use_91 rfl rfl ?_
        refine mr_iload (pc := 92) (z := z115) dX12_use_92 rfl ?_
        refine mr_iload_n (pc := 94) (z := p1) dX12_use_94 rfl rfl ?_
        refine mr_cVV (pc := 95) (c_X12_sayAll_W hw T113 h117 h14 q116 q119 (u112.f (Or.inl (mAt.ne (A_115 hw) (A_106 hw) rfl)) q2) (vc_X12_raise_W_7 h7.2.1 h7.2.2.1 h13 h9 h14 h15 h12) (vc_X12_doEvent_W_22 h117 h120) (G1.keep hIG1 hw ((mF.up mF.refl (A_115 hw) u112 rfl) : mF [115999] w μ μ111) rfl rfl ((mG.upO mG.refl u112 rfl) : mG [] μ μ111) (fun _ h => absurd h List.not_mem_nil)) (EV.keep hIEV hw ((mF.up mF.refl (A_115 hw) u112 rfl) : mF [115999] w μ μ111) rfl) I114 ((W122.1 h121).1 h134)) (gOk _ _ _ _ _) dX12_use_95 (tX12_sayAll _ _ _ _ _) ⟨wV_X12_sayAll, wL_X12_sayAll⟩ wM_X12_603 (gCX12 _ _ _ _ _) rfl (A_106 hw) rfl ⟨le_t rfl, le_t rfl⟩ ⟨le_t rfl, le_t rfl⟩ rfl (le_t rfl) fun μ136 T137 F138 h139 => ?_
        refine mr_iconst (pc := 98) (z := 0) dX12_use_98 ?_
        exact mr_iret dX12_use_99 rfl (le_t rfl) (le_t rfl) T137 (mF.call (mF.up mF.refl (A_115 hw) u112 rfl) F138 rfl) ⟨(rW (c := (-2147483648)) (d := 2147483647) (rR (x := 0)) rfl), h139.2.1, h139.2.2.1, (PK.keep I114 hw ((mF.call mF.refl F138 rfl) : mF [106026, 106027, 106028, 106029, 106030, 106031, 106072, 126999, 151999, 152999, 153999, 155999, 156999, 157999, 158999, 159999, 160999] w μ111 μ136) rfl), (h139.2.2.2.1 T137 F138), trivial⟩
      have h140 : 0 ≤ p3 ∧ p3 ≤ 0 := (vc_X12_heard_W_32 h134 h30.2.1 h30.2.2.1 h36 h37 h35)
      refine sv_aload_n (pc := 82) dX12_use_82 rfl rfl ?_
      refine mr_iload (pc := 83) (z := z115) dX12_use_83 rfl ?_
      refine mr_cVV (pc := 85) (c_X12_lookAll_W hw T113 h117 (G1.keep hIG1 hw ((mF.up mF.refl (A_115 hw) u112 rfl) : mF [115999] w μ μ111) rfl rfl ((mG.upO mG.refl u112 rfl) : mG [] μ μ111) (fun _ h => absurd h List.not_mem_nil)) (EV.keep hIEV hw ((mF.up mF.refl (A_115 hw) u112 rfl) : mF [115999] w μ μ111) rfl) I114 ((W122.1 h121).2 h134)) (gOk _ _ _ _ _) dX12_use_85 (tX12_lookAll _ _ _ _ _) ⟨wV_X12_lookAll, wL_X12_lookAll⟩ wM_X12_600 (gCX12 _ _ _ _ _) rfl (A_106 hw) rfl ⟨le_t rfl, le_t rfl⟩ ⟨le_t rfl, le_t rfl⟩ rfl (le_t rfl) fun μ141 T142 F143 h144 => ?_
      refine sv_goto (pc := 88) (tgt := 98) dX12_use_88 (by decide) ?_
      refine mr_iconst (pc := 98) (z := 0) dX12_use_98 ?_
      exact mr_iret dX12_use_99 rfl (le_t rfl) (le_t rfl) T142 (mF.call (mF.up mF.refl (A_115 hw) u112 rfl) F143 rfl) ⟨(rW (c := (-2147483648)) (d := 2147483647) (rR (x := 0)) rfl), h144.2.1, h144.2.2.1, (PK.keep I114 hw ((mF.call mF.refl F143 rfl) : mF [106026, 106027, 106028, 106029, 106030, 106031, 106072, 126999, 151999, 152999, 153999, 155999, 156999, 157999, 158999, 159999, 160999, 161999, 165999] w μ111 μ141) rfl), (h144.2.2.2.1 T142 F143), trivial⟩
    have h145 : 1 ≤ p2 ∧ p2 ≤ 1 := (vc_X12_heard_W_31 h121 h19.2.1 h19.2.2.1 h25 h26 h24)
    refine lk_110 (pc := 75) dX12_use_75 (A_110 hw) (rIx (n := 40) (rAdd (e := 1) (f := 39) (rMulL (n := 2) (e := 0) (f := 38) h14 rfl) h145 rfl) rfl) (ixE q119 (vc_X12_use_W_27 h7.2.1 h7.2.2.1 h13 h19.2.1 h19.2.2.1 h25 h121 h9 h21 h14 h145 h15 h24 h12)) ?_
    refine mr_istore (pc := 76) (lv' := [(5, iv z118), (0, .ref 106), (1, iv p1), (2, iv p2), (3, iv p3), (4, iv p4)]) dX12_use_76 (by decide) rfl ?_
    refine mr_iload_n (pc := 78) (z := p3) dX12_use_78 rfl rfl ?_
    refine mr_if_ne (pc := 79) (tgt := 91) dX12_use_79 (by decide) (r32 h37 rfl) (fun h156 => ?_) (fun h156 => ?_)
    · have h157 : 1 ≤ p3 ∧ p3 ≤ 1 := (vc_X12_heard_W_31 h156 h30.2.1 h30.2.2.1 h36 h37 h35)
      refine sv_aload_n (pc := 91) dX12_use_91 rfl rfl ?_
      refine mr_iload (pc := 92) (z := z118) dX12_use_92 rfl ?_
      refine mr_iload_n (pc := 94) (z := p1) dX12_use_94 rfl rfl ?_
      refine mr_cVV (pc := 95) (c_X12_sayAll_W hw T113 h120 h14 q116 q119 (u112.f (Or.inl (mAt.ne (A_115 hw) (A_106 hw) rfl)) q2) (vc_X12_raise_W_7 h7.2.1 h7.2.2.1 h13 h9 h14 h15 h12) (vc_X12_doEvent_W_25 h117 h120) (G1.keep hIG1 hw ((mF.up mF.refl (A_115 hw) u112 rfl) : mF [115999] w μ μ111) rfl rfl ((mG.upO mG.refl u112 rfl) : mG [] μ μ111) (fun _ h => absurd h List.not_mem_nil)) (EV.keep hIEV hw ((mF.up mF.refl (A_115 hw) u112 rfl) : mF [115999] w μ μ111) rfl) I114 ((W122.2 h121).1 h156)) (gOk _ _ _ _ _) dX12_use_95 (tX12_sayAll _ _ _ _ _) ⟨wV_X12_sayAll, wL_X12_sayAll⟩ wM_X12_603 (gCX12 _ _ _ _ _) rfl (A_106 hw) rfl ⟨le_t rfl, le_t rfl⟩ ⟨le_t rfl, le_t rfl⟩ rfl (le_t rfl) fun μ158 T159 F160 h161 => ?_
      refine mr_iconst (pc := 98) (z := 0) dX12_use_98 ?_
      exact mr_iret dX12_use_99 rfl (le_t rfl) (le_t rfl) T159 (mF.call (mF.up mF.refl (A_115 hw) u112 rfl) F160 rfl) ⟨(rW (c := (-2147483648)) (d := 2147483647) (rR (x := 0)) rfl), h161.2.1, h161.2.2.1, (PK.keep I114 hw ((mF.call mF.refl F160 rfl) : mF [106026, 106027, 106028, 106029, 106030, 106031, 106072, 126999, 151999, 152999, 153999, 155999, 156999, 157999, 158999, 159999, 160999] w μ111 μ158) rfl), (h161.2.2.2.1 T159 F160), trivial⟩
    have h162 : 0 ≤ p3 ∧ p3 ≤ 0 := (vc_X12_heard_W_32 h156 h30.2.1 h30.2.2.1 h36 h37 h35)
    refine sv_aload_n (pc := 82) dX12_use_82 rfl rfl ?_
    refine mr_iload (pc := 83) (z := z118) dX12_use_83 rfl ?_
    refine mr_cVV (pc := 85) (c_X12_lookAll_W hw T113 h120 (G1.keep hIG1 hw ((mF.up mF.refl (A_115 hw) u112 rfl) : mF [115999] w μ μ111) rfl rfl ((mG.upO mG.refl u112 rfl) : mG [] μ μ111) (fun _ h => absurd h List.not_mem_nil)) (EV.keep hIEV hw ((mF.up mF.refl (A_115 hw) u112 rfl) : mF [115999] w μ μ111) rfl) I114 ((W122.2 h121).2 h156)) (gOk _ _ _ _ _) dX12_use_85 (tX12_lookAll _ _ _ _ _) ⟨wV_X12_lookAll, wL_X12_lookAll⟩ wM_X12_600 (gCX12 _ _ _ _ _) rfl (A_106 hw) rfl ⟨le_t rfl, le_t rfl⟩ ⟨le_t rfl, le_t rfl⟩ rfl (le_t rfl) fun μ163 T164 F165 h166 => ?_
    refine sv_goto (pc := 88) (tgt := 98) dX12_use_88 (by decide) ?_
    refine mr_iconst (pc := 98) (z := 0) dX12_use_98 ?_
    exact mr_iret dX12_use_99 rfl (le_t rfl) (le_t rfl) T164 (mF.call (mF.up mF.refl (A_115 hw) u112 rfl) F165 rfl) ⟨(rW (c := (-2147483648)) (d := 2147483647) (rR (x := 0)) rfl), h166.2.1, h166.2.2.1, (PK.keep I114 hw ((mF.call mF.refl F165 rfl) : mF [106026, 106027, 106028, 106029, 106030, 106031, 106072, 126999, 151999, 152999, 153999, 155999, 156999, 157999, 158999, 159999, 160999, 161999, 165999] w μ111 μ163) rfl), (h166.2.2.2.1 T164 F165), trivial⟩
  have h167 : 0 ≤ z106 ∧ z106 ≤ 0 := (vc_X12_use_W_36 h107 h105.2.1 h105.2.2.1 hp4 h105.1 h101)
  have h168 : p4 < (0 : Int) ∨ (z99 - 1) < p4 := (h105.2.2.1 (vc_X12_use_W_37 h105.2.1 h105.2.2.1 h107 h38 hp4 h167 h101))
  refine mr_iconst (pc := 48) (z := (-1)) dX12_use_48 ?_
  exact mr_iret dX12_use_49 rfl (le_t rfl) (le_t rfl) hT mF.refl ⟨(rW (c := (-2147483648)) (d := 2147483647) (rR (x := (-1))) rfl), hIG1, hIEV, hIPK, ((h105.2.2.2.1 h105.1).2 h107), trivial⟩
def WL_X11_isRule_W_1 (μ : mM) (Q : Int → mM → Prop) (rec1 : (Int × Int) → Prop) (s : (Int × Int)) : Prop := ∀ z88 : Int, ∀ z87 : Int, s = (z88, z87) → ((-2147483648) ≤ z88 ∧ z88 ≤ 2147483647) → (0 ≤ z87 ∧ z87 ≤ 2147483647) → ((z87 ≤ 0) → Q (1 : Int) μ) ∧ ((0 < z87) → ∀ z102 : Int, z87 % 10 = z102 → ((z102 < 1) → Q (0 : Int) μ) ∧ ((1 ≤ z102) → ((6 < z102) → Q (0 : Int) μ) ∧ ((z102 ≤ 6) → ∀ z111 : Int, bShr z88 z102 = z111 → ∀ z114 : Int, bAnd z111 (1 : Int) = z114 → ((z114 = 0) → ∀ z119 : Int, bShl (1 : Int) z102 = z119 → ∀ z122 : Int, bOr z88 z119 = z122 → ∀ z125 : Int, z87 / 10 = z125 → rec1 (z122, z125)) ∧ ((¬ z114 = 0) → Q (0 : Int) μ))))
def WP_X11_isRule_W (w : mW) (μ : mM) (p1 : Int) (Q : Int → mM → Prop) : Prop := ((0 ≤ p1) → loopF (WL_X11_isRule_W_1 μ Q) False 2147483648 ((0 : Int), p1)) ∧ ((p1 < 0) → Q (0 : Int) μ)
theorem vc_X11_isRule_W_2 {z87 : Int} (h0 : z87 < ((0 : Nat) : Int)) (h1 : 0 ≤ z87 ∧ z87 ≤ 2147483647) : False := by omega
theorem vc_X11_isRule_W_3 {z87 : Int} (h0 : z87 ≤ 0) (h1 : 0 ≤ z87 ∧ z87 ≤ 2147483647) : 0 ≤ z87 ∧ z87 ≤ 0 := by omega
theorem vc_X11_isRule_W_4 {p1 : Int} (h0 : 0 ≤ p1) (h1 : 0 ≤ p1 ∧ p1 ≤ 2147483647) : (1 : Int) = 1 → 0 ≤ p1 := by omega
theorem vc_X11_isRule_W_5 {z87 : Int} (h0 : 0 < z87) (h1 : 0 ≤ z87 ∧ z87 ≤ 2147483647) : 1 ≤ z87 ∧ z87 ≤ 2147483647 := by omega
theorem vc_X11_isRule_W_7 {z102 z87 : Int} (h0 : z102 < 1) (h1 : z87 % 10 = z102) (h2 : 0 ≤ z102 ∧ z102 ≤ 9) (h3 : 1 ≤ z87 ∧ z87 ≤ 2147483647) : 0 ≤ z102 ∧ z102 ≤ 0 := by omega
theorem vc_X11_isRule_W_8 {p1 : Int} (h0 : 0 ≤ p1) (h1 : 0 ≤ p1 ∧ p1 ≤ 2147483647) : (0 : Int) = 1 → 0 ≤ p1 := by omega
theorem vc_X11_isRule_W_9 {z102 z87 : Int} (h0 : 1 ≤ z102) (h1 : z87 % 10 = z102) (h2 : 0 ≤ z102 ∧ z102 ≤ 9) (h3 : 1 ≤ z87 ∧ z87 ≤ 2147483647) : 1 ≤ z102 ∧ z102 ≤ 9 := by omega
theorem vc_X11_isRule_W_10 {z102 z87 : Int} (h0 : 6 < z102) (h1 : z87 % 10 = z102) (h2 : 1 ≤ z102) (h3 : 1 ≤ z102 ∧ z102 ≤ 9) (h4 : 1 ≤ z87 ∧ z87 ≤ 2147483647) : 7 ≤ z102 ∧ z102 ≤ 9 := by omega
theorem vc_X11_isRule_W_11 {z102 z87 : Int} (h0 : z102 ≤ 6) (h1 : z87 % 10 = z102) (h2 : 1 ≤ z102) (h3 : 1 ≤ z102 ∧ z102 ≤ 9) (h4 : 1 ≤ z87 ∧ z87 ≤ 2147483647) : 1 ≤ z102 ∧ z102 ≤ 6 := by omega
theorem vc_X11_isRule_W_13 {z102 z87 : Int} (h0 : z87 % 10 = z102) (h1 : 1 ≤ z102) (h2 : z102 ≤ 6) (h3 : 0 < z87) (h4 : 1 ≤ z102 ∧ z102 ≤ 6) (h5 : 1 ≤ z87 ∧ z87 ≤ 2147483647) : 1 ≤ z102 ∧ z102 ≤ 6 := by omega
theorem vc_X11_isRule_W_14 {N z102 z125 z87 : Int} (h0 : z87 < N + 1) (h1 : 0 < z87) (h2 : z87 % 10 = z102) (h3 : z87 / 10 = z125) (h4 : 1 ≤ z102) (h5 : z102 ≤ 6) (h6 : 1 ≤ z102 ∧ z102 ≤ 6) (h7 : 0 ≤ z125 ∧ z125 ≤ 214748364) (h8 : 1 ≤ z87 ∧ z87 ≤ 2147483647) : z125 < N := by omega
theorem vc_X11_isRule_W_16 {p1 : Int} (h0 : 0 ≤ p1) (h1 : 0 ≤ p1 ∧ p1 ≤ 2147483647) : p1 < ((2147483648 : Nat) : Int) := by omega
theorem vc_X11_isRule_W_18 {p1 : Int} (h0 : p1 < 0) (h1 : (-2147483648) ≤ p1 ∧ p1 ≤ (-1)) : (0 : Int) = 1 → 0 ≤ p1 := by omega
set_option maxRecDepth 4000 in
set_option maxHeartbeats 4000000 in
theorem c_X11_isRule_W {l : Launch} {D : va_G} {c : Nat → ClassId} {H0 : Heap} {sa : Nat × Nat × (Nat → Int32)} {w : mW} {μ : mM} (hw : mWF w) (hT : mT w μ) {p1 : Int} (hp1 : (-2147483648) ≤ p1 ∧ p1 ≤ 2147483647) {Q : Int → mM → Prop} (hQ : WP_X11_isRule_W w μ p1 Q) : sC (gG l D c H0 sa) mX11_isRule 1 0 0 [iv p1] (mk w μ) (qP w μ (fun z => (0 ≤ z ∧ z ≤ 1) ∧ (z = 1 → p1 ≤ 999999) ∧ (z = 1 → 0 ≤ p1) ∧ Q z μ ∧ True)) := by
  refine sC.of rfl (by decide) (le_t rfl) ?_
  refine mr_lvE (lv' := [(0, iv p1)]) rfl ?_
  refine mr_iload_n (pc := 0) (z := p1) dX11_isRule_0 rfl rfl ?_
  refine mr_if_ge (pc := 1) (tgt := 6) dX11_isRule_1 (by decide) hp1 (fun h1 => ?_) (fun h1 => ?_)
  · have h2 : 0 ≤ p1 ∧ p1 ≤ 2147483647 := (vc_X12_ring_1 h1 hp1)
    refine mr_iconst (pc := 6) (z := 0) dX11_isRule_6 ?_
    refine mr_istore_n (pc := 7) (lv' := [(1, iv 0), (0, iv p1)]) dX11_isRule_7 rfl (by decide) rfl ?_
    refine mr_iload_n (pc := 8) (z := p1) dX11_isRule_8 rfl rfl ?_
    refine mr_istore_n (pc := 9) (lv' := [(2, iv p1), (1, iv 0), (0, iv p1)]) dX11_isRule_9 rfl (by decide) rfl ?_
    have L89 : ∀ (nL89 : Nat) (z88 z87 : Int), True → ((-2147483648) ≤ z88 ∧ z88 ≤ 2147483647) → (0 ≤ z87 ∧ z87 ≤ 2147483647) → rOK p1 z87 z88 → z87 < (nL89 : Int) → loopF (WL_X11_isRule_W_1 μ Q) False nL89 (z88, z87) → sV (gG l D c H0 sa) mX11_isRule (sRm 1 0 0) (sZ (gG l D c H0 sa) 0 0 (qP w μ (fun z => (0 ≤ z ∧ z ≤ 1) ∧ (z = 1 → p1 ≤ 999999) ∧ (z = 1 → 0 ≤ p1) ∧ Q z μ ∧ True))) 10 [(1, iv z88), (2, iv z87)] [] (mk w μ) 0 0 := by
      intro nL89
      induction nL89 with
      | zero => intro z88 z87 _ h90 h91 R95 h96 W97; exact ((vc_X11_isRule_W_2 h96 h91)).elim
      | succ nL89 ih98 =>
        intro z88 z87 _ h90 h91 R95 h96 W97
        refine mr_iload_n (pc := 10) (z := z87) dX11_isRule_10 rfl rfl ?_
        refine mr_if_le (pc := 11) (tgt := 54) dX11_isRule_11 (by decide) (r32 h91 rfl) (fun h99 => ?_) (fun h99 => ?_)
        · have h100 : 0 ≤ z87 ∧ z87 ≤ 0 := (vc_X11_isRule_W_3 h99 h91)
          refine mr_iconst (pc := 54) (z := 1) dX11_isRule_54 ?_
          exact mr_zretP dX11_isRule_55 rfl (rW (c := 0) (d := 1) (rR (x := 1)) rfl) (le_t rfl) (le_t rfl) ⟨(rW (c := 0) (d := 1) (rR (x := 1)) rfl), (fun _ => rOK.done R95 h99), (vc_X11_isRule_W_4 h1 h2), ((W97 z88 z87 rfl h90 h91).1 h99), trivial⟩
        have h101 : 1 ≤ z87 ∧ z87 ≤ 2147483647 := (vc_X11_isRule_W_5 h99 h91)
        refine mr_iload_n (pc := 14) (z := z87) dX11_isRule_14 rfl rfl ?_
        refine mr_bipush (pc := 15) (z := 10) dX11_isRule_15 (by decide) ?_
        refine mr_irem (pc := 17) (x := z87) (y := 10) dX11_isRule_17 (rW (c := 0) (d := 2147483647) h101 rfl) vc_X8_doNext_W_5 ?_
        refine mr_gen (P := fun z => 0 ≤ z ∧ z ≤ 9) (rMod h101 rfl) fun z102 q103 h104 => ?_
        refine mr_istore_n (pc := 18) (lv' := [(3, iv z102), (1, iv z88), (2, iv z87)]) dX11_isRule_18 rfl (by decide) rfl ?_
        refine mr_iload_n (pc := 19) (z := z102) dX11_isRule_19 rfl rfl ?_
        refine mr_iconst (pc := 20) (z := 1) dX11_isRule_20 ?_
        refine mr_icmp_lt (pc := 21) (tgt := 38) dX11_isRule_21 (by decide) (r32 h104 rfl) (r32 (rR (x := 1)) rfl) (fun h105 => ?_) (fun h105 => ?_)
        · have h106 : 0 ≤ z102 ∧ z102 ≤ 0 := (vc_X11_isRule_W_7 h105 q103 h104 h101)
          refine mr_iconst (pc := 38) (z := 0) dX11_isRule_38 ?_
          exact mr_zretP dX11_isRule_39 rfl (rW (c := 0) (d := 1) (rR (x := 0)) rfl) (le_t rfl) (le_t rfl) ⟨(rW (c := 0) (d := 1) (rR (x := 0)) rfl), (fun h => absurd h (by decide)), (vc_X11_isRule_W_8 h1 h2), ((((W97 z88 z87 rfl h90 h91).2 h99) z102 q103).1 h105), trivial⟩
        have h107 : 1 ≤ z102 ∧ z102 ≤ 9 := (vc_X11_isRule_W_9 h105 q103 h104 h101)
        refine mr_iload_n (pc := 24) (z := z102) dX11_isRule_24 rfl rfl ?_
        refine mr_bipush (pc := 25) (z := 6) dX11_isRule_25 (by decide) ?_
        refine mr_icmp_gt (pc := 27) (tgt := 38) dX11_isRule_27 (by decide) (r32 h107 rfl) (r32 (rR (x := 6)) rfl) (fun h108 => ?_) (fun h108 => ?_)
        · have h109 : 7 ≤ z102 ∧ z102 ≤ 9 := (vc_X11_isRule_W_10 h108 q103 h105 h107 h101)
          refine mr_iconst (pc := 38) (z := 0) dX11_isRule_38 ?_
          exact mr_zretP dX11_isRule_39 rfl (rW (c := 0) (d := 1) (rR (x := 0)) rfl) (le_t rfl) (le_t rfl) ⟨(rW (c := 0) (d := 1) (rR (x := 0)) rfl), (fun h => absurd h (by decide)), (vc_X11_isRule_W_8 h1 h2), (((((W97 z88 z87 rfl h90 h91).2 h99) z102 q103).2 h105).1 h108), trivial⟩
        have h110 : 1 ≤ z102 ∧ z102 ≤ 6 := (vc_X11_isRule_W_11 h108 q103 h105 h107 h101)
        refine mr_iload_n (pc := 30) (z := z88) dX11_isRule_30 rfl rfl ?_
        refine mr_iload_n (pc := 31) (z := z102) dX11_isRule_31 rfl rfl ?_
        refine mr_ishr (pc := 32) (x := z88) (y := z102) dX11_isRule_32 ?_
        refine mr_gen (P := fun z => (-2147483648) ≤ z ∧ z ≤ 2147483647) (r32i _) fun z111 q112 h113 => ?_
        refine mr_iconst (pc := 33) (z := 1) dX11_isRule_33 ?_
        refine mr_iand (pc := 34) (x := z111) (y := 1) dX11_isRule_34 ?_
        refine mr_gen (P := fun z => 0 ≤ z ∧ z ≤ 1) (rAndR (rR (x := 1)) rfl) fun z114 q115 h116 => ?_
        refine mr_if_eq (pc := 35) (tgt := 40) dX11_isRule_35 (by decide) (r32 h116 rfl) (fun h117 => ?_) (fun h117 => ?_)
        · have h118 : 0 ≤ z114 ∧ z114 ≤ 0 := (vc_X12_ring_22 h117 h116)
          refine mr_iload_n (pc := 40) (z := z88) dX11_isRule_40 rfl rfl ?_
          refine mr_iconst (pc := 41) (z := 1) dX11_isRule_41 ?_
          refine mr_iload_n (pc := 42) (z := z102) dX11_isRule_42 rfl rfl ?_
          refine mr_ishl (pc := 43) (x := 1) (y := z102) dX11_isRule_43 ?_
          refine mr_gen (P := fun z => (-2147483648) ≤ z ∧ z ≤ 2147483647) (r32i _) fun z119 q120 h121 => ?_
          refine mr_ior (pc := 44) (x := z88) (y := z119) dX11_isRule_44 ?_
          refine mr_gen (P := fun z => (-2147483648) ≤ z ∧ z ≤ 2147483647) (r32i _) fun z122 q123 h124 => ?_
          refine mr_istore_n (pc := 45) (lv' := [(1, iv z122), (3, iv z102), (2, iv z87)]) dX11_isRule_45 rfl (by decide) rfl ?_
          refine mr_iload_n (pc := 46) (z := z87) dX11_isRule_46 rfl rfl ?_
          refine mr_bipush (pc := 47) (z := 10) dX11_isRule_47 (by decide) ?_
          refine mr_idiv (pc := 49) (x := z87) (y := 10) dX11_isRule_49 (rW (c := 0) (d := 2147483647) h101 rfl) vc_X8_doNext_W_5 ?_
          refine mr_gen (P := fun z => 0 ≤ z ∧ z ≤ 214748364) (rDiv h101 rfl) fun z125 q126 h127 => ?_
          refine mr_istore_n (pc := 50) (lv' := [(2, iv z125), (1, iv z122), (3, iv z102)]) dX11_isRule_50 rfl (by decide) rfl ?_
          refine sv_goto (pc := 51) (tgt := 10) dX11_isRule_51 (by decide) ?_
          refine mr_lvS (lv' := [(1, iv z122), (2, iv z125)]) (List.forall_mem_cons.mpr ⟨rfl, List.forall_mem_cons.mpr ⟨rfl, fun _ h => absurd h List.not_mem_nil⟩⟩) ?_
          exact ih98 z122 z125 trivial h124 (rW (c := 0) (d := 2147483647) h127 rfl) (rOK.step R95 (fun n h => sOK.add h (vc_X11_isRule_W_13 q103 h105 h108 h99 h110 h101) q112 q115 (bAnd1 q115 h117) q120 q123) q126) (vc_X11_isRule_W_14 (nS h96) h99 q103 q126 h105 h108 h110 h127 h101) (((((((((((W97 z88 z87 rfl h90 h91).2 h99) z102 q103).2 h105).2 h108) z111 q112) z114 q115).1 h117) z119 q120) z122 q123) z125 q126)
        have h128 : 1 ≤ z114 ∧ z114 ≤ 1 := (vc_X12_ring_24 h117 h116)
        refine mr_iconst (pc := 38) (z := 0) dX11_isRule_38 ?_
        exact mr_zretP dX11_isRule_39 rfl (rW (c := 0) (d := 1) (rR (x := 0)) rfl) (le_t rfl) (le_t rfl) ⟨(rW (c := 0) (d := 1) (rR (x := 0)) rfl), (fun h => absurd h (by decide)), (vc_X11_isRule_W_8 h1 h2), ((((((((W97 z88 z87 rfl h90 h91).2 h99) z102 q103).2 h105).2 h108) z111 q112) z114 q115).2 h117), trivial⟩
    refine mr_lvS (lv' := [(1, iv 0), (2, iv p1)]) (List.forall_mem_cons.mpr ⟨rfl, List.forall_mem_cons.mpr ⟨rfl, fun _ h => absurd h List.not_mem_nil⟩⟩) ?_
    exact L89 2147483648 0 p1 trivial (rW (c := (-2147483648)) (d := 2147483647) (rR (x := 0)) rfl) h2 rOK.init (vc_X11_isRule_W_16 h1 h2) (hQ.1 h1)
  have h129 : (-2147483648) ≤ p1 ∧ p1 ≤ (-1) := (vc_X12_ring_60 h1 hp1)
  refine mr_iconst (pc := 4) (z := 0) dX11_isRule_4 ?_
  exact mr_zretP dX11_isRule_5 rfl (rW (c := 0) (d := 1) (rR (x := 0)) rfl) (le_t rfl) (le_t rfl) ⟨(rW (c := 0) (d := 1) (rR (x := 0)) rfl), (fun h => absurd h (by decide)), (vc_X11_isRule_W_18 h1 h129), (hQ.2 h1), trivial⟩
def WL_X0_goBy_W_2 (w : mW) (a0 : Nat) (Q : mM → Prop) (μ92 : mM) (rec2 : (Int × Int × mM) → Prop) (s : (Int × Int × mM)) : Prop := ∀ z145 : Int, ∀ z144 : Int, ∀ μ146 : mM, s = (z145, z144, μ146) → (0 ≤ z145 ∧ z145 ≤ 999999) → ((-1) ≤ z144 ∧ z144 ≤ 5) → mT w μ146 → mF [211999] w μ92 μ146 → ((z144 < 0) → Q μ146) ∧ ((0 ≤ z144) → ∀ z172 : Int, z145 % 10 = z172 → ∀ μ175 : mM, mU μ146 (a0 + 1) (z144.toNat) z172 μ175 → mT w μ175 → ∀ z178 : Int, z145 / 10 = z178 → rec2 (z178, (z144 + (-1)), μ175))
def WL_X0_goBy_W_1 (w : mW) (a0 : Nat) (p1 : Int) (Q : mM → Prop) (μ4 : mM) (rec1 : (Int × mM) → Prop) (s : (Int × mM)) : Prop := ∀ z91 : Int, ∀ μ92 : mM, s = (z91, μ92) → (0 ≤ z91 ∧ z91 ≤ 999999) → mT w μ92 → mF [210004] w μ4 μ92 → ∀ f_c : Int, μ92 a0 (4) = f_c → (0 ≤ f_c ∧ f_c ≤ 6) → ((z91 ≤ 0) → loopF (WL_X0_goBy_W_2 w a0 Q μ92) False 8 (p1, (f_c - 1), μ92)) ∧ ((0 < z91) → ∀ μ182 : mM, mU μ92 a0 (4) (f_c + 1) μ182 → mT w μ182 → ∀ z185 : Int, z91 / 10 = z185 → rec1 (z185, μ182))
def WP_X0_goBy_W (w : mW) (μ : mM) (a0 : Nat) (p1 : Int) (p2 : Int) (Q : mM → Prop) : Prop := ∀ μ1 : mM, mU μ a0 (5) p2 μ1 → mT w μ1 → ∀ μ4 : mM, mU μ1 a0 (4) (0 : Int) μ4 → mT w μ4 → loopF (WL_X0_goBy_W_1 w a0 p1 Q μ4) False 1000000 (p1, μ4)
theorem vc_X0_goBy_W_1 {f_c z91 : Int} (h0 : z91 < ((0 : Nat) : Int)) (h1 : (f_c = 0 ∧ z91 ≤ 999999) ∨ (f_c = 1 ∧ z91 ≤ 99999) ∨ (f_c = 2 ∧ z91 ≤ 9999) ∨ (f_c = 3 ∧ z91 ≤ 999) ∨ (f_c = 4 ∧ z91 ≤ 99) ∨ (f_c = 5 ∧ z91 ≤ 9) ∨ (f_c = 6 ∧ z91 ≤ 0)) (h2 : 0 ≤ z91 ∧ z91 ≤ 999999) : False := by omega
theorem vc_X0_goBy_W_2 {f_c z91 : Int} (h0 : z91 ≤ 0) (h1 : (f_c = 0 ∧ z91 ≤ 999999) ∨ (f_c = 1 ∧ z91 ≤ 99999) ∨ (f_c = 2 ∧ z91 ≤ 9999) ∨ (f_c = 3 ∧ z91 ≤ 999) ∨ (f_c = 4 ∧ z91 ≤ 99) ∨ (f_c = 5 ∧ z91 ≤ 9) ∨ (f_c = 6 ∧ z91 ≤ 0)) (h2 : 0 ≤ f_c ∧ f_c ≤ 6) (h3 : 0 ≤ z91 ∧ z91 ≤ 999999) : 0 ≤ z91 ∧ z91 ≤ 0 := by omega
theorem vc_X0_goBy_W_3 {z144 : Int} (h0 : (z144 - (-2)) < ((0 : Nat) : Int)) (h1 : (-1) ≤ z144 ∧ z144 ≤ 5) : False := by omega
theorem vc_X0_goBy_W_4 {z144 : Int} (h0 : z144 < 0) (h1 : (-1) ≤ z144 ∧ z144 ≤ 5) : (-1) ≤ z144 ∧ z144 ≤ (-1) := by omega
theorem vc_X0_goBy_W_5 {z144 : Int} (h0 : 0 ≤ z144) (h1 : (-1) ≤ z144 ∧ z144 ≤ 5) : 0 ≤ z144 ∧ z144 ≤ 5 := by omega
theorem vc_X0_goBy_W_7 {N z144 : Int} (h0 : (z144 - (-2)) < N + 1) (h1 : 0 ≤ z144) (h2 : 0 ≤ z144 ∧ z144 ≤ 5) : ((z144 + (-1)) - (-2)) < N := by omega
theorem vc_X0_goBy_W_8 {f_c z91 : Int} (h0 : (f_c = 0 ∧ z91 ≤ 999999) ∨ (f_c = 1 ∧ z91 ≤ 99999) ∨ (f_c = 2 ∧ z91 ≤ 9999) ∨ (f_c = 3 ∧ z91 ≤ 999) ∨ (f_c = 4 ∧ z91 ≤ 99) ∨ (f_c = 5 ∧ z91 ≤ 9) ∨ (f_c = 6 ∧ z91 ≤ 0)) (h1 : z91 ≤ 0) (h2 : 0 ≤ f_c ∧ f_c ≤ 6) (h3 : 0 ≤ z91 ∧ z91 ≤ 0) : ((f_c - 1) - (-2)) < ((8 : Nat) : Int) := by omega
theorem vc_X0_goBy_W_9 {f_c z91 : Int} (h0 : 0 < z91) (h1 : (f_c = 0 ∧ z91 ≤ 999999) ∨ (f_c = 1 ∧ z91 ≤ 99999) ∨ (f_c = 2 ∧ z91 ≤ 9999) ∨ (f_c = 3 ∧ z91 ≤ 999) ∨ (f_c = 4 ∧ z91 ≤ 99) ∨ (f_c = 5 ∧ z91 ≤ 9) ∨ (f_c = 6 ∧ z91 ≤ 0)) (h2 : 0 ≤ f_c ∧ f_c ≤ 6) (h3 : 0 ≤ z91 ∧ z91 ≤ 999999) : 1 ≤ z91 ∧ z91 ≤ 999999 := by omega
theorem vc_X0_goBy_W_10 {f_c z91 : Int} (h0 : (f_c = 0 ∧ z91 ≤ 999999) ∨ (f_c = 1 ∧ z91 ≤ 99999) ∨ (f_c = 2 ∧ z91 ≤ 9999) ∨ (f_c = 3 ∧ z91 ≤ 999) ∨ (f_c = 4 ∧ z91 ≤ 99) ∨ (f_c = 5 ∧ z91 ≤ 9) ∨ (f_c = 6 ∧ z91 ≤ 0)) (h1 : 0 < z91) (h2 : 0 ≤ f_c ∧ f_c ≤ 6) (h3 : 1 ≤ z91 ∧ z91 ≤ 999999) : 0 ≤ (f_c + 1) ∧ (f_c + 1) ≤ 6 := by omega
theorem vc_X0_goBy_W_11 {f_c z185 z91 : Int} (h0 : (f_c = 0 ∧ z91 ≤ 999999) ∨ (f_c = 1 ∧ z91 ≤ 99999) ∨ (f_c = 2 ∧ z91 ≤ 9999) ∨ (f_c = 3 ∧ z91 ≤ 999) ∨ (f_c = 4 ∧ z91 ≤ 99) ∨ (f_c = 5 ∧ z91 ≤ 9) ∨ (f_c = 6 ∧ z91 ≤ 0)) (h1 : z91 / 10 = z185) (h2 : 0 < z91) (h3 : 0 ≤ f_c ∧ f_c ≤ 6) (h4 : 0 ≤ z185 ∧ z185 ≤ 99999) (h5 : 1 ≤ z91 ∧ z91 ≤ 999999) : ((f_c + 1) = 0 ∧ z185 ≤ 999999) ∨ ((f_c + 1) = 1 ∧ z185 ≤ 99999) ∨ ((f_c + 1) = 2 ∧ z185 ≤ 9999) ∨ ((f_c + 1) = 3 ∧ z185 ≤ 999) ∨ ((f_c + 1) = 4 ∧ z185 ≤ 99) ∨ ((f_c + 1) = 5 ∧ z185 ≤ 9) ∨ ((f_c + 1) = 6 ∧ z185 ≤ 0) := by omega
theorem vc_X0_goBy_W_12 {N f_c z185 z91 : Int} (h0 : z91 < N + 1) (h1 : (f_c = 0 ∧ z91 ≤ 999999) ∨ (f_c = 1 ∧ z91 ≤ 99999) ∨ (f_c = 2 ∧ z91 ≤ 9999) ∨ (f_c = 3 ∧ z91 ≤ 999) ∨ (f_c = 4 ∧ z91 ≤ 99) ∨ (f_c = 5 ∧ z91 ≤ 9) ∨ (f_c = 6 ∧ z91 ≤ 0)) (h2 : 0 < z91) (h3 : z91 / 10 = z185) (h4 : 0 ≤ f_c ∧ f_c ≤ 6) (h5 : 0 ≤ z185 ∧ z185 ≤ 99999) (h6 : 1 ≤ z91 ∧ z91 ≤ 999999) : z185 < N := by omega
theorem vc_X0_goBy_W_13 {p1 : Int} (h0 : 0 ≤ p1 ∧ p1 ≤ 999999) : ((0 : Int) = 0 ∧ p1 ≤ 999999) ∨ ((0 : Int) = 1 ∧ p1 ≤ 99999) ∨ ((0 : Int) = 2 ∧ p1 ≤ 9999) ∨ ((0 : Int) = 3 ∧ p1 ≤ 999) ∨ ((0 : Int) = 4 ∧ p1 ≤ 99) ∨ ((0 : Int) = 5 ∧ p1 ≤ 9) ∨ ((0 : Int) = 6 ∧ p1 ≤ 0) := by omega
theorem vc_X0_goBy_W_14 {p1 : Int} (h0 : 0 ≤ p1 ∧ p1 ≤ 999999) : p1 < ((1000000 : Nat) : Int) := by omega
set_option maxRecDepth 4000 in
set_option maxHeartbeats 4000000 in
theorem c_X0_goBy_W {l : Launch} {D : va_G} {c : Nat → ClassId} {H0 : Heap} {sa : Nat × Nat × (Nat → Int32)} {w : mW} {μ : mM} (hw : mWF w) (hT : mT w μ) {a0 : Nat} (hA0 : mAt w a0 210) {p1 : Int} (hp1 : 0 ≤ p1 ∧ p1 ≤ 999999) {p2 : Int} (hp2 : 0 ≤ p2 ∧ p2 ≤ 1) {Q : mM → Prop} (hQ : WP_X0_goBy_W w μ a0 p1 p2 Q) : sC (gG l D c H0 sa) mX0_goBy 1 0 0 [.ref a0, iv p1, iv p2] (mk w μ) (qV w [210004, 210005, 211999] μ (fun μ1 => Q μ1 ∧ True)) := by
  refine sC.of rfl (by decide) (le_t rfl) ?_
  refine mr_lvE (lv' := [(0, .ref a0), (1, iv p1), (2, iv p2)]) rfl ?_
  refine sv_aload_n (pc := 0) dX0_goBy_0 rfl rfl ?_
  refine mr_iload_n (pc := 1) (z := p2) dX0_goBy_1 rfl rfl ?_
  refine pf_X0_5 (pc := 2) dX0_goBy_2 wF_X0_33 hA0 hT hp2 fun μ1 u2 T3 => ?_
  refine sv_aload_n (pc := 5) dX0_goBy_5 rfl rfl ?_
  refine mr_iconst (pc := 6) (z := 0) dX0_goBy_6 ?_
  refine pf_X0_4 (pc := 7) dX0_goBy_7 wF_X0_37 hA0 T3 (rW (c := 0) (d := 6) (rR (x := 0)) rfl) fun μ4 u5 T6 => ?_
  refine mr_iload_n (pc := 10) (z := p1) dX0_goBy_10 rfl rfl ?_
  refine mr_istore_n (pc := 11) (lv' := [(3, iv p1), (0, .ref a0), (1, iv p1), (2, iv p2)]) dX0_goBy_11 rfl (by decide) rfl ?_
  have L93 : ∀ (nL93 : Nat) (z91 : Int) (μ92 : mM) (f_c : Int), mT w μ92 → mF [210004] w μ4 μ92 → μ92 a0 (4) = f_c → (0 ≤ z91 ∧ z91 ≤ 999999) → ((f_c = 0 ∧ z91 ≤ 999999) ∨ (f_c = 1 ∧ z91 ≤ 99999) ∨ (f_c = 2 ∧ z91 ≤ 9999) ∨ (f_c = 3 ∧ z91 ≤ 999) ∨ (f_c = 4 ∧ z91 ≤ 99) ∨ (f_c = 5 ∧ z91 ≤ 9) ∨ (f_c = 6 ∧ z91 ≤ 0)) → z91 < (nL93 : Int) → loopF (WL_X0_goBy_W_1 w a0 p1 Q μ4) False nL93 (z91, μ92) → sV (gG l D c H0 sa) mX0_goBy (sRm 1 0 0) (sZ (gG l D c H0 sa) 0 0 (qV w [210004, 210005, 211999] μ (fun μ1 => Q μ1 ∧ True))) 12 [(0, .ref a0), (1, iv p1), (3, iv z91)] [] (mk w μ92) 0 0 := by
    intro nL93
    induction nL93 with
    | zero => intro z91 μ92 f_c T95 F96 q101 h94 h98 h99 W100; exact ((vc_X0_goBy_W_1 h99 h98 h94)).elim
    | succ nL93 ih102 =>
      intro z91 μ92 f_c T95 F96 q101 h94 h98 h99 W100
      have h103 : (0 ≤ f_c ∧ f_c ≤ 6) := by rw [← q101]; exact T95 a0 210 hA0 (4)
      refine mr_iload_n (pc := 12) (z := z91) dX0_goBy_12 rfl rfl ?_
      refine mr_if_le (pc := 13) (tgt := 34) dX0_goBy_13 (by decide) (r32 h94 rfl) (fun h112 => ?_) (fun h112 => ?_)
      · have h113 : 0 ≤ z91 ∧ z91 ≤ 0 := (vc_X0_goBy_W_2 h112 h98 h103 h94)
        refine mr_iload_n (pc := 34) (z := p1) dX0_goBy_34 rfl rfl ?_
        refine mr_istore_n (pc := 35) (lv' := [(3, iv p1), (0, .ref a0), (1, iv p1)]) dX0_goBy_35 rfl (by decide) rfl ?_
        refine sv_aload_n (pc := 36) dX0_goBy_36 rfl rfl ?_
        refine gk_X0_4 (pc := 37) dX0_goBy_37 wF_X0_37 hA0 q101 ?_
        refine mr_iconst (pc := 40) (z := 1) dX0_goBy_40 ?_
        refine mr_isub (pc := 41) (x := f_c) (y := 1) dX0_goBy_41 ?_
        refine mr_istore (pc := 42) (lv' := [(4, iv (f_c - 1)), (3, iv p1), (0, .ref a0), (1, iv p1)]) dX0_goBy_42 (by decide) rfl ?_
        have L147 : ∀ (nL147 : Nat) (z145 z144 : Int) (μ146 : mM), mT w μ146 → mF [211999] w μ92 μ146 → (0 ≤ z145 ∧ z145 ≤ 999999) → ((-1) ≤ z144 ∧ z144 ≤ 5) → (z144 - (-2)) < (nL147 : Int) → loopF (WL_X0_goBy_W_2 w a0 Q μ92) False nL147 (z145, z144, μ146) → sV (gG l D c H0 sa) mX0_goBy (sRm 1 0 0) (sZ (gG l D c H0 sa) 0 0 (qV w [210004, 210005, 211999] μ (fun μ1 => Q μ1 ∧ True))) 44 [(0, .ref a0), (3, iv z145), (4, iv z144)] [] (mk w μ146) 0 0 := by
          intro nL147
          induction nL147 with
          | zero => intro z145 z144 μ146 T150 F151 h148 h149 h153 W154; exact ((vc_X0_goBy_W_3 h153 h149)).elim
          | succ nL147 ih155 =>
            intro z145 z144 μ146 T150 F151 h148 h149 h153 W154
            refine mr_iload (pc := 44) (z := z144) dX0_goBy_44 rfl ?_
            refine mr_if_lt (pc := 46) (tgt := 71) dX0_goBy_46 (by decide) (r32 h149 rfl) (fun h168 => ?_) (fun h168 => ?_)
            · have h169 : (-1) ≤ z144 ∧ z144 ≤ (-1) := (vc_X0_goBy_W_4 h168 h149)
              exact mr_vret dX0_goBy_71 rfl (le_t rfl) (le_t rfl) T150 (mF.call (mF.call (mF.up (mF.up mF.refl hA0 u2 rfl) hA0 u5 rfl) F96 rfl) F151 rfl) ⟨((W154 z145 z144 μ146 rfl h148 h149 T150 F151).1 h168), trivial⟩
            have h170 : 0 ≤ z144 ∧ z144 ≤ 5 := (vc_X0_goBy_W_5 h168 h149)
            refine sv_aload_n (pc := 49) dX0_goBy_49 rfl rfl ?_
            refine gf_X0_0 (pc := 50) dX0_goBy_50 wF_X0_9 hA0 T150 fun A171 => ?_
            refine mr_iload (pc := 53) (z := z144) dX0_goBy_53 rfl ?_
            refine mr_iload_n (pc := 55) (z := z145) dX0_goBy_55 rfl rfl ?_
            refine mr_bipush (pc := 56) (z := 10) dX0_goBy_56 (by decide) ?_
            refine mr_irem (pc := 58) (x := z145) (y := 10) dX0_goBy_58 (rW (c := 0) (d := 2147483647) h148 rfl) vc_X8_doNext_W_5 ?_
            refine mr_gen (P := fun z => 0 ≤ z ∧ z ≤ 9) (rMod h148 rfl) fun z172 q173 h174 => ?_
            refine ss_211 (pc := 59) dX0_goBy_59 A171 T150 (rIx (n := 6) h170 rfl) h174 fun μ175 u176 T177 => ?_
            refine mr_iload_n (pc := 60) (z := z145) dX0_goBy_60 rfl rfl ?_
            refine mr_bipush (pc := 61) (z := 10) dX0_goBy_61 (by decide) ?_
            refine mr_idiv (pc := 63) (x := z145) (y := 10) dX0_goBy_63 (rW (c := 0) (d := 2147483647) h148 rfl) vc_X8_doNext_W_5 ?_
            refine mr_gen (P := fun z => 0 ≤ z ∧ z ≤ 99999) (rDiv h148 rfl) fun z178 q179 h180 => ?_
            refine mr_istore_n (pc := 64) (lv' := [(3, iv z178), (0, .ref a0), (4, iv z144)]) dX0_goBy_64 rfl (by decide) rfl ?_
            refine mr_iinc (pc := 65) (lv' := [(4, iv (z144 + (-1))), (3, iv z178), (0, .ref a0)]) dX0_goBy_65 rfl (by decide) rfl ?_
            refine sv_goto (pc := 68) (tgt := 44) dX0_goBy_68 (by decide) ?_
            refine mr_lvS (lv' := [(0, .ref a0), (3, iv z178), (4, iv (z144 + (-1)))]) (List.forall_mem_cons.mpr ⟨rfl, List.forall_mem_cons.mpr ⟨rfl, List.forall_mem_cons.mpr ⟨rfl, fun _ h => absurd h List.not_mem_nil⟩⟩⟩) ?_
            exact ih155 z178 (z144 + (-1)) μ175 T177 (mF.up (mF.call mF.refl F151 rfl) A171 u176 rfl) (rW (c := 0) (d := 999999) h180 rfl) (rW (c := (-1)) (d := 5) (rAdd (e := (-1)) (f := 4) h170 (rR (x := (-1))) rfl) rfl) (vc_X0_goBy_W_7 (nS h153) h168 h170) (((((W154 z145 z144 μ146 rfl h148 h149 T150 F151).2 h168) z172 q173) μ175 u176 T177) z178 q179)
        refine mr_lvS (lv' := [(0, .ref a0), (3, iv p1), (4, iv (f_c - 1))]) (List.forall_mem_cons.mpr ⟨rfl, List.forall_mem_cons.mpr ⟨rfl, List.forall_mem_cons.mpr ⟨rfl, fun _ h => absurd h List.not_mem_nil⟩⟩⟩) ?_
        exact L147 8 p1 (f_c - 1) μ92 T95 mF.refl hp1 (rSub (e := (-1)) (f := 5) h103 (rR (x := 1)) rfl) (vc_X0_goBy_W_8 h98 h112 h103 h113) (((W100 z91 μ92 rfl h94 T95 F96) f_c q101 h103).1 h112)
      have h181 : 1 ≤ z91 ∧ z91 ≤ 999999 := (vc_X0_goBy_W_9 h112 h98 h103 h94)
      refine sv_aload_n (pc := 16) dX0_goBy_16 rfl rfl ?_
      refine sv_dup (pc := 17) dX0_goBy_17 rfl ?_
      refine gk_X0_4 (pc := 18) dX0_goBy_18 wF_X0_37 hA0 q101 ?_
      refine mr_iconst (pc := 21) (z := 1) dX0_goBy_21 ?_
      refine mr_iadd (pc := 22) (x := f_c) (y := 1) dX0_goBy_22 ?_
      refine pf_X0_4 (pc := 23) dX0_goBy_23 wF_X0_37 hA0 T95 (vc_X0_goBy_W_10 h98 h112 h103 h181) fun μ182 u183 T184 => ?_
      refine mr_iload_n (pc := 26) (z := z91) dX0_goBy_26 rfl rfl ?_
      refine mr_bipush (pc := 27) (z := 10) dX0_goBy_27 (by decide) ?_
      refine mr_idiv (pc := 29) (x := z91) (y := 10) dX0_goBy_29 (rW (c := 0) (d := 2147483647) h181 rfl) vc_X8_doNext_W_5 ?_
      refine mr_gen (P := fun z => 0 ≤ z ∧ z ≤ 99999) (rDiv h181 rfl) fun z185 q186 h187 => ?_
      refine mr_istore_n (pc := 30) (lv' := [(3, iv z185), (0, .ref a0), (1, iv p1)]) dX0_goBy_30 rfl (by decide) rfl ?_
      refine sv_goto (pc := 31) (tgt := 12) dX0_goBy_31 (by decide) ?_
      refine mr_lvS (lv' := [(0, .ref a0), (1, iv p1), (3, iv z185)]) (List.forall_mem_cons.mpr ⟨rfl, List.forall_mem_cons.mpr ⟨rfl, List.forall_mem_cons.mpr ⟨rfl, fun _ h => absurd h List.not_mem_nil⟩⟩⟩) ?_
      exact ih102 z185 μ182 (f_c + 1) T184 (mF.up (mF.call mF.refl F96 rfl) hA0 u183 rfl) u183.1 (rW (c := 0) (d := 999999) h187 rfl) (vc_X0_goBy_W_11 h98 q186 h112 h103 h187 h181) (vc_X0_goBy_W_12 (nS h99) h98 h112 q186 h103 h187 h181) (((((W100 z91 μ92 rfl h94 T95 F96) f_c q101 h103).2 h112) μ182 u183 T184) z185 q186)
  refine mr_lvS (lv' := [(0, .ref a0), (1, iv p1), (3, iv p1)]) (List.forall_mem_cons.mpr ⟨rfl, List.forall_mem_cons.mpr ⟨rfl, List.forall_mem_cons.mpr ⟨rfl, fun _ h => absurd h List.not_mem_nil⟩⟩⟩) ?_
  exact L93 1000000 p1 μ4 0 T6 mF.refl u5.1 hp1 (vc_X0_goBy_W_13 hp1) (vc_X0_goBy_W_14 hp1) ((hQ μ1 u2 T3) μ4 u5 T6)
def WP_X11_rule_W (w : mW) (μ : mM) (p1 : Int) (p2 : Int) (p3 : Int) (Q : Int → mM → Prop) : Prop := ∀ z1 : Int, μ 6 15 = z1 → (z1 = w.2.2.2 0 ∧ 0 ≤ z1 ∧ z1 ≤ 10) → WP_X11_isDomain_W w μ p1 (fun z8 _ => (0 ≤ z8 ∧ z8 ≤ 1) → ((z8 = 0) → Q ((-1) : Int) μ) ∧ ((¬ z8 = 0) → WP_X11_isRule_W w μ p2 (fun z20 _ => (0 ≤ z20 ∧ z20 ≤ 1) → ((¬ z20 = 0) → ∀ b27 : Nat, μ 10 (p1.toNat) = (b27 : Int) → mAt w b27 210 → WP_X0_goBy_W w μ b27 p2 p3 (fun μ30 => mT w μ30 → mF [210004, 210005, 211999] w μ μ30 → WP_X8_lookAtAll_W w μ30 p1 (fun μ34 => mT w μ34 → mF [21002, 21003, 21004, 21005, 21006, 21007, 32009, 32010, 33999, 34999, 66999, 200002, 200003, 200004, 200005, 200006, 200007, 200008, 200009, 200010, 200011, 201999, 202999, 213999] w μ30 μ34 → Q (0 : Int) μ34))) ∧ ((z20 = 0) → Q ((-1) : Int) μ))))
theorem vc_X11_rule_W_7 {p2 z20 : Int} (h0 : ¬ z20 = 0) (h1 : (z20 = 1 → p2 ≤ 999999)) (h2 : (z20 = 1 → 0 ≤ p2)) (h3 : (-2147483648) ≤ p2 ∧ p2 ≤ 2147483647) (h4 : 0 ≤ z20 ∧ z20 ≤ 1) : 1 ≤ z20 ∧ z20 ≤ 1 := by omega
theorem vc_X11_rule_W_8 {p2 z20 : Int} (h0 : (z20 = 1 → p2 ≤ 999999)) (h1 : (z20 = 1 → 0 ≤ p2)) (h2 : ¬ z20 = 0) (h3 : (-2147483648) ≤ p2 ∧ p2 ≤ 2147483647) (h4 : 1 ≤ z20 ∧ z20 ≤ 1) : z20 = 1 := by omega
theorem vc_X11_rule_W_9 {p2 z20 : Int} (h0 : p2 ≤ 999999) (h1 : (z20 = 1 → p2 ≤ 999999)) (h2 : (z20 = 1 → 0 ≤ p2)) (h3 : (-2147483648) ≤ p2 ∧ p2 ≤ 2147483647) (h4 : 1 ≤ z20 ∧ z20 ≤ 1) : (-2147483648) ≤ p2 ∧ p2 ≤ 999999 := by omega
theorem vc_X11_rule_W_10 {p2 z20 : Int} (h0 : (z20 = 1 → p2 ≤ 999999)) (h1 : (z20 = 1 → 0 ≤ p2)) (h2 : ¬ z20 = 0) (h3 : p2 ≤ 999999) (h4 : (-2147483648) ≤ p2 ∧ p2 ≤ 999999) (h5 : 1 ≤ z20 ∧ z20 ≤ 1) : z20 = 1 := by omega
theorem vc_X11_rule_W_11 {p2 z20 : Int} (h0 : 0 ≤ p2) (h1 : (z20 = 1 → p2 ≤ 999999)) (h2 : (z20 = 1 → 0 ≤ p2)) (h3 : p2 ≤ 999999) (h4 : (-2147483648) ≤ p2 ∧ p2 ≤ 999999) (h5 : 1 ≤ z20 ∧ z20 ≤ 1) : 0 ≤ p2 ∧ p2 ≤ 999999 := by omega
theorem vc_X11_rule_W_13 {p2 z20 : Int} (h0 : z20 = 0) (h1 : (z20 = 1 → p2 ≤ 999999)) (h2 : (z20 = 1 → 0 ≤ p2)) (h3 : (-2147483648) ≤ p2 ∧ p2 ≤ 2147483647) (h4 : 0 ≤ z20 ∧ z20 ≤ 1) : 0 ≤ z20 ∧ z20 ≤ 0 := by omega
set_option maxRecDepth 4000 in
set_option maxHeartbeats 4000000 in
theorem c_X11_rule_W {l : Launch} {D : va_G} {c : Nat → ClassId} {H0 : Heap} {sa : Nat × Nat × (Nat → Int32)} {w : mW} {μ : mM} (hw : mWF w) (hT : mT w μ) {p1 : Int} (hp1 : (-2147483648) ≤ p1 ∧ p1 ≤ 2147483647) {p2 : Int} (hp2 : (-2147483648) ≤ p2 ∧ p2 ≤ 2147483647) {p3 : Int} (hp3 : 0 ≤ p3 ∧ p3 ≤ 1) (hIPC : PC w μ) {Q : Int → mM → Prop} (hQ : WP_X11_rule_W w μ p1 p2 p3 Q) : sC (gG l D c H0 sa) mX11_rule 44 0 0 [.ref 0, iv p1, iv p2, iv p3] (mk w μ) (qI w [21002, 21003, 21004, 21005, 21006, 21007, 32009, 32010, 33999, 34999, 66999, 200002, 200003, 200004, 200005, 200006, 200007, 200008, 200009, 200010, 200011, 201999, 202999, 210004, 210005, 211999, 213999] μ (fun z μ1 => ((-2147483648) ≤ z ∧ z ≤ 2147483647) ∧ Q z μ1 ∧ True)) := by
  refine sC.of rfl (by decide) (le_t rfl) ?_
  refine mr_lvE (lv' := [(0, .ref 0), (1, iv p1), (2, iv p2), (3, iv p3)]) rfl ?_
  refine sv_aload_n (pc := 0) dX11_rule_0 rfl rfl ?_
  refine mr_iload_n (pc := 1) (z := p1) dX11_rule_1 rfl rfl ?_
  obtain ⟨z1, q2⟩ : ∃ z, μ 6 15 = z := ⟨_, rfl⟩
  have h3 : (z1 = w.2.2.2 0 ∧ 0 ≤ z1 ∧ z1 ≤ 10) := by rw [← q2]; exact hT 6 6 (A_6 hw) 15
  refine mr_cVP (pc := 2) (c_X11_isDomain_W hw hT hp1 q2 (hQ z1 q2 h3)) (gOk _ _ _ _ _) dX11_rule_2 (tX11_isDomain _ _ _ _ _) ⟨wV_X11_isDomain, wL_X11_isDomain⟩ wM_X11_105 (gCX11 _ _ _ _ _) rfl (A_0 hw) rfl ⟨le_t rfl, le_t rfl⟩ ⟨le_t rfl, le_t rfl⟩ rfl (le_t rfl) fun z8 h7 => ?_
  refine mr_if_eq (pc := 5) (tgt := 15) dX11_rule_5 (by decide) (r32 h7.1 rfl) (fun h9 => ?_) (fun h9 => ?_)
  · have h10 : 0 ≤ z8 ∧ z8 ≤ 0 := (vc_X12_write_78 h9 h7.2.1 h7.2.2.1 hp1 h3.2 h7.1)
    have h11 : p1 < 0 ∨ z1 ≤ p1 := (h7.2.2.1 (vc_X11_letter_2 h7.2.1 h7.2.2.1 h9 h3.1 hp1 h3.2 h10))
    refine mr_iconst (pc := 15) (z := (-1)) dX11_rule_15 ?_
    exact mr_iret dX11_rule_16 rfl (le_t rfl) (le_t rfl) hT mF.refl ⟨(rW (c := (-2147483648)) (d := 2147483647) (rR (x := (-1))) rfl), ((h7.2.2.2.1 h7.1).1 h9), trivial⟩
  have h12 : 1 ≤ z8 ∧ z8 ≤ 1 := (vc_X12_write_12 h9 h7.2.1 h7.2.2.1 hp1 h3.2 h7.1)
  have h13 : 0 ≤ p1 ∧ p1 < z1 := (h7.2.1 (vc_X11_letter_4 h7.2.1 h7.2.2.1 h9 h3.1 hp1 h3.2 h12))
  have h14 : 0 ≤ p1 ∧ p1 ≤ 9 := (vc_X11_letter_5 h13 h3.1 h7.2.1 h7.2.2.1 hp1 h3.2 h12)
  have h15 : 1 ≤ z1 ∧ z1 ≤ 10 := (vc_X11_letter_6 h13 h3.1 h7.2.1 h7.2.2.1 h14 h3.2 h12)
  refine mr_iload_n (pc := 8) (z := p2) dX11_rule_8 rfl rfl ?_
  refine mr_cSP (pc := 9) (c_X11_isRule_W hw hT hp2 ((h7.2.2.2.1 h7.1).2 h9)) (gOk _ _ _ _ _) dX11_rule_9 (tX11_isRule _ _ _ _ _) wS_X11_isRule wM_X11_280 ⟨le_t rfl, le_t rfl⟩ ⟨le_t rfl, le_t rfl⟩ rfl (le_t rfl) fun z20 h19 => ?_
  refine mr_if_ne (pc := 12) (tgt := 17) dX11_rule_12 (by decide) (r32 h19.1 rfl) (fun h21 => ?_) (fun h21 => ?_)
  · have h22 : 1 ≤ z20 ∧ z20 ≤ 1 := (vc_X11_rule_W_7 h21 h19.2.1 h19.2.2.1 hp2 h19.1)
    have h23 : p2 ≤ 999999 := (h19.2.1 (vc_X11_rule_W_8 h19.2.1 h19.2.2.1 h21 hp2 h22))
    have h24 : (-2147483648) ≤ p2 ∧ p2 ≤ 999999 := (vc_X11_rule_W_9 h23 h19.2.1 h19.2.2.1 hp2 h22)
    have h25 : 0 ≤ p2 := (h19.2.2.1 (vc_X11_rule_W_10 h19.2.1 h19.2.2.1 h21 h23 h24 h22))
    have h26 : 0 ≤ p2 ∧ p2 ≤ 999999 := (vc_X11_rule_W_11 h25 h19.2.1 h19.2.2.1 h23 h24 h22)
    refine sv_aload_n (pc := 17) dX11_rule_17 rfl rfl ?_
    refine gf_X11_3 (pc := 18) dX11_rule_18 wF_X11_26 (A_0 hw) hT ?_
    refine gf_X10_3 (pc := 21) dX11_rule_21 wF_X11_283 (A_6 hw) hT ?_
    refine mr_iload_n (pc := 24) (z := p1) dX11_rule_24 rfl rfl ?_
    refine la_10 (pc := 25) dX11_rule_25 (A_10 hw) hT (rIx (n := 10) h14 rfl) (vc_X11_letter_7 h3.1 h7.2.1 h7.2.2.1 h13 h9 h14 h15 h12) fun b27 q28 A29 => ?_
    refine mr_iload_n (pc := 26) (z := p2) dX11_rule_26 rfl rfl ?_
    refine mr_iload_n (pc := 27) (z := p3) dX11_rule_27 rfl rfl ?_
    refine mr_cVV (pc := 28) (c_X0_goBy_W hw hT A29 h26 hp3 (((h19.2.2.2.1 h19.1).1 h21) b27 q28 A29)) (gOk _ _ _ _ _) dX11_rule_28 (tX0_goBy _ _ _ _ _) ⟨wV_X0_goBy, wL_X0_goBy⟩ wM_X11_287 (gCX0 _ _ _ _ _) rfl A29 rfl ⟨le_t rfl, le_t rfl⟩ ⟨le_t rfl, le_t rfl⟩ rfl (le_t rfl) fun μ30 T31 F32 h33 => ?_
    refine sv_aload_n (pc := 31) dX11_rule_31 rfl rfl ?_
    refine gf_X11_6 (pc := 32) dX11_rule_32 wF_X11_51 (A_0 hw) T31 ?_
    refine mr_iload_n (pc := 35) (z := p1) dX11_rule_35 rfl rfl ?_
    refine mr_cVV (pc := 36) (c_X8_lookAtAll_W hw T31 h14 (vc_X11_letter_7 h3.1 h7.2.1 h7.2.2.1 h13 h9 h14 h15 h12) (PC.keep hIPC hw ((mF.call mF.refl F32 rfl) : mF [210004, 210005, 211999] w μ μ30) rfl) (h33.1 T31 F32)) (gOk _ _ _ _ _) dX11_rule_36 (tX8_lookAtAll _ _ _ _ _) ⟨wV_X8_lookAtAll, wL_X8_lookAtAll⟩ wM_X11_148 (gCX8 _ _ _ _ _) rfl (A_32 hw) rfl ⟨le_t rfl, le_t rfl⟩ ⟨le_t rfl, le_t rfl⟩ rfl (le_t rfl) fun μ34 T35 F36 h37 => ?_
    refine mr_iconst (pc := 39) (z := 0) dX11_rule_39 ?_
    exact mr_iret dX11_rule_40 rfl (le_t rfl) (le_t rfl) T35 (mF.call (mF.call mF.refl F32 rfl) F36 rfl) ⟨(rW (c := (-2147483648)) (d := 2147483647) (rR (x := 0)) rfl), (h37.1 T35 F36), trivial⟩
  have h38 : 0 ≤ z20 ∧ z20 ≤ 0 := (vc_X11_rule_W_13 h21 h19.2.1 h19.2.2.1 hp2 h19.1)
  refine mr_iconst (pc := 15) (z := (-1)) dX11_rule_15 ?_
  exact mr_iret dX11_rule_16 rfl (le_t rfl) (le_t rfl) hT mF.refl ⟨(rW (c := (-2147483648)) (d := 2147483647) (rR (x := (-1))) rfl), ((h19.2.2.2.1 h19.1).2 h21), trivial⟩
def WL_X12_rule_W_3 (w : mW) (p1 : Int) (p3 : Int) (Q : Int → mM → Prop) (μ953 : mM) (rec3 : (Int × Int × mM) → Prop) (s : (Int × Int × mM)) : Prop := ∀ z1015 : Int, ∀ z1014 : Int, ∀ μ1016 : mM, s = (z1015, z1014, μ1016) → (0 ≤ z1015 ∧ z1015 ≤ 2147483647) → ((-1) ≤ z1014 ∧ z1014 ≤ 5) → mT w μ1016 → mF [163999] w μ953 μ1016 → ((z1014 < 0) → ∀ μ1042 : mM, mU μ1016 164 (p1.toNat) p3 μ1042 → mT w μ1042 → WP_X12_lookAll_W w μ1042 p1 (fun μ1045 => mT w μ1045 → mF [106026, 106027, 106028, 106029, 106030, 106031, 106072, 126999, 151999, 152999, 153999, 155999, 156999, 157999, 158999, 159999, 160999, 161999, 165999] w μ1042 μ1045 → Q (0 : Int) μ1045)) ∧ ((0 ≤ z1014) → ∀ z1050 : Int, z1015 % 10 = z1050 → ∀ μ1053 : mM, mU μ1016 163 (((6 * p1) + z1014).toNat) z1050 μ1053 → mT w μ1053 → ∀ z1056 : Int, z1015 / 10 = z1056 → rec3 (z1056, (z1014 + (-1)), μ1053))
def WL_X12_rule_W_2 (w : mW) (μ : mM) (p1 : Int) (p2 : Int) (p3 : Int) (Q : Int → mM → Prop) (z819 : Int) (rec2 : (Int × mM) → Prop) (s : (Int × mM)) : Prop := ∀ z952 : Int, ∀ μ953 : mM, s = (z952, μ953) → (0 ≤ z952 ∧ z952 ≤ 6) → mT w μ953 → mF [163999] w μ μ953 → ((6 ≤ z952) → loopF (WL_X12_rule_W_3 w p1 p3 Q μ953) False 8 (p2, (z819 - 1), μ953)) ∧ ((z952 < 6) → ∀ μ1060 : mM, mU μ953 163 (((6 * p1) + z952).toNat) (0 : Int) μ1060 → mT w μ1060 → rec2 ((z952 + 1), μ1060))
def WL_X12_rule_W_1 (w : mW) (μ : mM) (p1 : Int) (p2 : Int) (p3 : Int) (Q : Int → mM → Prop) (rec1 : (Int × Int × Int) → Prop) (s : (Int × Int × Int)) : Prop := ∀ z820 : Int, ∀ z819 : Int, ∀ z818 : Int, s = (z820, z819, z818) → (0 ≤ z820 ∧ z820 ≤ 126) → (0 ≤ z819 ∧ z819 ≤ 6) → (0 ≤ z818 ∧ z818 ≤ 2147483647) → ((z818 ≤ 0) → loopF (WL_X12_rule_W_2 w μ p1 p2 p3 Q z819) False 8 ((0 : Int), μ)) ∧ ((0 < z818) → ∀ z1064 : Int, z818 % 10 = z1064 → WP_X12_in_W w μ z1064 (1) (6) (fun z1071 _ => (0 ≤ z1071 ∧ z1071 ≤ 1) → ((z1071 = 0) → Q ((-1) : Int) μ) ∧ ((¬ z1071 = 0) → ∀ z1078 : Int, bShr z820 z1064 = z1078 → ∀ z1081 : Int, bAnd z1078 (1 : Int) = z1081 → ((¬ z1081 = 1) → ∀ z1086 : Int, bShl (1 : Int) z1064 = z1086 → ∀ z1089 : Int, bOr z820 z1086 = z1089 → ∀ z1096 : Int, z818 / 10 = z1096 → rec1 (z1089, (z819 + 1), z1096)) ∧ ((z1081 = 1) → Q ((-1) : Int) μ))))
def WP_X12_rule_W (w : mW) (μ : mM) (p1 : Int) (p2 : Int) (p3 : Int) (Q : Int → mM → Prop) : Prop := ∀ z1 : Int, μ 106 5 = z1 → (0 ≤ z1 ∧ z1 ≤ 10) → WP_X12_isDomain_W w μ p1 (fun z8 _ => (0 ≤ z8 ∧ z8 ≤ 1) → ((z8 = 0) → Q ((-1) : Int) μ) ∧ ((¬ z8 = 0) → ((0 ≤ p2) → loopF (WL_X12_rule_W_1 w μ p1 p2 p3 Q) False 2147483648 ((0 : Int), (0 : Int), p2)) ∧ ((p2 < 0) → Q ((-1) : Int) μ)))
theorem vc_X12_rule_W_17 {z819 : Int} (h0 : 0 ≤ z819 ∧ z819 ≤ 6) : ((z819 - 1) - (-2)) < ((8 : Nat) : Int) := by omega
theorem vc_X12_rule_W_22 {z1064 z1071 : Int} (h0 : z1071 = 0) (h1 : (z1071 = 1 → (1 : Int) ≤ z1064 ∧ z1064 ≤ (6 : Int))) (h2 : (z1071 = 0 → z1064 < (1 : Int) ∨ (6 : Int) < z1064)) (h3 : 0 ≤ z1064 ∧ z1064 ≤ 9) (h4 : 0 ≤ z1071 ∧ z1071 ≤ 1) : 0 ≤ z1071 ∧ z1071 ≤ 0 := by omega
theorem vc_X12_rule_W_23 {z1064 z1071 z818 : Int} (h0 : (z1071 = 1 → (1 : Int) ≤ z1064 ∧ z1064 ≤ (6 : Int))) (h1 : (z1071 = 0 → z1064 < (1 : Int) ∨ (6 : Int) < z1064)) (h2 : z1071 = 0) (h3 : z818 % 10 = z1064) (h4 : 0 ≤ z1064 ∧ z1064 ≤ 9) (h5 : 0 ≤ z1071 ∧ z1071 ≤ 0) (h6 : 1 ≤ z818 ∧ z818 ≤ 2147483647) : z1071 = 0 := by omega
theorem vc_X12_rule_W_24 {z1064 z1071 : Int} (h0 : ¬ z1071 = 0) (h1 : (z1071 = 1 → (1 : Int) ≤ z1064 ∧ z1064 ≤ (6 : Int))) (h2 : (z1071 = 0 → z1064 < (1 : Int) ∨ (6 : Int) < z1064)) (h3 : 0 ≤ z1064 ∧ z1064 ≤ 9) (h4 : 0 ≤ z1071 ∧ z1071 ≤ 1) : 1 ≤ z1071 ∧ z1071 ≤ 1 := by omega
theorem vc_X12_rule_W_25 {z1064 z1071 z818 : Int} (h0 : (z1071 = 1 → (1 : Int) ≤ z1064 ∧ z1064 ≤ (6 : Int))) (h1 : (z1071 = 0 → z1064 < (1 : Int) ∨ (6 : Int) < z1064)) (h2 : ¬ z1071 = 0) (h3 : z818 % 10 = z1064) (h4 : 0 ≤ z1064 ∧ z1064 ≤ 9) (h5 : 1 ≤ z1071 ∧ z1071 ≤ 1) (h6 : 1 ≤ z818 ∧ z818 ≤ 2147483647) : z1071 = 1 := by omega
theorem vc_X12_rule_W_26 {z1064 z1071 z818 : Int} (h0 : (1 : Int) ≤ z1064 ∧ z1064 ≤ (6 : Int)) (h1 : z818 % 10 = z1064) (h2 : (z1071 = 1 → (1 : Int) ≤ z1064 ∧ z1064 ≤ (6 : Int))) (h3 : (z1071 = 0 → z1064 < (1 : Int) ∨ (6 : Int) < z1064)) (h4 : 0 ≤ z1064 ∧ z1064 ≤ 9) (h5 : 1 ≤ z1071 ∧ z1071 ≤ 1) (h6 : 1 ≤ z818 ∧ z818 ≤ 2147483647) : 1 ≤ z1064 ∧ z1064 ≤ 6 := by omega
theorem vc_X12_rule_W_28 {z1081 : Int} (h0 : ¬ z1081 = 1) (h1 : 0 ≤ z1081 ∧ z1081 ≤ 0) : ¬ z1081 = 1 := by omega
theorem vc_X12_rule_W_29 {z1064 z1071 z818 : Int} (h0 : z818 % 10 = z1064) (h1 : (z1071 = 1 → (1 : Int) ≤ z1064 ∧ z1064 ≤ (6 : Int))) (h2 : (z1071 = 0 → z1064 < (1 : Int) ∨ (6 : Int) < z1064)) (h3 : (1 : Int) ≤ z1064 ∧ z1064 ≤ (6 : Int)) (h4 : 0 < z818) (h5 : ¬ z1071 = 0) (h6 : 1 ≤ z1064 ∧ z1064 ≤ 6) (h7 : 1 ≤ z1071 ∧ z1071 ≤ 1) (h8 : 1 ≤ z818 ∧ z818 ≤ 2147483647) : 1 ≤ z1064 ∧ z1064 ≤ 6 := by omega
theorem vc_X12_rule_W_30 {z819 : Int} (h0 : z819 ≤ 5) (h1 : 0 ≤ z819 ∧ z819 ≤ 6) : 0 ≤ z819 ∧ z819 ≤ 5 := by omega
theorem vc_X12_rule_W_31 {N z1064 z1071 z1096 z818 : Int} (h0 : z818 < N + 1) (h1 : 0 < z818) (h2 : z818 % 10 = z1064) (h3 : z818 / 10 = z1096) (h4 : (z1071 = 1 → (1 : Int) ≤ z1064 ∧ z1064 ≤ (6 : Int))) (h5 : (z1071 = 0 → z1064 < (1 : Int) ∨ (6 : Int) < z1064)) (h6 : (1 : Int) ≤ z1064 ∧ z1064 ≤ (6 : Int)) (h7 : 1 ≤ z1064 ∧ z1064 ≤ 6) (h8 : 1 ≤ z1071 ∧ z1071 ≤ 1) (h9 : 0 ≤ z1096 ∧ z1096 ≤ 214748364) (h10 : 1 ≤ z818 ∧ z818 ≤ 2147483647) : z1096 < N := by omega
set_option maxRecDepth 4000 in
set_option maxHeartbeats 4000000 in
theorem c_X12_rule_W {l : Launch} {D : va_G} {c : Nat → ClassId} {H0 : Heap} {sa : Nat × Nat × (Nat → Int32)} {w : mW} {μ : mM} (hw : mWF w) (hT : mT w μ) {p1 : Int} (hp1 : (-2147483648) ≤ p1 ∧ p1 ≤ 2147483647) {p2 : Int} (hp2 : (-2147483648) ≤ p2 ∧ p2 ≤ 2147483647) {p3 : Int} (hp3 : 0 ≤ p3 ∧ p3 ≤ 1) (hIG1 : G1 μ) (hIEV : EV μ) (hIPK : PK μ) {Q : Int → mM → Prop} (hQ : WP_X12_rule_W w μ p1 p2 p3 Q) : sC (gG l D c H0 sa) mX12_rule 12 0 0 [.ref 106, iv p1, iv p2, iv p3] (mk w μ) (qI w [106026, 106027, 106028, 106029, 106030, 106031, 106072, 126999, 151999, 152999, 153999, 155999, 156999, 157999, 158999, 159999, 160999, 161999, 163999, 164999, 165999] μ (fun z μ1 => ((-2147483648) ≤ z ∧ z ≤ 2147483647) ∧ G1 μ1 ∧ EV μ1 ∧ Q z μ1 ∧ True)) := by
  refine sC.of rfl (by decide) (le_t rfl) ?_
  refine mr_lvE (lv' := [(0, .ref 106), (1, iv p1), (2, iv p2), (3, iv p3)]) rfl ?_
  refine sv_aload_n (pc := 0) dX12_rule_0 rfl rfl ?_
  refine mr_iload_n (pc := 1) (z := p1) dX12_rule_1 rfl rfl ?_
  obtain ⟨z1, q2⟩ : ∃ z, μ 106 5 = z := ⟨_, rfl⟩
  have h3 : (0 ≤ z1 ∧ z1 ≤ 10) := by rw [← q2]; exact hT 106 106 (A_106 hw) 5
  refine mr_cVP (pc := 2) (c_X12_isDomain_W hw hT hp1 q2 (hQ z1 q2 h3)) (gOk _ _ _ _ _) dX12_rule_2 (tX12_isDomain _ _ _ _ _) ⟨wV_X12_isDomain, wL_X12_isDomain⟩ wM_X12_49 (gCX12 _ _ _ _ _) rfl (A_106 hw) rfl ⟨le_t rfl, le_t rfl⟩ ⟨le_t rfl, le_t rfl⟩ rfl (le_t rfl) fun z8 h7 => ?_
  refine mr_if_eq (pc := 5) (tgt := 12) dX12_rule_5 (by decide) (r32 h7.1 rfl) (fun h9 => ?_) (fun h9 => ?_)
  · have h10 : 0 ≤ z8 ∧ z8 ≤ 0 := (vc_X12_write_78 h9 h7.2.1 h7.2.2.1 hp1 h3 h7.1)
    have h11 : p1 < 0 ∨ z1 ≤ p1 := (h7.2.2.1 (vc_X12_write_79 h7.2.1 h7.2.2.1 h9 hp1 h3 h10))
    refine mr_iconst (pc := 12) (z := (-1)) dX12_rule_12 ?_
    exact mr_iret dX12_rule_13 rfl (le_t rfl) (le_t rfl) hT mF.refl ⟨(rW (c := (-2147483648)) (d := 2147483647) (rR (x := (-1))) rfl), hIG1, hIEV, ((h7.2.2.2.1 h7.1).1 h9), trivial⟩
  have h12 : 1 ≤ z8 ∧ z8 ≤ 1 := (vc_X12_write_12 h9 h7.2.1 h7.2.2.1 hp1 h3 h7.1)
  have h13 : 0 ≤ p1 ∧ p1 < z1 := (h7.2.1 (vc_X12_write_13 h7.2.1 h7.2.2.1 h9 hp1 h3 h12))
  have h14 : 0 ≤ p1 ∧ p1 ≤ 9 := (vc_X12_write_14 h13 h7.2.1 h7.2.2.1 hp1 h3 h12)
  have h15 : 1 ≤ z1 ∧ z1 ≤ 10 := (vc_X12_write_15 h13 h7.2.1 h7.2.2.1 h14 h3 h12)
  refine mr_iload_n (pc := 8) (z := p2) dX12_rule_8 rfl rfl ?_
  refine mr_if_ge (pc := 9) (tgt := 14) dX12_rule_9 (by decide) hp2 (fun h16 => ?_) (fun h16 => ?_)
  · have h17 : 0 ≤ p2 ∧ p2 ≤ 2147483647 := (vc_X12_ring_1 h16 hp2)
    refine mr_iconst (pc := 14) (z := 0) dX12_rule_14 ?_
    refine mr_istore (pc := 15) (lv' := [(4, iv 0), (0, .ref 106), (1, iv p1), (2, iv p2), (3, iv p3)]) dX12_rule_15 (by decide) rfl ?_
    refine mr_iconst (pc := 17) (z := 0) dX12_rule_17 ?_
    refine mr_istore (pc := 18) (lv' := [(5, iv 0), (4, iv 0), (0, .ref 106), (1, iv p1), (2, iv p2), (3, iv p3)]) dX12_rule_18 (by decide) rfl ?_
    refine mr_iload_n (pc := 20) (z := p2) dX12_rule_20 rfl rfl ?_
    refine mr_istore (pc := 21) (lv' := [(6, iv p2), (5, iv 0), (4, iv 0), (0, .ref 106), (1, iv p1), (2, iv p2), (3, iv p3)]) dX12_rule_21 (by decide) rfl ?_
    have L821 : ∀ (nL821 : Nat) (z820 z819 z818 : Int), True → (0 ≤ z820 ∧ z820 ≤ 126) → (0 ≤ z819 ∧ z819 ≤ 6) → (0 ≤ z818 ∧ z818 ≤ 2147483647) → sOK z820 z819 → z818 < (nL821 : Int) → loopF (WL_X12_rule_W_1 w μ p1 p2 p3 Q) False nL821 (z820, z819, z818) → sV (gG l D c H0 sa) mX12_rule (sRm 12 0 0) (sZ (gG l D c H0 sa) 0 0 (qI w [106026, 106027, 106028, 106029, 106030, 106031, 106072, 126999, 151999, 152999, 153999, 155999, 156999, 157999, 158999, 159999, 160999, 161999, 163999, 164999, 165999] μ (fun z μ1 => ((-2147483648) ≤ z ∧ z ≤ 2147483647) ∧ G1 μ1 ∧ EV μ1 ∧ Q z μ1 ∧ True))) 23 [(0, .ref 106), (1, iv p1), (2, iv p2), (3, iv p3), (4, iv z820), (5, iv z819), (6, iv z818)] [] (mk w μ) 0 0 := by
      intro nL821
      induction nL821 with
      | zero => intro z820 z819 z818 _ h822 h823 h824 R828 h829 W830; exact ((vc_X11_isRule_W_2 h829 h824)).elim
      | succ nL821 ih831 =>
        intro z820 z819 z818 _ h822 h823 h824 R828 h829 W830
        refine mr_iload (pc := 23) (z := z818) dX12_rule_23 rfl ?_
        refine mr_if_le (pc := 25) (tgt := 81) dX12_rule_25 (by decide) (r32 h824 rfl) (fun h832 => ?_) (fun h832 => ?_)
        · have h833 : 0 ≤ z818 ∧ z818 ≤ 0 := (vc_X11_isRule_W_3 h832 h824)
          refine mr_iconst (pc := 81) (z := 0) dX12_rule_81 ?_
          refine mr_istore (pc := 82) (lv' := [(6, iv 0), (0, .ref 106), (1, iv p1), (2, iv p2), (3, iv p3), (4, iv z820), (5, iv z819)]) dX12_rule_82 (by decide) rfl ?_
          have L954 : ∀ (nL954 : Nat) (z952 : Int) (μ953 : mM), mT w μ953 → mF [163999] w μ μ953 → (0 ≤ z952 ∧ z952 ≤ 6) → G1 μ953 → EV μ953 → PK μ953 → (7 - z952) < (nL954 : Int) → loopF (WL_X12_rule_W_2 w μ p1 p2 p3 Q z819) False nL954 (z952, μ953) → sV (gG l D c H0 sa) mX12_rule (sRm 12 0 0) (sZ (gG l D c H0 sa) 0 0 (qI w [106026, 106027, 106028, 106029, 106030, 106031, 106072, 126999, 151999, 152999, 153999, 155999, 156999, 157999, 158999, 159999, 160999, 161999, 163999, 164999, 165999] μ (fun z μ1 => ((-2147483648) ≤ z ∧ z ≤ 2147483647) ∧ G1 μ1 ∧ EV μ1 ∧ Q z μ1 ∧ True))) 84 [(0, .ref 106), (1, iv p1), (2, iv p2), (3, iv p3), (5, iv z819), (6, iv z952)] [] (mk w μ953) 0 0 := by
            intro nL954
            induction nL954 with
            | zero => intro z952 μ953 T956 F957 h955 I959 I960 I961 h962 W963; exact ((vc_X12_wish_49 h962 h955)).elim
            | succ nL954 ih964 =>
              intro z952 μ953 T956 F957 h955 I959 I960 I961 h962 W963
              refine mr_iload (pc := 84) (z := z952) dX12_rule_84 rfl ?_
              refine mr_bipush (pc := 86) (z := 6) dX12_rule_86 (by decide) ?_
              refine mr_icmp_ge (pc := 88) (tgt := 110) dX12_rule_88 (by decide) (r32 h955 rfl) (r32 (rR (x := 6)) rfl) (fun h970 => ?_) (fun h970 => ?_)
              · have h971 : 6 ≤ z952 ∧ z952 ≤ 6 := (vc_X12_same_W_15 h970 h955)
                refine mr_iload_n (pc := 110) (z := p2) dX12_rule_110 rfl rfl ?_
                refine mr_istore (pc := 111) (lv' := [(6, iv p2), (0, .ref 106), (1, iv p1), (2, iv p2), (3, iv p3), (5, iv z819)]) dX12_rule_111 (by decide) rfl ?_
                refine mr_iload (pc := 113) (z := z819) dX12_rule_113 rfl ?_
                refine mr_iconst (pc := 115) (z := 1) dX12_rule_115 ?_
                refine mr_isub (pc := 116) (x := z819) (y := 1) dX12_rule_116 ?_
                refine mr_istore (pc := 117) (lv' := [(7, iv (z819 - 1)), (6, iv p2), (0, .ref 106), (1, iv p1), (2, iv p2), (3, iv p3), (5, iv z819)]) dX12_rule_117 (by decide) rfl ?_
                have L1017 : ∀ (nL1017 : Nat) (z1015 z1014 : Int) (μ1016 : mM), mT w μ1016 → mF [163999] w μ953 μ1016 → (0 ≤ z1015 ∧ z1015 ≤ 2147483647) → ((-1) ≤ z1014 ∧ z1014 ≤ 5) → G1 μ1016 → EV μ1016 → PK μ1016 → (z1014 - (-2)) < (nL1017 : Int) → loopF (WL_X12_rule_W_3 w p1 p3 Q μ953) False nL1017 (z1015, z1014, μ1016) → sV (gG l D c H0 sa) mX12_rule (sRm 12 0 0) (sZ (gG l D c H0 sa) 0 0 (qI w [106026, 106027, 106028, 106029, 106030, 106031, 106072, 126999, 151999, 152999, 153999, 155999, 156999, 157999, 158999, 159999, 160999, 161999, 163999, 164999, 165999] μ (fun z μ1 => ((-2147483648) ≤ z ∧ z ≤ 2147483647) ∧ G1 μ1 ∧ EV μ1 ∧ Q z μ1 ∧ True))) 119 [(0, .ref 106), (1, iv p1), (3, iv p3), (6, iv z1015), (7, iv z1014)] [] (mk w μ1016) 0 0 := by
                  intro nL1017
                  induction nL1017 with
                  | zero => intro z1015 z1014 μ1016 T1020 F1021 h1018 h1019 I1023 I1024 I1025 h1026 W1027; exact ((vc_X0_goBy_W_3 h1026 h1019)).elim
                  | succ nL1017 ih1028 =>
                    intro z1015 z1014 μ1016 T1020 F1021 h1018 h1019 I1023 I1024 I1025 h1026 W1027
                    refine mr_iload (pc := 119) (z := z1014) dX12_rule_119 rfl ?_
                    refine mr_if_lt (pc := 121) (tgt := 154) dX12_rule_121 (by decide) (r32 h1019 rfl) (fun h1040 => ?_) (fun h1040 => ?_)
                    · have h1041 : (-1) ≤ z1014 ∧ z1014 ≤ (-1) := (vc_X0_goBy_W_4 h1040 h1019)
                      refine sv_aload_n (pc := 154) dX12_rule_154 rfl rfl ?_
                      refine gf_X12_84 (pc := 155) dX12_rule_155 wF_X12_454 (A_106 hw) T1020 ?_
                      refine mr_iload_n (pc := 158) (z := p1) dX12_rule_158 rfl rfl ?_
                      refine mr_iload_n (pc := 159) (z := p3) dX12_rule_159 rfl rfl ?_
                      refine ss_164 (pc := 160) dX12_rule_160 (A_164 hw) T1020 (rIx (n := 10) h14 rfl) hp3 fun μ1042 u1043 T1044 => ?_
                      refine sv_aload_n (pc := 161) dX12_rule_161 rfl rfl ?_
                      refine mr_iload_n (pc := 162) (z := p1) dX12_rule_162 rfl rfl ?_
                      refine mr_cVV (pc := 163) (c_X12_lookAll_W hw T1044 h14 (G1.keep I1023 hw ((mF.up mF.refl (A_164 hw) u1043 rfl) : mF [164999] w μ1016 μ1042) rfl rfl ((mG.upO mG.refl u1043 rfl) : mG [] μ1016 μ1042) (fun _ h => absurd h List.not_mem_nil)) (EV.keep I1024 hw ((mF.up mF.refl (A_164 hw) u1043 rfl) : mF [164999] w μ1016 μ1042) rfl) (PK.keep I1025 hw ((mF.up mF.refl (A_164 hw) u1043 rfl) : mF [164999] w μ1016 μ1042) rfl) (((W1027 z1015 z1014 μ1016 rfl h1018 h1019 T1020 F1021).1 h1040) μ1042 u1043 T1044)) (gOk _ _ _ _ _) dX12_rule_163 (tX12_lookAll _ _ _ _ _) ⟨wV_X12_lookAll, wL_X12_lookAll⟩ wM_X12_600 (gCX12 _ _ _ _ _) rfl (A_106 hw) rfl ⟨le_t rfl, le_t rfl⟩ ⟨le_t rfl, le_t rfl⟩ rfl (le_t rfl) fun μ1045 T1046 F1047 h1048 => ?_
                      refine mr_iconst (pc := 166) (z := 0) dX12_rule_166 ?_
                      exact mr_iret dX12_rule_167 rfl (le_t rfl) (le_t rfl) T1046 (mF.call (mF.up (mF.call (mF.call mF.refl F957 rfl) F1021 rfl) (A_164 hw) u1043 rfl) F1047 rfl) ⟨(rW (c := (-2147483648)) (d := 2147483647) (rR (x := 0)) rfl), h1048.2.1, h1048.2.2.1, (h1048.2.2.2.1 T1046 F1047), trivial⟩
                    have h1049 : 0 ≤ z1014 ∧ z1014 ≤ 5 := (vc_X0_goBy_W_5 h1040 h1019)
                    refine sv_aload_n (pc := 124) dX12_rule_124 rfl rfl ?_
                    refine gf_X12_83 (pc := 125) dX12_rule_125 wF_X12_451 (A_106 hw) T1020 ?_
                    refine mr_bipush (pc := 128) (z := 6) dX12_rule_128 (by decide) ?_
                    refine mr_iload_n (pc := 130) (z := p1) dX12_rule_130 rfl rfl ?_
                    refine mr_imul (pc := 131) (x := 6) (y := p1) dX12_rule_131 ?_
                    refine mr_iload (pc := 132) (z := z1014) dX12_rule_132 rfl ?_
                    refine mr_iadd (pc := 134) (x := (6 * p1)) (y := z1014) dX12_rule_134 ?_
                    refine mr_iload (pc := 135) (z := z1015) dX12_rule_135 rfl ?_
                    refine mr_bipush (pc := 137) (z := 10) dX12_rule_137 (by decide) ?_
                    refine mr_irem (pc := 139) (x := z1015) (y := 10) dX12_rule_139 h1018 vc_X8_doNext_W_5 ?_
                    refine mr_gen (P := fun z => 0 ≤ z ∧ z ≤ 9) (rMod h1018 rfl) fun z1050 q1051 h1052 => ?_
                    refine ss_163 (pc := 140) dX12_rule_140 (A_163 hw) T1020 (rIx (n := 60) (rAdd (e := 0) (f := 59) (rMulL (n := 6) (e := 0) (f := 54) h14 rfl) h1049 rfl) rfl) h1052 fun μ1053 u1054 T1055 => ?_
                    refine mr_iload (pc := 141) (z := z1015) dX12_rule_141 rfl ?_
                    refine mr_bipush (pc := 143) (z := 10) dX12_rule_143 (by decide) ?_
                    refine mr_idiv (pc := 145) (x := z1015) (y := 10) dX12_rule_145 h1018 vc_X8_doNext_W_5 ?_
                    refine mr_gen (P := fun z => 0 ≤ z ∧ z ≤ 214748364) (rDiv h1018 rfl) fun z1056 q1057 h1058 => ?_
                    refine mr_istore (pc := 146) (lv' := [(6, iv z1056), (0, .ref 106), (1, iv p1), (3, iv p3), (7, iv z1014)]) dX12_rule_146 (by decide) rfl ?_
                    refine mr_iinc (pc := 148) (lv' := [(7, iv (z1014 + (-1))), (6, iv z1056), (0, .ref 106), (1, iv p1), (3, iv p3)]) dX12_rule_148 rfl (by decide) rfl ?_
                    refine sv_goto (pc := 151) (tgt := 119) dX12_rule_151 (by decide) ?_
                    refine mr_lvS (lv' := [(0, .ref 106), (1, iv p1), (3, iv p3), (6, iv z1056), (7, iv (z1014 + (-1)))]) (List.forall_mem_cons.mpr ⟨rfl, List.forall_mem_cons.mpr ⟨rfl, List.forall_mem_cons.mpr ⟨rfl, List.forall_mem_cons.mpr ⟨rfl, List.forall_mem_cons.mpr ⟨rfl, fun _ h => absurd h List.not_mem_nil⟩⟩⟩⟩⟩) ?_
                    exact ih1028 z1056 (z1014 + (-1)) μ1053 T1055 (mF.up (mF.call mF.refl F1021 rfl) (A_163 hw) u1054 rfl) (rW (c := 0) (d := 2147483647) h1058 rfl) (rW (c := (-1)) (d := 5) (rAdd (e := (-1)) (f := 4) h1049 (rR (x := (-1))) rfl) rfl) (G1.keep I1023 hw ((mF.up mF.refl (A_163 hw) u1054 rfl) : mF [163999] w μ1016 μ1053) rfl rfl ((mG.upO mG.refl u1054 rfl) : mG [] μ1016 μ1053) (fun _ h => absurd h List.not_mem_nil)) (EV.keep I1024 hw ((mF.up mF.refl (A_163 hw) u1054 rfl) : mF [163999] w μ1016 μ1053) rfl) (PK.keep I1025 hw ((mF.up mF.refl (A_163 hw) u1054 rfl) : mF [163999] w μ1016 μ1053) rfl) (vc_X0_goBy_W_7 (nS h1026) h1040 h1049) (((((W1027 z1015 z1014 μ1016 rfl h1018 h1019 T1020 F1021).2 h1040) z1050 q1051) μ1053 u1054 T1055) z1056 q1057)
                refine mr_lvS (lv' := [(0, .ref 106), (1, iv p1), (3, iv p3), (6, iv p2), (7, iv (z819 - 1))]) (List.forall_mem_cons.mpr ⟨rfl, List.forall_mem_cons.mpr ⟨rfl, List.forall_mem_cons.mpr ⟨rfl, List.forall_mem_cons.mpr ⟨rfl, List.forall_mem_cons.mpr ⟨rfl, fun _ h => absurd h List.not_mem_nil⟩⟩⟩⟩⟩) ?_
                exact L1017 8 p2 (z819 - 1) μ953 T956 mF.refl h17 (rSub (e := (-1)) (f := 5) h823 (rR (x := 1)) rfl) I959 I960 I961 (vc_X12_rule_W_17 h823) ((W963 z952 μ953 rfl h955 T956 F957).1 h970)
              have h1059 : 0 ≤ z952 ∧ z952 ≤ 5 := (vc_X12_same_W_40 h970 h955)
              refine sv_aload_n (pc := 91) dX12_rule_91 rfl rfl ?_
              refine gf_X12_83 (pc := 92) dX12_rule_92 wF_X12_451 (A_106 hw) T956 ?_
              refine mr_bipush (pc := 95) (z := 6) dX12_rule_95 (by decide) ?_
              refine mr_iload_n (pc := 97) (z := p1) dX12_rule_97 rfl rfl ?_
              refine mr_imul (pc := 98) (x := 6) (y := p1) dX12_rule_98 ?_
              refine mr_iload (pc := 99) (z := z952) dX12_rule_99 rfl ?_
              refine mr_iadd (pc := 101) (x := (6 * p1)) (y := z952) dX12_rule_101 ?_
              refine mr_iconst (pc := 102) (z := 0) dX12_rule_102 ?_
              refine ss_163 (pc := 103) dX12_rule_103 (A_163 hw) T956 (rIx (n := 60) (rAdd (e := 0) (f := 59) (rMulL (n := 6) (e := 0) (f := 54) h14 rfl) h1059 rfl) rfl) (rW (c := 0) (d := 9) (rR (x := 0)) rfl) fun μ1060 u1061 T1062 => ?_
              refine mr_iinc (pc := 104) (lv' := [(6, iv (z952 + 1)), (0, .ref 106), (1, iv p1), (2, iv p2), (3, iv p3), (5, iv z819)]) dX12_rule_104 rfl (by decide) rfl ?_
              refine sv_goto (pc := 107) (tgt := 84) dX12_rule_107 (by decide) ?_
              refine mr_lvS (lv' := [(0, .ref 106), (1, iv p1), (2, iv p2), (3, iv p3), (5, iv z819), (6, iv (z952 + 1))]) (List.forall_mem_cons.mpr ⟨rfl, List.forall_mem_cons.mpr ⟨rfl, List.forall_mem_cons.mpr ⟨rfl, List.forall_mem_cons.mpr ⟨rfl, List.forall_mem_cons.mpr ⟨rfl, List.forall_mem_cons.mpr ⟨rfl, fun _ h => absurd h List.not_mem_nil⟩⟩⟩⟩⟩⟩) ?_
              exact ih964 (z952 + 1) μ1060 T1062 (mF.up (mF.call mF.refl F957 rfl) (A_163 hw) u1061 rfl) (rW (c := 0) (d := 6) (rAdd (e := 1) (f := 6) h1059 (rR (x := 1)) rfl) rfl) (G1.keep I959 hw ((mF.up mF.refl (A_163 hw) u1061 rfl) : mF [163999] w μ953 μ1060) rfl rfl ((mG.upO mG.refl u1061 rfl) : mG [] μ953 μ1060) (fun _ h => absurd h List.not_mem_nil)) (EV.keep I960 hw ((mF.up mF.refl (A_163 hw) u1061 rfl) : mF [163999] w μ953 μ1060) rfl) (PK.keep I961 hw ((mF.up mF.refl (A_163 hw) u1061 rfl) : mF [163999] w μ953 μ1060) rfl) (vc_X12_same_W_42 (nS h962) h970 h1059) (((W963 z952 μ953 rfl h955 T956 F957).2 h970) μ1060 u1061 T1062)
          refine mr_lvS (lv' := [(0, .ref 106), (1, iv p1), (2, iv p2), (3, iv p3), (5, iv z819), (6, iv 0)]) (List.forall_mem_cons.mpr ⟨rfl, List.forall_mem_cons.mpr ⟨rfl, List.forall_mem_cons.mpr ⟨rfl, List.forall_mem_cons.mpr ⟨rfl, List.forall_mem_cons.mpr ⟨rfl, List.forall_mem_cons.mpr ⟨rfl, fun _ h => absurd h List.not_mem_nil⟩⟩⟩⟩⟩⟩) ?_
          exact L954 8 0 μ hT mF.refl (rW (c := 0) (d := 6) (rR (x := 0)) rfl) hIG1 hIEV hIPK vc_X12_wish_56 ((W830 z820 z819 z818 rfl h822 h823 h824).1 h832)
        have h1063 : 1 ≤ z818 ∧ z818 ≤ 2147483647 := (vc_X11_isRule_W_5 h832 h824)
        refine mr_iload (pc := 28) (z := z818) dX12_rule_28 rfl ?_
        refine mr_bipush (pc := 30) (z := 10) dX12_rule_30 (by decide) ?_
        refine mr_irem (pc := 32) (x := z818) (y := 10) dX12_rule_32 (rW (c := 0) (d := 2147483647) h1063 rfl) vc_X8_doNext_W_5 ?_
        refine mr_gen (P := fun z => 0 ≤ z ∧ z ≤ 9) (rMod h1063 rfl) fun z1064 q1065 h1066 => ?_
        refine mr_istore (pc := 33) (lv' := [(7, iv z1064), (0, .ref 106), (1, iv p1), (2, iv p2), (3, iv p3), (4, iv z820), (5, iv z819), (6, iv z818)]) dX12_rule_33 (by decide) rfl ?_
        refine mr_iload (pc := 35) (z := z1064) dX12_rule_35 rfl ?_
        refine mr_iconst (pc := 37) (z := 1) dX12_rule_37 ?_
        refine mr_bipush (pc := 38) (z := 6) dX12_rule_38 (by decide) ?_
        refine mr_cSP (pc := 40) (c_X12_in_W hw hT (rW (c := (-2147483648)) (d := 2147483647) h1066 rfl) (rW (c := (-2147483648)) (d := 2147483647) (rR (x := 1)) rfl) (rW (c := (-2147483648)) (d := 2147483647) (rR (x := 6)) rfl) (((W830 z820 z819 z818 rfl h822 h823 h824).2 h832) z1064 q1065)) (gOk _ _ _ _ _) dX12_rule_40 (tX12_in _ _ _ _ _) wS_X12_in wM_X12_18 ⟨le_t rfl, le_t rfl⟩ ⟨le_t rfl, le_t rfl⟩ rfl (le_t rfl) fun z1071 h1070 => ?_
        refine mr_if_eq (pc := 43) (tgt := 57) dX12_rule_43 (by decide) (r32 h1070.1 rfl) (fun h1072 => ?_) (fun h1072 => ?_)
        · have h1073 : 0 ≤ z1071 ∧ z1071 ≤ 0 := (vc_X12_rule_W_22 h1072 h1070.2.1 h1070.2.2.1 h1066 h1070.1)
          have h1074 : z1064 < (1 : Int) ∨ (6 : Int) < z1064 := (h1070.2.2.1 (vc_X12_rule_W_23 h1070.2.1 h1070.2.2.1 h1072 q1065 h1066 h1073 h1063))
          refine mr_iconst (pc := 57) (z := (-1)) dX12_rule_57 ?_
          exact mr_iret dX12_rule_58 rfl (le_t rfl) (le_t rfl) hT mF.refl ⟨(rW (c := (-2147483648)) (d := 2147483647) (rR (x := (-1))) rfl), hIG1, hIEV, ((h1070.2.2.2.1 h1070.1).1 h1072), trivial⟩
        have h1075 : 1 ≤ z1071 ∧ z1071 ≤ 1 := (vc_X12_rule_W_24 h1072 h1070.2.1 h1070.2.2.1 h1066 h1070.1)
        have h1076 : (1 : Int) ≤ z1064 ∧ z1064 ≤ (6 : Int) := (h1070.2.1 (vc_X12_rule_W_25 h1070.2.1 h1070.2.2.1 h1072 q1065 h1066 h1075 h1063))
        have h1077 : 1 ≤ z1064 ∧ z1064 ≤ 6 := (vc_X12_rule_W_26 h1076 q1065 h1070.2.1 h1070.2.2.1 h1066 h1075 h1063)
        refine mr_iload (pc := 46) (z := z820) dX12_rule_46 rfl ?_
        refine mr_iload (pc := 48) (z := z1064) dX12_rule_48 rfl ?_
        refine mr_ishr (pc := 50) (x := z820) (y := z1064) dX12_rule_50 ?_
        refine mr_gen (P := fun z => (-2147483648) ≤ z ∧ z ≤ 2147483647) (r32i _) fun z1078 q1079 h1080 => ?_
        refine mr_iconst (pc := 51) (z := 1) dX12_rule_51 ?_
        refine mr_iand (pc := 52) (x := z1078) (y := 1) dX12_rule_52 ?_
        refine mr_gen (P := fun z => 0 ≤ z ∧ z ≤ 1) (rAndR (rR (x := 1)) rfl) fun z1081 q1082 h1083 => ?_
        refine mr_iconst (pc := 53) (z := 1) dX12_rule_53 ?_
        refine mr_icmp_ne (pc := 54) (tgt := 59) dX12_rule_54 (by decide) (r32 h1083 rfl) (r32 (rR (x := 1)) rfl) (fun h1084 => ?_) (fun h1084 => ?_)
        · have h1085 : 0 ≤ z1081 ∧ z1081 ≤ 0 := (vc_X1_goThrough_W12_38 h1084 h1083)
          refine mr_iload (pc := 59) (z := z820) dX12_rule_59 rfl ?_
          refine mr_iconst (pc := 61) (z := 1) dX12_rule_61 ?_
          refine mr_iload (pc := 62) (z := z1064) dX12_rule_62 rfl ?_
          refine mr_ishl (pc := 64) (x := 1) (y := z1064) dX12_rule_64 ?_
          refine mr_gen (P := fun z => (-2147483648) ≤ z ∧ z ≤ 2147483647) (r32i _) fun z1086 q1087 h1088 => ?_
          refine mr_ior (pc := 65) (x := z820) (y := z1086) dX12_rule_65 ?_
          refine mr_gen (P := fun z => (-2147483648) ≤ z ∧ z ≤ 2147483647) (r32i _) fun z1089 q1090 h1091 => ?_
          have I1092 := (sOK.add R828 (vc_X12_rule_W_29 q1065 h1070.2.1 h1070.2.2.1 h1076 h832 h1072 h1077 h1075 h1063) q1079 q1082 (vc_X12_rule_W_28 h1084 h1085) q1087 q1090)
          have h1093 : 0 ≤ z1089 ∧ z1089 ≤ 126 := ⟨I1092.1, I1092.2.1⟩
          have h1094 : z819 ≤ 5 := by have h := I1092.le; omega
          have h1095 : 0 ≤ z819 ∧ z819 ≤ 5 := (vc_X12_rule_W_30 h1094 h823)
          refine mr_istore (pc := 66) (lv' := [(4, iv z1089), (7, iv z1064), (0, .ref 106), (1, iv p1), (2, iv p2), (3, iv p3), (5, iv z819), (6, iv z818)]) dX12_rule_66 (by decide) rfl ?_
          refine mr_iinc (pc := 68) (lv' := [(5, iv (z819 + 1)), (4, iv z1089), (7, iv z1064), (0, .ref 106), (1, iv p1), (2, iv p2), (3, iv p3), (6, iv z818)]) dX12_rule_68 rfl (by decide) rfl ?_
          refine mr_iload (pc := 71) (z := z818) dX12_rule_71 rfl ?_
          refine mr_bipush (pc := 73) (z := 10) dX12_rule_73 (by decide) ?_
          refine mr_idiv (pc := 75) (x := z818) (y := 10) dX12_rule_75 (rW (c := 0) (d := 2147483647) h1063 rfl) vc_X8_doNext_W_5 ?_
          refine mr_gen (P := fun z => 0 ≤ z ∧ z ≤ 214748364) (rDiv h1063 rfl) fun z1096 q1097 h1098 => ?_
          refine mr_istore (pc := 76) (lv' := [(6, iv z1096), (5, iv (z819 + 1)), (4, iv z1089), (7, iv z1064), (0, .ref 106), (1, iv p1), (2, iv p2), (3, iv p3)]) dX12_rule_76 (by decide) rfl ?_
          refine sv_goto (pc := 78) (tgt := 23) dX12_rule_78 (by decide) ?_
          refine mr_lvS (lv' := [(0, .ref 106), (1, iv p1), (2, iv p2), (3, iv p3), (4, iv z1089), (5, iv (z819 + 1)), (6, iv z1096)]) (List.forall_mem_cons.mpr ⟨rfl, List.forall_mem_cons.mpr ⟨rfl, List.forall_mem_cons.mpr ⟨rfl, List.forall_mem_cons.mpr ⟨rfl, List.forall_mem_cons.mpr ⟨rfl, List.forall_mem_cons.mpr ⟨rfl, List.forall_mem_cons.mpr ⟨rfl, fun _ h => absurd h List.not_mem_nil⟩⟩⟩⟩⟩⟩⟩) ?_
          exact ih831 z1089 (z819 + 1) z1096 trivial h1093 (rW (c := 0) (d := 6) (rAdd (e := 1) (f := 6) h1095 (rR (x := 1)) rfl) rfl) (rW (c := 0) (d := 2147483647) h1098 rfl) I1092 (vc_X12_rule_W_31 (nS h829) h832 q1065 q1097 h1070.2.1 h1070.2.2.1 h1076 h1077 h1075 h1098 h1063) ((((((((h1070.2.2.2.1 h1070.1).2 h1072) z1078 q1079) z1081 q1082).1 h1084) z1086 q1087) z1089 q1090) z1096 q1097)
        have h1099 : 1 ≤ z1081 ∧ z1081 ≤ 1 := (vc_X1_goThrough_W12_37 h1084 h1083)
        refine mr_iconst (pc := 57) (z := (-1)) dX12_rule_57 ?_
        exact mr_iret dX12_rule_58 rfl (le_t rfl) (le_t rfl) hT mF.refl ⟨(rW (c := (-2147483648)) (d := 2147483647) (rR (x := (-1))) rfl), hIG1, hIEV, (((((h1070.2.2.2.1 h1070.1).2 h1072) z1078 q1079) z1081 q1082).2 h1084), trivial⟩
    refine mr_lvS (lv' := [(0, .ref 106), (1, iv p1), (2, iv p2), (3, iv p3), (4, iv 0), (5, iv 0), (6, iv p2)]) (List.forall_mem_cons.mpr ⟨rfl, List.forall_mem_cons.mpr ⟨rfl, List.forall_mem_cons.mpr ⟨rfl, List.forall_mem_cons.mpr ⟨rfl, List.forall_mem_cons.mpr ⟨rfl, List.forall_mem_cons.mpr ⟨rfl, List.forall_mem_cons.mpr ⟨rfl, fun _ h => absurd h List.not_mem_nil⟩⟩⟩⟩⟩⟩⟩) ?_
    exact L821 2147483648 0 0 p2 trivial (rW (c := 0) (d := 126) (rR (x := 0)) rfl) (rW (c := 0) (d := 6) (rR (x := 0)) rfl) h17 sOK.zero (vc_X11_isRule_W_16 h16 h17) (((h7.2.2.2.1 h7.1).2 h9).1 h16)
  have h1100 : (-2147483648) ≤ p2 ∧ p2 ≤ (-1) := (vc_X12_ring_60 h16 hp2)
  refine mr_iconst (pc := 12) (z := (-1)) dX12_rule_12 ?_
  exact mr_iret dX12_rule_13 rfl (le_t rfl) (le_t rfl) hT mF.refl ⟨(rW (c := (-2147483648)) (d := 2147483647) (rR (x := (-1))) rfl), hIG1, hIEV, (((h7.2.2.2.1 h7.1).2 h9).2 h16), trivial⟩
def WP_X11_rowInHand_W (w : mW) (μ : mM) (p1 : Int) (Q : Int → mM → Prop) : Prop := ((p1 < 10) → Q ((-99999999) : Int) μ) ∧ ((10 ≤ p1) → ∀ z4 : Int, μ 3 7 = z4 → (0 ≤ z4 ∧ z4 ≤ 20) → (((10 + z4) ≤ p1) → ((p1 < 100) → Q ((-99999999) : Int) μ) ∧ ((100 ≤ p1) → ∀ z11 : Int, μ 3 8 = z11 → (0 ≤ z11 ∧ z11 ≤ 8) → (((100 + z11) ≤ p1) → Q ((-99999999) : Int) μ) ∧ ((p1 < (100 + z11)) → ∀ z18 : Int, μ (3 + 2) ((p1 - 100).toNat) = z18 → ((-2147483648) ≤ z18 ∧ z18 ≤ 2147483647) → Q z18 μ))) ∧ ((p1 < (10 + z4)) → ∀ z24 : Int, μ (3 + 1) ((p1 - 10).toNat) = z24 → ((-2147483648) ≤ z24 ∧ z24 ≤ 2147483647) → Q z24 μ))
def WP_X11_hand_W (w : mW) (μ : mM) (p1 : Int) (Q : Int → mM → Prop) : Prop := ∀ z1 : Int, μ 3 2 = z1 → (0 ≤ z1 ∧ z1 ≤ 1) → ((¬ z1 = 0) → (p1 = 0 → ∀ z8 : Int, μ 3 3 = z8 → (0 ≤ z8 ∧ z8 ≤ 9) → Q z8 μ) ∧ (¬ p1 = 0 → (p1 = 1 → ∀ z13 : Int, μ 3 4 = z13 → ((-2147483648) ≤ z13 ∧ z13 ≤ 2147483647) → Q z13 μ) ∧ (¬ p1 = 1 → (p1 = 2 → ∀ z18 : Int, μ 3 5 = z18 → ((-2147483648) ≤ z18 ∧ z18 ≤ 2147483647) → Q z18 μ) ∧ (¬ p1 = 2 → (p1 = 3 → ∀ z23 : Int, μ 3 6 = z23 → ((-2147483648) ≤ z23 ∧ z23 ≤ 2147483647) → Q z23 μ) ∧ (¬ p1 = 3 → (p1 = 4 → ∀ z28 : Int, μ 3 7 = z28 → (0 ≤ z28 ∧ z28 ≤ 20) → Q z28 μ) ∧ (¬ p1 = 4 → (p1 = 5 → ∀ z33 : Int, μ 3 8 = z33 → (0 ≤ z33 ∧ z33 ≤ 8) → Q z33 μ) ∧ (¬ p1 = 5 → WP_X11_rowInHand_W w μ p1 (fun z40 _ => ((-2147483648) ≤ z40 ∧ z40 ≤ 2147483647) → Q z40 μ)))))))) ∧ ((z1 = 0) → Q ((-99999999) : Int) μ)
def WP_X12_hand_W (w : mW) (μ : mM) (p1 : Int) (Q : Int → mM → Prop) : Prop := ∀ z1 : Int, μ 106 70 = z1 → (0 ≤ z1 ∧ z1 ≤ 1) → ((z1 = 0) → Q ((-99999999) : Int) μ) ∧ ((¬ z1 = 0) → ((0 ≤ p1) → ((5 < p1) → ((p1 < 10) → Q ((-99999999) : Int) μ) ∧ ((10 ≤ p1) → ∀ z14 : Int, μ 126 ((4 : Int).toNat) = z14 → ((-2147483648 ≤ z14 ∧ z14 ≤ 2147483647) ∧ ((4 : Int) % 40 = 0 → -1 ≤ z14 ∧ z14 ≤ 9) ∧ ((4 : Int) % 40 = 4 → 0 ≤ z14 ∧ z14 ≤ 20) ∧ ((4 : Int) % 40 = 5 → 0 ≤ z14 ∧ z14 ≤ 8)) → ((z14 ≤ (p1 - 10)) → ((p1 < 100) → Q ((-99999999) : Int) μ) ∧ ((100 ≤ p1) → ∀ z33 : Int, μ 126 ((5 : Int).toNat) = z33 → ((-2147483648 ≤ z33 ∧ z33 ≤ 2147483647) ∧ ((5 : Int) % 40 = 0 → -1 ≤ z33 ∧ z33 ≤ 9) ∧ ((5 : Int) % 40 = 4 → 0 ≤ z33 ∧ z33 ≤ 20) ∧ ((5 : Int) % 40 = 5 → 0 ≤ z33 ∧ z33 ≤ 8)) → ((z33 ≤ (p1 - 100)) → Q ((-99999999) : Int) μ) ∧ (((p1 - 100) < z33) → ∀ z45 : Int, μ 126 (((26 + p1) - 100).toNat) = z45 → ((-2147483648 ≤ z45 ∧ z45 ≤ 2147483647) ∧ (((26 + p1) - 100) % 40 = 0 → -1 ≤ z45 ∧ z45 ≤ 9) ∧ (((26 + p1) - 100) % 40 = 4 → 0 ≤ z45 ∧ z45 ≤ 20) ∧ (((26 + p1) - 100) % 40 = 5 → 0 ≤ z45 ∧ z45 ≤ 8)) → Q z45 μ))) ∧ (((p1 - 10) < z14) → ∀ z50 : Int, μ 126 (((6 + p1) - 10).toNat) = z50 → ((-2147483648 ≤ z50 ∧ z50 ≤ 2147483647) ∧ (((6 + p1) - 10) % 40 = 0 → -1 ≤ z50 ∧ z50 ≤ 9) ∧ (((6 + p1) - 10) % 40 = 4 → 0 ≤ z50 ∧ z50 ≤ 20) ∧ (((6 + p1) - 10) % 40 = 5 → 0 ≤ z50 ∧ z50 ≤ 8)) → Q z50 μ))) ∧ ((p1 ≤ 5) → ∀ z54 : Int, μ 126 (p1.toNat) = z54 → ((-2147483648 ≤ z54 ∧ z54 ≤ 2147483647) ∧ (p1 % 40 = 0 → -1 ≤ z54 ∧ z54 ≤ 9) ∧ (p1 % 40 = 4 → 0 ≤ z54 ∧ z54 ≤ 20) ∧ (p1 % 40 = 5 → 0 ≤ z54 ∧ z54 ≤ 8)) → Q z54 μ)) ∧ ((p1 < 0) → Q ((-99999999) : Int) μ))
def WP_X11_route_W (w : mW) (μ : mM) (p1 : Int) (p2 : Int) (p3 : Int) (p4 : Int) (Q : Int → mM → Prop) : Prop := ∀ z1 : Int, μ 6 14 = z1 → (0 ≤ z1 ∧ z1 ≤ 10) → WP_X11_isPrefix_W w μ p1 (fun z8 _ => (0 ≤ z8 ∧ z8 ≤ 1) → ((z8 = 0) → Q ((-1) : Int) μ) ∧ ((¬ z8 = 0) → ((p2 < 0) → Q ((-1) : Int) μ) ∧ ((0 ≤ p2) → ((p2 ≤ 1000) → ((p3 < 0) → Q ((-1) : Int) μ) ∧ ((0 ≤ p3) → ((2 < p3) → Q ((-1) : Int) μ) ∧ ((p3 ≤ 2) → ((p4 < 0) → Q ((-1) : Int) μ) ∧ ((0 ≤ p4) → ((p4 ≤ 1000000) → WP_X7_begin_W w μ 3 p1 p3 (fun μ32 => mT w μ32 → mF [200002, 200003, 200004, 200005, 200006, 200007, 200008] w μ μ32 → ∀ μ36 : mM, mU μ32 3 (4) p2 μ36 → mT w μ36 → ∀ μ39 : mM, mU μ36 3 (6) p4 μ39 → mT w μ39 → ∀ z43 : Int, μ39 0 11 = z43 → (0 ≤ z43 ∧ z43 ≤ 20) → ∀ μ46 : mM, mQ μ39 2 (3 + 1) (0 : Int) (0 : Int) z43 μ46 → mT w μ46 → ∀ μ50 : mM, mU μ46 3 (7) z43 μ50 → mT w μ50 → Q (0 : Int) μ50)) ∧ ((1000000 < p4) → Q ((-1) : Int) μ))))) ∧ ((1000 < p2) → Q ((-1) : Int) μ))))
theorem vc_X11_route_W_9 {p2 : Int} (h0 : p2 ≤ 1000) (h1 : 0 ≤ p2) (h2 : 0 ≤ p2 ∧ p2 ≤ 2147483647) : 0 ≤ p2 ∧ p2 ≤ 1000 := by omega
theorem vc_X11_route_W_16 {p4 : Int} (h0 : p4 ≤ 1000000) (h1 : 0 ≤ p4) (h2 : 0 ≤ p4 ∧ p4 ≤ 2147483647) : 0 ≤ p4 ∧ p4 ≤ 1000000 := by omega
theorem vc_X11_route_W_20 {p4 : Int} (h0 : 1000000 < p4) (h1 : 0 ≤ p4) (h2 : 0 ≤ p4 ∧ p4 ≤ 2147483647) : 1000001 ≤ p4 ∧ p4 ≤ 2147483647 := by omega
theorem vc_X11_route_W_21 {p2 : Int} (h0 : 1000 < p2) (h1 : 0 ≤ p2) (h2 : 0 ≤ p2 ∧ p2 ≤ 2147483647) : 1001 ≤ p2 ∧ p2 ≤ 2147483647 := by omega
set_option maxRecDepth 4000 in
set_option maxHeartbeats 4000000 in
theorem c_X11_route_W {l : Launch} {D : va_G} {c : Nat → ClassId} {H0 : Heap} {sa : Nat × Nat × (Nat → Int32)} {w : mW} {μ : mM} (hw : mWF w) (hT : mT w μ) {p1 : Int} (hp1 : (-2147483648) ≤ p1 ∧ p1 ≤ 2147483647) {p2 : Int} (hp2 : (-2147483648) ≤ p2 ∧ p2 ≤ 2147483647) {p3 : Int} (hp3 : (-2147483648) ≤ p3 ∧ p3 ≤ 2147483647) {p4 : Int} (hp4 : (-2147483648) ≤ p4 ∧ p4 ≤ 2147483647) {Q : Int → mM → Prop} (hQ : WP_X11_route_W w μ p1 p2 p3 p4 Q) : sC (gG l D c H0 sa) mX11_route 3 0 0 [.ref 0, iv p1, iv p2, iv p3, iv p4] (mk w μ) (qI w [200002, 200003, 200004, 200005, 200006, 200007, 200008, 201999] μ (fun z μ1 => ((-2147483648) ≤ z ∧ z ≤ 2147483647) ∧ Q z μ1 ∧ True)) := by
  refine sC.of rfl (by decide) (le_t rfl) ?_
  refine mr_lvE (lv' := [(0, .ref 0), (1, iv p1), (2, iv p2), (3, iv p3), (4, iv p4)]) rfl ?_
  refine sv_aload_n (pc := 0) dX11_route_0 rfl rfl ?_
  refine mr_iload_n (pc := 1) (z := p1) dX11_route_1 rfl rfl ?_
  obtain ⟨z1, q2⟩ : ∃ z, μ 6 14 = z := ⟨_, rfl⟩
  have h3 : (0 ≤ z1 ∧ z1 ≤ 10) := by rw [← q2]; exact hT 6 6 (A_6 hw) 14
  refine mr_cVP (pc := 2) (c_X11_isPrefix_W hw hT hp1 q2 (hQ z1 q2 h3)) (gOk _ _ _ _ _) dX11_route_2 (tX11_isPrefix _ _ _ _ _) ⟨wV_X11_isPrefix, wL_X11_isPrefix⟩ wM_X11_182 (gCX11 _ _ _ _ _) rfl (A_0 hw) rfl ⟨le_t rfl, le_t rfl⟩ ⟨le_t rfl, le_t rfl⟩ rfl (le_t rfl) fun z8 h7 => ?_
  refine mr_if_eq (pc := 5) (tgt := 19) dX11_route_5 (by decide) (r32 h7.1 rfl) (fun h9 => ?_) (fun h9 => ?_)
  · have h10 : 0 ≤ z8 ∧ z8 ≤ 0 := (vc_X12_write_78 h9 h7.2.1 h7.2.2.1 hp1 h3 h7.1)
    have h11 : p1 < 0 ∨ z1 ≤ p1 := (h7.2.2.1 (vc_X12_write_79 h7.2.1 h7.2.2.1 h9 hp1 h3 h10))
    refine mr_iconst (pc := 19) (z := (-1)) dX11_route_19 ?_
    exact mr_iret dX11_route_20 rfl (le_t rfl) (le_t rfl) hT mF.refl ⟨(rW (c := (-2147483648)) (d := 2147483647) (rR (x := (-1))) rfl), ((h7.2.2.2.1 h7.1).1 h9), trivial⟩
  have h12 : 1 ≤ z8 ∧ z8 ≤ 1 := (vc_X12_write_12 h9 h7.2.1 h7.2.2.1 hp1 h3 h7.1)
  have h13 : 0 ≤ p1 ∧ p1 < z1 := (h7.2.1 (vc_X12_write_13 h7.2.1 h7.2.2.1 h9 hp1 h3 h12))
  have h14 : 0 ≤ p1 ∧ p1 ≤ 9 := (vc_X12_write_14 h13 h7.2.1 h7.2.2.1 hp1 h3 h12)
  have h15 : 1 ≤ z1 ∧ z1 ≤ 10 := (vc_X12_write_15 h13 h7.2.1 h7.2.2.1 h14 h3 h12)
  refine mr_iload_n (pc := 8) (z := p2) dX11_route_8 rfl rfl ?_
  refine mr_if_lt (pc := 9) (tgt := 19) dX11_route_9 (by decide) hp2 (fun h16 => ?_) (fun h16 => ?_)
  · have h17 : (-2147483648) ≤ p2 ∧ p2 ≤ (-1) := (vc_X12_ring_60 h16 hp2)
    refine mr_iconst (pc := 19) (z := (-1)) dX11_route_19 ?_
    exact mr_iret dX11_route_20 rfl (le_t rfl) (le_t rfl) hT mF.refl ⟨(rW (c := (-2147483648)) (d := 2147483647) (rR (x := (-1))) rfl), (((h7.2.2.2.1 h7.1).2 h9).1 h16), trivial⟩
  have h18 : 0 ≤ p2 ∧ p2 ≤ 2147483647 := (vc_X12_ring_1 h16 hp2)
  refine mr_iload_n (pc := 12) (z := p2) dX11_route_12 rfl rfl ?_
  refine mr_sipush (pc := 13) (z := 1000) dX11_route_13 (by decide) ?_
  refine mr_icmp_le (pc := 16) (tgt := 21) dX11_route_16 (by decide) (r32 h18 rfl) (r32 (rR (x := 1000)) rfl) (fun h19 => ?_) (fun h19 => ?_)
  · have h20 : 0 ≤ p2 ∧ p2 ≤ 1000 := (vc_X11_route_W_9 h19 h16 h18)
    refine mr_iload_n (pc := 21) (z := p3) dX11_route_21 rfl rfl ?_
    refine mr_if_lt (pc := 22) (tgt := 42) dX11_route_22 (by decide) hp3 (fun h21 => ?_) (fun h21 => ?_)
    · have h22 : (-2147483648) ≤ p3 ∧ p3 ≤ (-1) := (vc_X12_ring_60 h21 hp3)
      refine mr_iconst (pc := 42) (z := (-1)) dX11_route_42 ?_
      exact mr_iret dX11_route_43 rfl (le_t rfl) (le_t rfl) hT mF.refl ⟨(rW (c := (-2147483648)) (d := 2147483647) (rR (x := (-1))) rfl), (((((h7.2.2.2.1 h7.1).2 h9).2 h16).1 h19).1 h21), trivial⟩
    have h23 : 0 ≤ p3 ∧ p3 ≤ 2147483647 := (vc_X12_ring_1 h21 hp3)
    refine mr_iload_n (pc := 25) (z := p3) dX11_route_25 rfl rfl ?_
    refine mr_iconst (pc := 26) (z := 2) dX11_route_26 ?_
    refine mr_icmp_gt (pc := 27) (tgt := 42) dX11_route_27 (by decide) (r32 h23 rfl) (r32 (rR (x := 2)) rfl) (fun h24 => ?_) (fun h24 => ?_)
    · have h25 : 3 ≤ p3 ∧ p3 ≤ 2147483647 := (vc_X11_units_4 h24 h21 h23)
      refine mr_iconst (pc := 42) (z := (-1)) dX11_route_42 ?_
      exact mr_iret dX11_route_43 rfl (le_t rfl) (le_t rfl) hT mF.refl ⟨(rW (c := (-2147483648)) (d := 2147483647) (rR (x := (-1))) rfl), ((((((h7.2.2.2.1 h7.1).2 h9).2 h16).1 h19).2 h21).1 h24), trivial⟩
    have h26 : 0 ≤ p3 ∧ p3 ≤ 2 := (vc_X11_units_3 h24 h21 h23)
    refine mr_iload (pc := 30) (z := p4) dX11_route_30 rfl ?_
    refine mr_if_lt (pc := 32) (tgt := 42) dX11_route_32 (by decide) hp4 (fun h27 => ?_) (fun h27 => ?_)
    · have h28 : (-2147483648) ≤ p4 ∧ p4 ≤ (-1) := (vc_X12_ring_60 h27 hp4)
      refine mr_iconst (pc := 42) (z := (-1)) dX11_route_42 ?_
      exact mr_iret dX11_route_43 rfl (le_t rfl) (le_t rfl) hT mF.refl ⟨(rW (c := (-2147483648)) (d := 2147483647) (rR (x := (-1))) rfl), (((((((h7.2.2.2.1 h7.1).2 h9).2 h16).1 h19).2 h21).2 h24).1 h27), trivial⟩
    have h29 : 0 ≤ p4 ∧ p4 ≤ 2147483647 := (vc_X12_ring_1 h27 hp4)
    refine mr_iload (pc := 35) (z := p4) dX11_route_35 rfl ?_
    refine mr_ldc (pc := 37) (z := 1000000) dX11_route_37 wG_X11_226 (by decide) ?_
    refine mr_icmp_le (pc := 39) (tgt := 44) dX11_route_39 (by decide) (r32 h29 rfl) (r32 (rR (x := 1000000)) rfl) (fun h30 => ?_) (fun h30 => ?_)
    · have h31 : 0 ≤ p4 ∧ p4 ≤ 1000000 := (vc_X11_route_W_16 h30 h27 h29)
      refine sv_aload_n (pc := 44) dX11_route_44 rfl rfl ?_
      refine gf_X11_2 (pc := 45) dX11_route_45 wF_X11_19 (A_0 hw) hT ?_
      refine mr_iload_n (pc := 48) (z := p1) dX11_route_48 rfl rfl ?_
      refine mr_iload_n (pc := 49) (z := p3) dX11_route_49 rfl rfl ?_
      refine mr_cVV (pc := 50) (c_X7_begin_W hw hT (A_3 hw) h14 (rW (c := (-2147483648)) (d := 2147483647) h26 rfl) ((((((((h7.2.2.2.1 h7.1).2 h9).2 h16).1 h19).2 h21).2 h24).2 h27).1 h30)) (gOk _ _ _ _ _) dX11_route_50 (tX7_begin _ _ _ _ _) ⟨wV_X7_begin, wL_X7_begin⟩ wM_X11_227 (gCX7 _ _ _ _ _) rfl (A_3 hw) rfl ⟨le_t rfl, le_t rfl⟩ ⟨le_t rfl, le_t rfl⟩ rfl (le_t rfl) fun μ32 T33 F34 h35 => ?_
      refine sv_aload_n (pc := 53) dX11_route_53 rfl rfl ?_
      refine gf_X11_2 (pc := 54) dX11_route_54 wF_X11_19 (A_0 hw) T33 ?_
      refine mr_iload_n (pc := 57) (z := p2) dX11_route_57 rfl rfl ?_
      refine pf_X7_4 (pc := 58) dX11_route_58 wF_X11_230 (A_3 hw) T33 (rW (c := (-2147483648)) (d := 2147483647) h20 rfl) fun μ36 u37 T38 => ?_
      refine sv_aload_n (pc := 61) dX11_route_61 rfl rfl ?_
      refine gf_X11_2 (pc := 62) dX11_route_62 wF_X11_19 (A_0 hw) T38 ?_
      refine mr_iload (pc := 65) (z := p4) dX11_route_65 rfl ?_
      refine pf_X7_6 (pc := 67) dX11_route_67 wF_X11_233 (A_3 hw) T38 (rW (c := (-2147483648)) (d := 2147483647) h31 rfl) fun μ39 u40 T41 => ?_
      refine sv_aload_n (pc := 70) dX11_route_70 rfl rfl ?_
      refine gf_X11_1 (pc := 71) dX11_route_71 wF_X11_13 (A_0 hw) T41 ?_
      refine mr_iconst (pc := 74) (z := 0) dX11_route_74 ?_
      refine sv_aload_n (pc := 75) dX11_route_75 rfl rfl ?_
      refine gf_X11_2 (pc := 76) dX11_route_76 wF_X11_19 (A_0 hw) T41 ?_
      refine gf_X7_0 (pc := 79) dX11_route_79 wF_X11_236 (A_3 hw) T41 fun A42 => ?_
      refine mr_iconst (pc := 82) (z := 0) dX11_route_82 ?_
      refine sv_aload_n (pc := 83) dX11_route_83 rfl rfl ?_
      refine gf_X11_11 (pc := 84) dX11_route_84 wF_X11_169 (A_0 hw) T41 fun z43 q44 h45 => ?_
      refine mr_ac (pc := 87) (sp := 0) (dp := 0) (n := z43) dX11_route_87 wM_X11_239 wN_J_ac wS_J_ac wI_J_sys rfl (A_2 hw) rfl A42 rfl vc_X2_send_2 vc_X2_send_2 (vc_X7_become_W_2 h45) (by have h := (A_2 hw).2.2.2 rfl; rw [h]; exact (vc_X7_become_W_3 h45)) (by have h := A42.2.2.2 rfl; rw [h]; exact (vc_X7_become_W_3 h45)) (Nat.le_trans (A_2 hw).2.2.1 (le_t rfl)) (Nat.le_trans A42.2.2.1 (le_t rfl)) (le_t rfl) (le_t rfl) (le_t rfl) T41 (fun i j _ _ => rW (T41 _ _ (A_2 hw) i) rfl) fun μ46 q47 T48 => ?_
      have F49 : mF [201999] w μ39 μ46 := mF.cell q47.1 A42 rfl
      refine sv_aload_n (pc := 90) dX11_route_90 rfl rfl ?_
      refine gf_X11_2 (pc := 91) dX11_route_91 wF_X11_19 (A_0 hw) T48 ?_
      refine sv_aload_n (pc := 94) dX11_route_94 rfl rfl ?_
      refine gk_X11_11 (pc := 95) dX11_route_95 wF_X11_169 (A_0 hw) (F49.f (A_0 hw) rfl q44) ?_
      refine pf_X7_7 (pc := 98) dX11_route_98 wF_X11_245 (A_3 hw) T48 h45 fun μ50 u51 T52 => ?_
      refine mr_iconst (pc := 101) (z := 0) dX11_route_101 ?_
      exact mr_iret dX11_route_102 rfl (le_t rfl) (le_t rfl) T52 (mF.up (mF.call (mF.up (mF.up (mF.call mF.refl F34 rfl) (A_3 hw) u37 rfl) (A_3 hw) u40 rfl) F49 rfl) (A_3 hw) u51 rfl) ⟨(rW (c := (-2147483648)) (d := 2147483647) (rR (x := 0)) rfl), ((((((h35.1 T33 F34) μ36 u37 T38) μ39 u40 T41) z43 q44 h45) μ46 q47 T48) μ50 u51 T52), trivial⟩
    have h53 : 1000001 ≤ p4 ∧ p4 ≤ 2147483647 := (vc_X11_route_W_20 h30 h27 h29)
    refine mr_iconst (pc := 42) (z := (-1)) dX11_route_42 ?_
    exact mr_iret dX11_route_43 rfl (le_t rfl) (le_t rfl) hT mF.refl ⟨(rW (c := (-2147483648)) (d := 2147483647) (rR (x := (-1))) rfl), ((((((((h7.2.2.2.1 h7.1).2 h9).2 h16).1 h19).2 h21).2 h24).2 h27).2 h30), trivial⟩
  have h54 : 1001 ≤ p2 ∧ p2 ≤ 2147483647 := (vc_X11_route_W_21 h19 h16 h18)
  refine mr_iconst (pc := 19) (z := (-1)) dX11_route_19 ?_
  exact mr_iret dX11_route_20 rfl (le_t rfl) (le_t rfl) hT mF.refl ⟨(rW (c := (-2147483648)) (d := 2147483647) (rR (x := (-1))) rfl), ((((h7.2.2.2.1 h7.1).2 h9).2 h16).2 h19), trivial⟩
def WL_X12_route_W_1 (w : mW) (Q : Int → mM → Prop) (z59 : Int) (μ65 : mM) (rec1 : (Int × mM) → Prop) (s : (Int × mM)) : Prop := ∀ z250 : Int, ∀ μ251 : mM, s = (z250, μ251) → (0 ≤ z250 ∧ z250 ≤ 20) → mT w μ251 → mF [126999] w μ65 μ251 → ((z59 ≤ z250) → ∀ μ269 : mM, mU μ251 106 (70) (1 : Int) μ269 → mT w μ269 → Q (0 : Int) μ269) ∧ ((z250 < z59) → ∀ z274 : Int, μ251 118 (z250.toNat) = z274 → (0 ≤ z274 ∧ z274 ≤ 9) → ∀ μ277 : mM, mU μ251 126 ((6 + z250).toNat) z274 μ277 → mT w μ277 → rec1 ((z250 + 1), μ277))
def WP_X12_route_W (w : mW) (μ : mM) (p1 : Int) (p2 : Int) (p3 : Int) (p4 : Int) (Q : Int → mM → Prop) : Prop := ∀ z1 : Int, μ 106 2 = z1 → (0 ≤ z1 ∧ z1 ≤ 10) → WP_X12_isPrefix_W w μ p1 (fun z8 _ => (0 ≤ z8 ∧ z8 ≤ 1) → ((z8 = 0) → Q ((-1) : Int) μ) ∧ ((¬ z8 = 0) → WP_X12_in_W w μ p2 (0) (1000) (fun z20 _ => (0 ≤ z20 ∧ z20 ≤ 1) → ((z20 = 0) → Q ((-1) : Int) μ) ∧ ((¬ z20 = 0) → WP_X12_in_W w μ p3 (0) (2) (fun z31 _ => (0 ≤ z31 ∧ z31 ≤ 1) → ((z31 = 0) → Q ((-1) : Int) μ) ∧ ((¬ z31 = 0) → WP_X12_in_W w μ p4 (0) (1000000) (fun z42 _ => (0 ≤ z42 ∧ z42 ≤ 1) → ((¬ z42 = 0) → ∀ μ47 : mM, mU μ 126 ((0 : Int).toNat) p1 μ47 → mT w μ47 → ∀ μ50 : mM, mU μ47 126 ((1 : Int).toNat) p2 μ50 → mT w μ50 → ∀ μ53 : mM, mU μ50 126 ((2 : Int).toNat) p3 μ53 → mT w μ53 → ∀ μ56 : mM, mU μ53 126 ((3 : Int).toNat) p4 μ56 → mT w μ56 → ∀ z59 : Int, μ56 106 15 = z59 → (0 ≤ z59 ∧ z59 ≤ 20) → ∀ μ62 : mM, mU μ56 126 ((4 : Int).toNat) z59 μ62 → mT w μ62 → ∀ μ65 : mM, mU μ62 126 ((5 : Int).toNat) (0 : Int) μ65 → mT w μ65 → loopF (WL_X12_route_W_1 w Q z59 μ65) False 22 ((0 : Int), μ65)) ∧ ((z42 = 0) → Q ((-1) : Int) μ))))))))
theorem vc_X12_route_W_7 {p2 z20 : Int} (h0 : z20 = 0) (h1 : (z20 = 1 → (0 : Int) ≤ p2 ∧ p2 ≤ (1000 : Int))) (h2 : (z20 = 0 → p2 < (0 : Int) ∨ (1000 : Int) < p2)) (h3 : (-2147483648) ≤ p2 ∧ p2 ≤ 2147483647) (h4 : 0 ≤ z20 ∧ z20 ≤ 1) : 0 ≤ z20 ∧ z20 ≤ 0 := by omega
theorem vc_X12_route_W_8 {p2 z20 : Int} (h0 : (z20 = 1 → (0 : Int) ≤ p2 ∧ p2 ≤ (1000 : Int))) (h1 : (z20 = 0 → p2 < (0 : Int) ∨ (1000 : Int) < p2)) (h2 : z20 = 0) (h3 : (-2147483648) ≤ p2 ∧ p2 ≤ 2147483647) (h4 : 0 ≤ z20 ∧ z20 ≤ 0) : z20 = 0 := by omega
theorem vc_X12_route_W_9 {p2 z20 : Int} (h0 : ¬ z20 = 0) (h1 : (z20 = 1 → (0 : Int) ≤ p2 ∧ p2 ≤ (1000 : Int))) (h2 : (z20 = 0 → p2 < (0 : Int) ∨ (1000 : Int) < p2)) (h3 : (-2147483648) ≤ p2 ∧ p2 ≤ 2147483647) (h4 : 0 ≤ z20 ∧ z20 ≤ 1) : 1 ≤ z20 ∧ z20 ≤ 1 := by omega
theorem vc_X12_route_W_10 {p2 z20 : Int} (h0 : (z20 = 1 → (0 : Int) ≤ p2 ∧ p2 ≤ (1000 : Int))) (h1 : (z20 = 0 → p2 < (0 : Int) ∨ (1000 : Int) < p2)) (h2 : ¬ z20 = 0) (h3 : (-2147483648) ≤ p2 ∧ p2 ≤ 2147483647) (h4 : 1 ≤ z20 ∧ z20 ≤ 1) : z20 = 1 := by omega
theorem vc_X12_route_W_11 {p2 z20 : Int} (h0 : (0 : Int) ≤ p2 ∧ p2 ≤ (1000 : Int)) (h1 : (z20 = 1 → (0 : Int) ≤ p2 ∧ p2 ≤ (1000 : Int))) (h2 : (z20 = 0 → p2 < (0 : Int) ∨ (1000 : Int) < p2)) (h3 : (-2147483648) ≤ p2 ∧ p2 ≤ 2147483647) (h4 : 1 ≤ z20 ∧ z20 ≤ 1) : 0 ≤ p2 ∧ p2 ≤ 1000 := by omega
theorem vc_X12_route_W_17 {p4 z42 : Int} (h0 : ¬ z42 = 0) (h1 : (z42 = 1 → (0 : Int) ≤ p4 ∧ p4 ≤ (1000000 : Int))) (h2 : (z42 = 0 → p4 < (0 : Int) ∨ (1000000 : Int) < p4)) (h3 : (-2147483648) ≤ p4 ∧ p4 ≤ 2147483647) (h4 : 0 ≤ z42 ∧ z42 ≤ 1) : 1 ≤ z42 ∧ z42 ≤ 1 := by omega
theorem vc_X12_route_W_18 {p4 z42 : Int} (h0 : (z42 = 1 → (0 : Int) ≤ p4 ∧ p4 ≤ (1000000 : Int))) (h1 : (z42 = 0 → p4 < (0 : Int) ∨ (1000000 : Int) < p4)) (h2 : ¬ z42 = 0) (h3 : (-2147483648) ≤ p4 ∧ p4 ≤ 2147483647) (h4 : 1 ≤ z42 ∧ z42 ≤ 1) : z42 = 1 := by omega
theorem vc_X12_route_W_19 {p4 z42 : Int} (h0 : (0 : Int) ≤ p4 ∧ p4 ≤ (1000000 : Int)) (h1 : (z42 = 1 → (0 : Int) ≤ p4 ∧ p4 ≤ (1000000 : Int))) (h2 : (z42 = 0 → p4 < (0 : Int) ∨ (1000000 : Int) < p4)) (h3 : (-2147483648) ≤ p4 ∧ p4 ≤ 2147483647) (h4 : 1 ≤ z42 ∧ z42 ≤ 1) : 0 ≤ p4 ∧ p4 ≤ 1000000 := by omega
theorem vc_X12_route_W_20 {p1 z1 z8 : Int} (h0 : (z8 = 1 → 0 ≤ p1 ∧ p1 < z1)) (h1 : (z8 = 0 → p1 < 0 ∨ z1 ≤ p1)) (h2 : 0 ≤ p1 ∧ p1 < z1) (h3 : ¬ z8 = 0) (h4 : 0 ≤ p1 ∧ p1 ≤ 9) (h5 : 1 ≤ z1 ∧ z1 ≤ 10) (h6 : 1 ≤ z8 ∧ z8 ≤ 1) : (-2147483648 ≤ p1 ∧ p1 ≤ 2147483647) ∧ ((0 : Int) % 40 = 0 → -1 ≤ p1 ∧ p1 ≤ 9) ∧ ((0 : Int) % 40 = 4 → 0 ≤ p1 ∧ p1 ≤ 20) ∧ ((0 : Int) % 40 = 5 → 0 ≤ p1 ∧ p1 ≤ 8) := by omega
theorem vc_X12_route_W_21 {p2 z20 : Int} (h0 : (z20 = 1 → (0 : Int) ≤ p2 ∧ p2 ≤ (1000 : Int))) (h1 : (z20 = 0 → p2 < (0 : Int) ∨ (1000 : Int) < p2)) (h2 : (0 : Int) ≤ p2 ∧ p2 ≤ (1000 : Int)) (h3 : ¬ z20 = 0) (h4 : 0 ≤ p2 ∧ p2 ≤ 1000) (h5 : 1 ≤ z20 ∧ z20 ≤ 1) : (-2147483648 ≤ p2 ∧ p2 ≤ 2147483647) ∧ ((1 : Int) % 40 = 0 → -1 ≤ p2 ∧ p2 ≤ 9) ∧ ((1 : Int) % 40 = 4 → 0 ≤ p2 ∧ p2 ≤ 20) ∧ ((1 : Int) % 40 = 5 → 0 ≤ p2 ∧ p2 ≤ 8) := by omega
theorem vc_X12_route_W_22 {p3 z31 : Int} (h0 : (z31 = 1 → (0 : Int) ≤ p3 ∧ p3 ≤ (2 : Int))) (h1 : (z31 = 0 → p3 < (0 : Int) ∨ (2 : Int) < p3)) (h2 : (0 : Int) ≤ p3 ∧ p3 ≤ (2 : Int)) (h3 : ¬ z31 = 0) (h4 : 0 ≤ p3 ∧ p3 ≤ 2) (h5 : 1 ≤ z31 ∧ z31 ≤ 1) : (-2147483648 ≤ p3 ∧ p3 ≤ 2147483647) ∧ ((2 : Int) % 40 = 0 → -1 ≤ p3 ∧ p3 ≤ 9) ∧ ((2 : Int) % 40 = 4 → 0 ≤ p3 ∧ p3 ≤ 20) ∧ ((2 : Int) % 40 = 5 → 0 ≤ p3 ∧ p3 ≤ 8) := by omega
theorem vc_X12_route_W_23 {p4 z42 : Int} (h0 : (z42 = 1 → (0 : Int) ≤ p4 ∧ p4 ≤ (1000000 : Int))) (h1 : (z42 = 0 → p4 < (0 : Int) ∨ (1000000 : Int) < p4)) (h2 : (0 : Int) ≤ p4 ∧ p4 ≤ (1000000 : Int)) (h3 : ¬ z42 = 0) (h4 : 0 ≤ p4 ∧ p4 ≤ 1000000) (h5 : 1 ≤ z42 ∧ z42 ≤ 1) : (-2147483648 ≤ p4 ∧ p4 ≤ 2147483647) ∧ ((3 : Int) % 40 = 0 → -1 ≤ p4 ∧ p4 ≤ 9) ∧ ((3 : Int) % 40 = 4 → 0 ≤ p4 ∧ p4 ≤ 20) ∧ ((3 : Int) % 40 = 5 → 0 ≤ p4 ∧ p4 ≤ 8) := by omega
theorem vc_X12_route_W_24 {z59 : Int} (h0 : 0 ≤ z59 ∧ z59 ≤ 20) : (-2147483648 ≤ z59 ∧ z59 ≤ 2147483647) ∧ ((4 : Int) % 40 = 0 → -1 ≤ z59 ∧ z59 ≤ 9) ∧ ((4 : Int) % 40 = 4 → 0 ≤ z59 ∧ z59 ≤ 20) ∧ ((4 : Int) % 40 = 5 → 0 ≤ z59 ∧ z59 ≤ 8) := by omega
theorem vc_X12_route_W_25  : (-(2147483648 : Int) ≤ ((0 : Int) : Int) ∧ ((0 : Int) : Int) ≤ (2147483647 : Int)) ∧ (((5 : Int) : Int) % (40 : Int) = (0 : Int) → -(1 : Int) ≤ ((0 : Int) : Int) ∧ ((0 : Int) : Int) ≤ (9 : Int)) ∧ (((5 : Int) : Int) % (40 : Int) = (4 : Int) → (0 : Int) ≤ ((0 : Int) : Int) ∧ ((0 : Int) : Int) ≤ (20 : Int)) ∧ (((5 : Int) : Int) % (40 : Int) = (5 : Int) → (0 : Int) ≤ ((0 : Int) : Int) ∧ ((0 : Int) : Int) ≤ (8 : Int)) := by omega
theorem vc_X12_route_W_29 {z250 z274 z59 : Int} (h0 : z250 < z59) (h1 : 0 ≤ z250 ∧ z250 ≤ 19) (h2 : 0 ≤ z274 ∧ z274 ≤ 9) (h3 : 1 ≤ z59 ∧ z59 ≤ 20) : (-2147483648 ≤ z274 ∧ z274 ≤ 2147483647) ∧ ((6 + z250) % 40 = 0 → -1 ≤ z274 ∧ z274 ≤ 9) ∧ ((6 + z250) % 40 = 4 → 0 ≤ z274 ∧ z274 ≤ 20) ∧ ((6 + z250) % 40 = 5 → 0 ≤ z274 ∧ z274 ≤ 8) := by omega
theorem vc_X12_route_W_32 {p4 z42 : Int} (h0 : z42 = 0) (h1 : (z42 = 1 → (0 : Int) ≤ p4 ∧ p4 ≤ (1000000 : Int))) (h2 : (z42 = 0 → p4 < (0 : Int) ∨ (1000000 : Int) < p4)) (h3 : (-2147483648) ≤ p4 ∧ p4 ≤ 2147483647) (h4 : 0 ≤ z42 ∧ z42 ≤ 1) : 0 ≤ z42 ∧ z42 ≤ 0 := by omega
theorem vc_X12_route_W_33 {p4 z42 : Int} (h0 : (z42 = 1 → (0 : Int) ≤ p4 ∧ p4 ≤ (1000000 : Int))) (h1 : (z42 = 0 → p4 < (0 : Int) ∨ (1000000 : Int) < p4)) (h2 : z42 = 0) (h3 : (-2147483648) ≤ p4 ∧ p4 ≤ 2147483647) (h4 : 0 ≤ z42 ∧ z42 ≤ 0) : z42 = 0 := by omega
set_option maxRecDepth 4000 in
set_option maxHeartbeats 4000000 in
theorem c_X12_route_W {l : Launch} {D : va_G} {c : Nat → ClassId} {H0 : Heap} {sa : Nat × Nat × (Nat → Int32)} {w : mW} {μ : mM} (hw : mWF w) (hT : mT w μ) {p1 : Int} (hp1 : (-2147483648) ≤ p1 ∧ p1 ≤ 2147483647) {p2 : Int} (hp2 : (-2147483648) ≤ p2 ∧ p2 ≤ 2147483647) {p3 : Int} (hp3 : (-2147483648) ≤ p3 ∧ p3 ≤ 2147483647) {p4 : Int} (hp4 : (-2147483648) ≤ p4 ∧ p4 ≤ 2147483647) {Q : Int → mM → Prop} (hQ : WP_X12_route_W w μ p1 p2 p3 p4 Q) : sC (gG l D c H0 sa) mX12_route 3 0 0 [.ref 106, iv p1, iv p2, iv p3, iv p4] (mk w μ) (qI w [106070, 126999] μ (fun z μ1 => ((-2147483648) ≤ z ∧ z ≤ 2147483647) ∧ Q z μ1 ∧ True)) := by
  refine sC.of rfl (by decide) (le_t rfl) ?_
  refine mr_lvE (lv' := [(0, .ref 106), (1, iv p1), (2, iv p2), (3, iv p3), (4, iv p4)]) rfl ?_
  refine sv_aload_n (pc := 0) dX12_route_0 rfl rfl ?_
  refine mr_iload_n (pc := 1) (z := p1) dX12_route_1 rfl rfl ?_
  obtain ⟨z1, q2⟩ : ∃ z, μ 106 2 = z := ⟨_, rfl⟩
  have h3 : (0 ≤ z1 ∧ z1 ≤ 10) := by rw [← q2]; exact hT 106 106 (A_106 hw) 2
  refine mr_cVP (pc := 2) (c_X12_isPrefix_W hw hT hp1 q2 (hQ z1 q2 h3)) (gOk _ _ _ _ _) dX12_route_2 (tX12_isPrefix _ _ _ _ _) ⟨wV_X12_isPrefix, wL_X12_isPrefix⟩ wM_X12_92 (gCX12 _ _ _ _ _) rfl (A_106 hw) rfl ⟨le_t rfl, le_t rfl⟩ ⟨le_t rfl, le_t rfl⟩ rfl (le_t rfl) fun z8 h7 => ?_
  refine mr_if_eq (pc := 5) (tgt := 40) dX12_route_5 (by decide) (r32 h7.1 rfl) (fun h9 => ?_) (fun h9 => ?_)
  · have h10 : 0 ≤ z8 ∧ z8 ≤ 0 := (vc_X12_write_78 h9 h7.2.1 h7.2.2.1 hp1 h3 h7.1)
    have h11 : p1 < 0 ∨ z1 ≤ p1 := (h7.2.2.1 (vc_X12_write_79 h7.2.1 h7.2.2.1 h9 hp1 h3 h10))
    refine mr_iconst (pc := 40) (z := (-1)) dX12_route_40 ?_
    exact mr_iret dX12_route_41 rfl (le_t rfl) (le_t rfl) hT mF.refl ⟨(rW (c := (-2147483648)) (d := 2147483647) (rR (x := (-1))) rfl), ((h7.2.2.2.1 h7.1).1 h9), trivial⟩
  have h12 : 1 ≤ z8 ∧ z8 ≤ 1 := (vc_X12_write_12 h9 h7.2.1 h7.2.2.1 hp1 h3 h7.1)
  have h13 : 0 ≤ p1 ∧ p1 < z1 := (h7.2.1 (vc_X12_write_13 h7.2.1 h7.2.2.1 h9 hp1 h3 h12))
  have h14 : 0 ≤ p1 ∧ p1 ≤ 9 := (vc_X12_write_14 h13 h7.2.1 h7.2.2.1 hp1 h3 h12)
  have h15 : 1 ≤ z1 ∧ z1 ≤ 10 := (vc_X12_write_15 h13 h7.2.1 h7.2.2.1 h14 h3 h12)
  refine mr_iload_n (pc := 8) (z := p2) dX12_route_8 rfl rfl ?_
  refine mr_iconst (pc := 9) (z := 0) dX12_route_9 ?_
  refine mr_sipush (pc := 10) (z := 1000) dX12_route_10 (by decide) ?_
  refine mr_cSP (pc := 13) (c_X12_in_W hw hT hp2 (rW (c := (-2147483648)) (d := 2147483647) (rR (x := 0)) rfl) (rW (c := (-2147483648)) (d := 2147483647) (rR (x := 1000)) rfl) ((h7.2.2.2.1 h7.1).2 h9)) (gOk _ _ _ _ _) dX12_route_13 (tX12_in _ _ _ _ _) wS_X12_in wM_X12_18 ⟨le_t rfl, le_t rfl⟩ ⟨le_t rfl, le_t rfl⟩ rfl (le_t rfl) fun z20 h19 => ?_
  refine mr_if_eq (pc := 16) (tgt := 40) dX12_route_16 (by decide) (r32 h19.1 rfl) (fun h21 => ?_) (fun h21 => ?_)
  · have h22 : 0 ≤ z20 ∧ z20 ≤ 0 := (vc_X12_route_W_7 h21 h19.2.1 h19.2.2.1 hp2 h19.1)
    have h23 : p2 < (0 : Int) ∨ (1000 : Int) < p2 := (h19.2.2.1 (vc_X12_route_W_8 h19.2.1 h19.2.2.1 h21 hp2 h22))
    refine mr_iconst (pc := 40) (z := (-1)) dX12_route_40 ?_
    exact mr_iret dX12_route_41 rfl (le_t rfl) (le_t rfl) hT mF.refl ⟨(rW (c := (-2147483648)) (d := 2147483647) (rR (x := (-1))) rfl), ((h19.2.2.2.1 h19.1).1 h21), trivial⟩
  have h24 : 1 ≤ z20 ∧ z20 ≤ 1 := (vc_X12_route_W_9 h21 h19.2.1 h19.2.2.1 hp2 h19.1)
  have h25 : (0 : Int) ≤ p2 ∧ p2 ≤ (1000 : Int) := (h19.2.1 (vc_X12_route_W_10 h19.2.1 h19.2.2.1 h21 hp2 h24))
  have h26 : 0 ≤ p2 ∧ p2 ≤ 1000 := (vc_X12_route_W_11 h25 h19.2.1 h19.2.2.1 hp2 h24)
  refine mr_iload_n (pc := 19) (z := p3) dX12_route_19 rfl rfl ?_
  refine mr_iconst (pc := 20) (z := 0) dX12_route_20 ?_
  refine mr_iconst (pc := 21) (z := 2) dX12_route_21 ?_
  refine mr_cSP (pc := 22) (c_X12_in_W hw hT hp3 (rW (c := (-2147483648)) (d := 2147483647) (rR (x := 0)) rfl) (rW (c := (-2147483648)) (d := 2147483647) (rR (x := 2)) rfl) ((h19.2.2.2.1 h19.1).2 h21)) (gOk _ _ _ _ _) dX12_route_22 (tX12_in _ _ _ _ _) wS_X12_in wM_X12_18 ⟨le_t rfl, le_t rfl⟩ ⟨le_t rfl, le_t rfl⟩ rfl (le_t rfl) fun z31 h30 => ?_
  refine mr_if_eq (pc := 25) (tgt := 40) dX12_route_25 (by decide) (r32 h30.1 rfl) (fun h32 => ?_) (fun h32 => ?_)
  · have h33 : 0 ≤ z31 ∧ z31 ≤ 0 := (vc_X12_units_9 h32 h30.2.1 h30.2.2.1 hp3 h30.1)
    have h34 : p3 < (0 : Int) ∨ (2 : Int) < p3 := (h30.2.2.1 (vc_X12_units_10 h30.2.1 h30.2.2.1 h32 hp3 h33))
    refine mr_iconst (pc := 40) (z := (-1)) dX12_route_40 ?_
    exact mr_iret dX12_route_41 rfl (le_t rfl) (le_t rfl) hT mF.refl ⟨(rW (c := (-2147483648)) (d := 2147483647) (rR (x := (-1))) rfl), ((h30.2.2.2.1 h30.1).1 h32), trivial⟩
  have h35 : 1 ≤ z31 ∧ z31 ≤ 1 := (vc_X12_units_1 h32 h30.2.1 h30.2.2.1 hp3 h30.1)
  have h36 : (0 : Int) ≤ p3 ∧ p3 ≤ (2 : Int) := (h30.2.1 (vc_X12_units_2 h30.2.1 h30.2.2.1 h32 hp3 h35))
  have h37 : 0 ≤ p3 ∧ p3 ≤ 2 := (vc_X12_units_3 h36 h30.2.1 h30.2.2.1 hp3 h35)
  refine mr_iload (pc := 28) (z := p4) dX12_route_28 rfl ?_
  refine mr_iconst (pc := 30) (z := 0) dX12_route_30 ?_
  refine mr_ldcw (pc := 31) (z := 1000000) dX12_route_31 wG_X12_291 (by decide) ?_
  refine mr_cSP (pc := 34) (c_X12_in_W hw hT hp4 (rW (c := (-2147483648)) (d := 2147483647) (rR (x := 0)) rfl) (rW (c := (-2147483648)) (d := 2147483647) (rR (x := 1000000)) rfl) ((h30.2.2.2.1 h30.1).2 h32)) (gOk _ _ _ _ _) dX12_route_34 (tX12_in _ _ _ _ _) wS_X12_in wM_X12_18 ⟨le_t rfl, le_t rfl⟩ ⟨le_t rfl, le_t rfl⟩ rfl (le_t rfl) fun z42 h41 => ?_
  refine mr_if_ne (pc := 37) (tgt := 42) dX12_route_37 (by decide) (r32 h41.1 rfl) (fun h43 => ?_) (fun h43 => ?_)
  · have h44 : 1 ≤ z42 ∧ z42 ≤ 1 := (vc_X12_route_W_17 h43 h41.2.1 h41.2.2.1 hp4 h41.1)
    have h45 : (0 : Int) ≤ p4 ∧ p4 ≤ (1000000 : Int) := (h41.2.1 (vc_X12_route_W_18 h41.2.1 h41.2.2.1 h43 hp4 h44))
    have h46 : 0 ≤ p4 ∧ p4 ≤ 1000000 := (vc_X12_route_W_19 h45 h41.2.1 h41.2.2.1 hp4 h44)
    refine sv_aload_n (pc := 42) dX12_route_42 rfl rfl ?_
    refine gf_X12_32 (pc := 43) dX12_route_43 wF_X12_148 (A_106 hw) hT ?_
    refine mr_iconst (pc := 46) (z := 0) dX12_route_46 ?_
    refine mr_iload_n (pc := 47) (z := p1) dX12_route_47 rfl rfl ?_
    refine ss_126 (pc := 48) dX12_route_48 (A_126 hw) hT (rIx (n := 84000) (rR (x := 0)) rfl) (vc_X12_route_W_20 h7.2.1 h7.2.2.1 h13 h9 h14 h15 h12) fun μ47 u48 T49 => ?_
    refine sv_aload_n (pc := 49) dX12_route_49 rfl rfl ?_
    refine gf_X12_32 (pc := 50) dX12_route_50 wF_X12_148 (A_106 hw) T49 ?_
    refine mr_iconst (pc := 53) (z := 1) dX12_route_53 ?_
    refine mr_iload_n (pc := 54) (z := p2) dX12_route_54 rfl rfl ?_
    refine ss_126 (pc := 55) dX12_route_55 (A_126 hw) T49 (rIx (n := 84000) (rR (x := 1)) rfl) (vc_X12_route_W_21 h19.2.1 h19.2.2.1 h25 h21 h26 h24) fun μ50 u51 T52 => ?_
    refine sv_aload_n (pc := 56) dX12_route_56 rfl rfl ?_
    refine gf_X12_32 (pc := 57) dX12_route_57 wF_X12_148 (A_106 hw) T52 ?_
    refine mr_iconst (pc := 60) (z := 2) dX12_route_60 ?_
    refine mr_iload_n (pc := 61) (z := p3) dX12_route_61 rfl rfl ?_
    refine ss_126 (pc := 62) dX12_route_62 (A_126 hw) T52 (rIx (n := 84000) (rR (x := 2)) rfl) (vc_X12_route_W_22 h30.2.1 h30.2.2.1 h36 h32 h37 h35) fun μ53 u54 T55 => ?_
    refine sv_aload_n (pc := 63) dX12_route_63 rfl rfl ?_
    refine gf_X12_32 (pc := 64) dX12_route_64 wF_X12_148 (A_106 hw) T55 ?_
    refine mr_iconst (pc := 67) (z := 3) dX12_route_67 ?_
    refine mr_iload (pc := 68) (z := p4) dX12_route_68 rfl ?_
    refine ss_126 (pc := 70) dX12_route_70 (A_126 hw) T55 (rIx (n := 84000) (rR (x := 3)) rfl) (vc_X12_route_W_23 h41.2.1 h41.2.2.1 h45 h43 h46 h44) fun μ56 u57 T58 => ?_
    refine sv_aload_n (pc := 71) dX12_route_71 rfl rfl ?_
    refine gf_X12_32 (pc := 72) dX12_route_72 wF_X12_148 (A_106 hw) T58 ?_
    refine mr_iconst (pc := 75) (z := 4) dX12_route_75 ?_
    refine sv_aload_n (pc := 76) dX12_route_76 rfl rfl ?_
    refine gf_X12_15 (pc := 77) dX12_route_77 wF_X12_79 (A_106 hw) T58 fun z59 q60 h61 => ?_
    refine ss_126 (pc := 80) dX12_route_80 (A_126 hw) T58 (rIx (n := 84000) (rR (x := 4)) rfl) (vc_X12_route_W_24 h61) fun μ62 u63 T64 => ?_
    refine sv_aload_n (pc := 81) dX12_route_81 rfl rfl ?_
    refine gf_X12_32 (pc := 82) dX12_route_82 wF_X12_148 (A_106 hw) T64 ?_
    refine mr_iconst (pc := 85) (z := 5) dX12_route_85 ?_
    refine mr_iconst (pc := 86) (z := 0) dX12_route_86 ?_
    refine ss_126 (pc := 87) dX12_route_87 (A_126 hw) T64 (rIx (n := 84000) (rR (x := 5)) rfl) vc_X12_route_W_25 fun μ65 u66 T67 => ?_
    refine mr_iconst (pc := 88) (z := 0) dX12_route_88 ?_
    refine mr_istore (pc := 89) (lv' := [(5, iv 0), (0, .ref 106), (1, iv p1), (2, iv p2), (3, iv p3), (4, iv p4)]) dX12_route_89 (by decide) rfl ?_
    have L252 : ∀ (nL252 : Nat) (z250 : Int) (μ251 : mM), mT w μ251 → mF [126999] w μ65 μ251 → (0 ≤ z250 ∧ z250 ≤ 20) → (21 - z250) < (nL252 : Int) → loopF (WL_X12_route_W_1 w Q z59 μ65) False nL252 (z250, μ251) → sV (gG l D c H0 sa) mX12_route (sRm 3 0 0) (sZ (gG l D c H0 sa) 0 0 (qI w [106070, 126999] μ (fun z μ1 => ((-2147483648) ≤ z ∧ z ≤ 2147483647) ∧ Q z μ1 ∧ True))) 91 [(0, .ref 106), (5, iv z250)] [] (mk w μ251) 0 0 := by
      intro nL252
      induction nL252 with
      | zero => intro z250 μ251 T254 F255 h253 h257 W258; exact ((vc_X12_tieOf_1 h257 h253)).elim
      | succ nL252 ih259 =>
        intro z250 μ251 T254 F255 h253 h257 W258
        refine mr_iload (pc := 91) (z := z250) dX12_route_91 rfl ?_
        refine sv_aload_n (pc := 93) dX12_route_93 rfl rfl ?_
        refine gk_X12_15 (pc := 94) dX12_route_94 wF_X12_79 (A_106 hw) (F255.f (A_106 hw) rfl (u66.f (Or.inl (mAt.ne (A_126 hw) (A_106 hw) rfl)) (u63.f (Or.inl (mAt.ne (A_126 hw) (A_106 hw) rfl)) q60))) ?_
        refine mr_icmp_ge (pc := 97) (tgt := 123) dX12_route_97 (by decide) (r32 h253 rfl) (r32 h61 rfl) (fun h268 => ?_) (fun h268 => ?_)
        · refine sv_aload_n (pc := 123) dX12_route_123 rfl rfl ?_
          refine mr_iconst (pc := 124) (z := 1) dX12_route_124 ?_
          refine pf_X12_70 (pc := 125) dX12_route_125 wF_X12_411 (A_106 hw) T254 (rW (c := 0) (d := 1) (rR (x := 1)) rfl) fun μ269 u270 T271 => ?_
          refine mr_iconst (pc := 128) (z := 0) dX12_route_128 ?_
          exact mr_iret dX12_route_129 rfl (le_t rfl) (le_t rfl) T271 (mF.up (mF.call (mF.up (mF.up (mF.up (mF.up (mF.up (mF.up mF.refl (A_126 hw) u48 rfl) (A_126 hw) u51 rfl) (A_126 hw) u54 rfl) (A_126 hw) u57 rfl) (A_126 hw) u63 rfl) (A_126 hw) u66 rfl) F255 rfl) (A_106 hw) u270 rfl) ⟨(rW (c := (-2147483648)) (d := 2147483647) (rR (x := 0)) rfl), (((W258 z250 μ251 rfl h253 T254 F255).1 h268) μ269 u270 T271), trivial⟩
        have h272 : 0 ≤ z250 ∧ z250 ≤ 19 := (vc_X12_tieOf_3 h268 h253 h61)
        have h273 : 1 ≤ z59 ∧ z59 ≤ 20 := (vc_X12_tieOf_4 h268 h272 h61)
        refine sv_aload_n (pc := 100) dX12_route_100 rfl rfl ?_
        refine gf_X12_32 (pc := 101) dX12_route_101 wF_X12_148 (A_106 hw) T254 ?_
        refine mr_bipush (pc := 104) (z := 6) dX12_route_104 (by decide) ?_
        refine mr_iload (pc := 106) (z := z250) dX12_route_106 rfl ?_
        refine mr_iadd (pc := 108) (x := 6) (y := z250) dX12_route_108 ?_
        refine sv_aload_n (pc := 109) dX12_route_109 rfl rfl ?_
        refine gf_X12_16 (pc := 110) dX12_route_110 wF_X12_82 (A_106 hw) T254 ?_
        refine mr_iload (pc := 113) (z := z250) dX12_route_113 rfl ?_
        refine la_118 (pc := 115) dX12_route_115 (A_118 hw) T254 (rIx (n := 20) h272 rfl) fun z274 q275 h276 => ?_
        refine ss_126 (pc := 116) dX12_route_116 (A_126 hw) T254 (rIx (n := 84000) (rAdd (e := 6) (f := 25) (rR (x := 6)) h272 rfl) rfl) (vc_X12_route_W_29 h268 h272 h276 h273) fun μ277 u278 T279 => ?_
        refine mr_iinc (pc := 117) (lv' := [(5, iv (z250 + 1)), (0, .ref 106)]) dX12_route_117 rfl (by decide) rfl ?_
        refine sv_goto (pc := 120) (tgt := 91) dX12_route_120 (by decide) ?_
        refine mr_lvS (lv' := [(0, .ref 106), (5, iv (z250 + 1))]) (List.forall_mem_cons.mpr ⟨rfl, List.forall_mem_cons.mpr ⟨rfl, fun _ h => absurd h List.not_mem_nil⟩⟩) ?_
        exact ih259 (z250 + 1) μ277 T279 (mF.up (mF.call mF.refl F255 rfl) (A_126 hw) u278 rfl) (rW (c := 0) (d := 20) (rAdd (e := 1) (f := 20) h272 (rR (x := 1)) rfl) rfl) (vc_X12_tieOf_5 (nS h257) h268 h272 h273) ((((W258 z250 μ251 rfl h253 T254 F255).2 h268) z274 q275 h276) μ277 u278 T279)
    refine mr_lvS (lv' := [(0, .ref 106), (5, iv 0)]) (List.forall_mem_cons.mpr ⟨rfl, List.forall_mem_cons.mpr ⟨rfl, fun _ h => absurd h List.not_mem_nil⟩⟩) ?_
    exact L252 22 0 μ65 T67 mF.refl (rW (c := 0) (d := 20) (rR (x := 0)) rfl) vc_X12_tieOf_12 (((((((((h41.2.2.2.1 h41.1).1 h43) μ47 u48 T49) μ50 u51 T52) μ53 u54 T55) μ56 u57 T58) z59 q60 h61) μ62 u63 T64) μ65 u66 T67)
  have h280 : 0 ≤ z42 ∧ z42 ≤ 0 := (vc_X12_route_W_32 h43 h41.2.1 h41.2.2.1 hp4 h41.1)
  have h281 : p4 < (0 : Int) ∨ (1000000 : Int) < p4 := (h41.2.2.1 (vc_X12_route_W_33 h41.2.1 h41.2.2.1 h43 hp4 h280))
  refine mr_iconst (pc := 40) (z := (-1)) dX12_route_40 ?_
  exact mr_iret dX12_route_41 rfl (le_t rfl) (le_t rfl) hT mF.refl ⟨(rW (c := (-2147483648)) (d := 2147483647) (rR (x := (-1))) rfl), ((h41.2.2.2.1 h41.1).2 h43), trivial⟩
def WL_X10_tieBetween_Wend_1 (w : mW) (μ : mM) (p1 : Int) (p2 : Int) (Q : Int → mM → Prop) (rec1 : (Int) → Prop) (s : (Int)) : Prop := ∀ z209 : Int, s = (z209) → (0 ≤ z209 ∧ z209 ≤ 20) → ∀ z218 : Int, μ 6 16 = z218 → (z218 = w.2.2.2 1 ∧ 0 ≤ z218 ∧ z218 ≤ 20) → ((z218 ≤ z209) → Q ((-1) : Int) μ) ∧ ((z209 < z218) → ∀ b224 : Nat, μ 11 (z209.toNat) = (b224 : Int) → mAt w b224 220 → ∀ z227 : Int, μ b224 0 = z227 → (0 ≤ z227 ∧ z227 ≤ 9 ∧ z227 < w.2.2.2 0) → ((¬ z227 = p1) → ((¬ z227 = p2) → rec1 ((z209 + 1))) ∧ ((z227 = p2) → ∀ z234 : Int, μ b224 1 = z234 → (0 ≤ z234 ∧ z234 ≤ 9 ∧ z234 < w.2.2.2 0) → ((¬ z234 = p1) → rec1 ((z209 + 1))) ∧ ((z234 = p1) → Q z209 μ))) ∧ ((z227 = p1) → ∀ z241 : Int, μ b224 1 = z241 → (0 ≤ z241 ∧ z241 ≤ 9 ∧ z241 < w.2.2.2 0) → ((z241 = p2) → Q z209 μ) ∧ ((¬ z241 = p2) → ((¬ z227 = p2) → rec1 ((z209 + 1))) ∧ ((z227 = p2) → ((¬ z241 = p1) → rec1 ((z209 + 1))) ∧ ((z241 = p1) → Q z209 μ)))))
def WP_X10_tieBetween_Wend (w : mW) (μ : mM) (p1 : Int) (p2 : Int) (Q : Int → mM → Prop) : Prop := loopF (WL_X10_tieBetween_Wend_1 w μ p1 p2 Q) False 22 ((0 : Int))
theorem vc_X10_tieBetween_Wend_9 {n0 p1 p2 z227 z234 : Int} (h0 : z227 < n0) (h1 : ¬ z227 = p1) (h2 : z227 = p2) (h3 : z234 < n0) (h4 : z234 = p1) (h5 : 0 ≤ p1 ∧ p1 ≤ 9) (h6 : 0 ≤ p2 ∧ p2 ≤ 9) (h7 : 0 ≤ z227 ∧ z227 ≤ 9) (h8 : 0 ≤ z234 ∧ z234 ≤ 9) : z227 = p1 ∨ z234 = p1 := by omega
theorem vc_X10_tieBetween_Wend_12 {n0 p1 p2 z227 z241 : Int} (h0 : z227 < n0) (h1 : z227 = p1) (h2 : z241 < n0) (h3 : z241 = p2) (h4 : 0 ≤ p1 ∧ p1 ≤ 9) (h5 : 0 ≤ p2 ∧ p2 ≤ 9) (h6 : 0 ≤ z227 ∧ z227 ≤ 9) (h7 : 0 ≤ z241 ∧ z241 ≤ 9) : z227 = p1 ∨ z241 = p1 := by omega
theorem vc_X10_tieBetween_Wend_14 {n0 p1 p2 z227 z241 : Int} (h0 : z227 < n0) (h1 : z227 = p1) (h2 : z241 < n0) (h3 : ¬ z241 = p2) (h4 : z227 = p2) (h5 : z241 = p1) (h6 : 0 ≤ p1 ∧ p1 ≤ 9) (h7 : 0 ≤ p2 ∧ p2 ≤ 9) (h8 : 0 ≤ z227 ∧ z227 ≤ 9) (h9 : 0 ≤ z241 ∧ z241 ≤ 9) : z227 = p1 ∨ z241 = p1 := by omega
set_option maxRecDepth 4000 in
set_option maxHeartbeats 4000000 in
theorem c_X10_tieBetween_Wend {l : Launch} {D : va_G} {c : Nat → ClassId} {H0 : Heap} {sa : Nat × Nat × (Nat → Int32)} {w : mW} {μ : mM} (hw : mWF w) (hT : mT w μ) {p1 : Int} (hp1 : (-2147483648) ≤ p1 ∧ p1 ≤ 2147483647) {p2 : Int} (hp2 : (-2147483648) ≤ p2 ∧ p2 ≤ 2147483647) {Q : Int → mM → Prop} (hQ : WP_X10_tieBetween_Wend w μ p1 p2 Q) : sC (gG l D c H0 sa) mX10_tieBetween 1 0 0 [.ref 6, iv p1, iv p2] (mk w μ) (qP w μ (fun z => ((-1) ≤ z ∧ z ≤ 19) ∧ (z < w.2.2.2 1) ∧ (z < 0 ∨ ∃ b : Nat, μ 11 z.toNat = (b : Int) ∧ (μ b 0 = p1 ∨ μ b 1 = p1)) ∧ Q z μ ∧ True)) := by
  refine sC.of rfl (by decide) (le_t rfl) ?_
  refine mr_lvE (lv' := [(0, .ref 6), (1, iv p1), (2, iv p2)]) rfl ?_
  refine mr_iconst (pc := 0) (z := 0) dX10_tieBetween_0 ?_
  refine mr_istore_n (pc := 1) (lv' := [(3, iv 0), (0, .ref 6), (1, iv p1), (2, iv p2)]) dX10_tieBetween_1 rfl (by decide) rfl ?_
  have L210 : ∀ (nL210 : Nat) (z209 : Int), True → (0 ≤ z209 ∧ z209 ≤ 20) → (21 - z209) < (nL210 : Int) → loopF (WL_X10_tieBetween_Wend_1 w μ p1 p2 Q) False nL210 (z209) → sV (gG l D c H0 sa) mX10_tieBetween (sRm 1 0 0) (sZ (gG l D c H0 sa) 0 0 (qP w μ (fun z => ((-1) ≤ z ∧ z ≤ 19) ∧ (z < w.2.2.2 1) ∧ (z < 0 ∨ ∃ b : Nat, μ 11 z.toNat = (b : Int) ∧ (μ b 0 = p1 ∨ μ b 1 = p1)) ∧ Q z μ ∧ True))) 2 [(0, .ref 6), (1, iv p1), (2, iv p2), (3, iv z209)] [] (mk w μ) 0 0 := by
    intro nL210
    induction nL210 with
    | zero => intro z209 _ h211 h215 W216; exact ((vc_X12_tieOf_1 h215 h211)).elim
    | succ nL210 ih217 =>
      intro z209 _ h211 h215 W216
      refine mr_iload_n (pc := 2) (z := z209) dX10_tieBetween_2 rfl rfl ?_
      refine sv_aload_n (pc := 3) dX10_tieBetween_3 rfl rfl ?_
      refine gf_X10_16 (pc := 4) dX10_tieBetween_4 wF_X10_72 (A_6 hw) hT fun z218 q219 h220 => ?_
      refine mr_icmp_ge (pc := 7) (tgt := 62) dX10_tieBetween_7 (by decide) (r32 h211 rfl) (r32 h220.2 rfl) (fun h221 => ?_) (fun h221 => ?_)
      · refine mr_iconst (pc := 62) (z := (-1)) dX10_tieBetween_62 ?_
        exact mr_iretP dX10_tieBetween_63 rfl (le_t rfl) (le_t rfl) ⟨(rW (c := (-1)) (d := 19) (rR (x := (-1))) rfl), (vc_X10_tieBetween_2 h220.1 h221 h211 h220.2), (Or.inl (by decide)), (((W216 z209 rfl h211) z218 q219 h220).1 h221), trivial⟩
      have h222 : 0 ≤ z209 ∧ z209 ≤ 19 := (vc_X10_tieBetween_3 h221 h220.1 h211 h220.2)
      have h223 : 1 ≤ z218 ∧ z218 ≤ 20 := (vc_X10_tieBetween_4 h221 h220.1 h222 h220.2)
      refine sv_aload_n (pc := 10) dX10_tieBetween_10 rfl rfl ?_
      refine gf_X10_4 (pc := 11) dX10_tieBetween_11 wF_X10_29 (A_6 hw) hT ?_
      refine mr_iload_n (pc := 14) (z := z209) dX10_tieBetween_14 rfl rfl ?_
      refine la_11 (pc := 15) dX10_tieBetween_15 (A_11 hw) hT (rIx (n := 20) h222 rfl) (vc_X10_tieBetween_5 h220.1 h221 h222 h223) fun b224 q225 A226 => ?_
      refine mr_astore (pc := 16) (lv' := [(4, .ref b224), (0, .ref 6), (1, iv p1), (2, iv p2), (3, iv z209)]) dX10_tieBetween_16 (by decide) rfl ?_
      refine sv_aload (pc := 18) dX10_tieBetween_18 rfl ?_
      refine gf_X9_0 (pc := 20) dX10_tieBetween_20 wF_X10_78 A226 hT fun z227 q228 h229 => ?_
      have h230 : 0 ≤ z227 ∧ z227 ≤ 9 := ⟨h229.1, h229.2.1⟩
      refine mr_iload_n (pc := 23) (z := p1) dX10_tieBetween_23 rfl rfl ?_
      refine mr_icmp_ne (pc := 24) (tgt := 36) dX10_tieBetween_24 (by decide) (r32 h230 rfl) hp1 (fun h231 => ?_) (fun h231 => ?_)
      · refine sv_aload (pc := 36) dX10_tieBetween_36 rfl ?_
        refine gk_X9_0 (pc := 38) dX10_tieBetween_38 wF_X10_78 A226 q228 ?_
        refine mr_iload_n (pc := 41) (z := p2) dX10_tieBetween_41 rfl rfl ?_
        refine mr_icmp_ne (pc := 42) (tgt := 56) dX10_tieBetween_42 (by decide) (r32 h230 rfl) hp2 (fun h232 => ?_) (fun h232 => ?_)
        · refine mr_iinc (pc := 56) (lv' := [(3, iv (z209 + 1)), (4, .ref b224), (0, .ref 6), (1, iv p1), (2, iv p2)]) dX10_tieBetween_56 rfl (by decide) rfl ?_
          refine sv_goto (pc := 59) (tgt := 2) dX10_tieBetween_59 (by decide) ?_
          refine mr_lvS (lv' := [(0, .ref 6), (1, iv p1), (2, iv p2), (3, iv (z209 + 1))]) (List.forall_mem_cons.mpr ⟨rfl, List.forall_mem_cons.mpr ⟨rfl, List.forall_mem_cons.mpr ⟨rfl, List.forall_mem_cons.mpr ⟨rfl, fun _ h => absurd h List.not_mem_nil⟩⟩⟩⟩) ?_
          exact ih217 (z209 + 1) trivial (rW (c := 0) (d := 20) (rAdd (e := 1) (f := 20) h222 (rR (x := 1)) rfl) rfl) (vc_X10_tieBetween_6 (nS h215) h221 h220.1 h222 h223) (((((((W216 z209 rfl h211) z218 q219 h220).2 h221) b224 q225 A226) z227 q228 h229).1 h231).1 h232)
        have h233 : 0 ≤ p2 ∧ p2 ≤ 9 := (vc_X10_tieBetween_7 h232 h229.2.2 h231 hp1 hp2 h230)
        refine sv_aload (pc := 45) dX10_tieBetween_45 rfl ?_
        refine gf_X9_1 (pc := 47) dX10_tieBetween_47 wF_X10_81 A226 hT fun z234 q235 h236 => ?_
        have h237 : 0 ≤ z234 ∧ z234 ≤ 9 := ⟨h236.1, h236.2.1⟩
        refine mr_iload_n (pc := 50) (z := p1) dX10_tieBetween_50 rfl rfl ?_
        refine mr_icmp_ne (pc := 51) (tgt := 56) dX10_tieBetween_51 (by decide) (r32 h237 rfl) hp1 (fun h238 => ?_) (fun h238 => ?_)
        · refine mr_iinc (pc := 56) (lv' := [(3, iv (z209 + 1)), (4, .ref b224), (0, .ref 6), (1, iv p1), (2, iv p2)]) dX10_tieBetween_56 rfl (by decide) rfl ?_
          refine sv_goto (pc := 59) (tgt := 2) dX10_tieBetween_59 (by decide) ?_
          refine mr_lvS (lv' := [(0, .ref 6), (1, iv p1), (2, iv p2), (3, iv (z209 + 1))]) (List.forall_mem_cons.mpr ⟨rfl, List.forall_mem_cons.mpr ⟨rfl, List.forall_mem_cons.mpr ⟨rfl, List.forall_mem_cons.mpr ⟨rfl, fun _ h => absurd h List.not_mem_nil⟩⟩⟩⟩) ?_
          exact ih217 (z209 + 1) trivial (rW (c := 0) (d := 20) (rAdd (e := 1) (f := 20) h222 (rR (x := 1)) rfl) rfl) (vc_X10_tieBetween_6 (nS h215) h221 h220.1 h222 h223) (((((((((W216 z209 rfl h211) z218 q219 h220).2 h221) b224 q225 A226) z227 q228 h229).1 h231).2 h232) z234 q235 h236).1 h238)
        have h239 : 0 ≤ p1 ∧ p1 ≤ 9 := (vc_X10_tieBetween_8 h238 h231 h236.2.2 hp1 h230 h237)
        refine mr_iload_n (pc := 54) (z := z209) dX10_tieBetween_54 rfl rfl ?_
        exact mr_iretP dX10_tieBetween_55 rfl (le_t rfl) (le_t rfl) ⟨(rW (c := (-1)) (d := 19) h222 rfl), (vc_X10_tieBetween_5 h220.1 h221 h222 h223), (Or.inr ⟨b224, q225, by rw [q228, q235]; exact (vc_X10_tieBetween_Wend_9 h229.2.2 h231 h232 h236.2.2 h238 h239 h233 h230 h237)⟩), (((((((((W216 z209 rfl h211) z218 q219 h220).2 h221) b224 q225 A226) z227 q228 h229).1 h231).2 h232) z234 q235 h236).2 h238), trivial⟩
      have h240 : 0 ≤ p1 ∧ p1 ≤ 9 := (vc_X10_tieBetween_9 h231 h229.2.2 hp1 h230)
      refine sv_aload (pc := 27) dX10_tieBetween_27 rfl ?_
      refine gf_X9_1 (pc := 29) dX10_tieBetween_29 wF_X10_81 A226 hT fun z241 q242 h243 => ?_
      have h244 : 0 ≤ z241 ∧ z241 ≤ 9 := ⟨h243.1, h243.2.1⟩
      refine mr_iload_n (pc := 32) (z := p2) dX10_tieBetween_32 rfl rfl ?_
      refine mr_icmp_eq (pc := 33) (tgt := 54) dX10_tieBetween_33 (by decide) (r32 h244 rfl) hp2 (fun h245 => ?_) (fun h245 => ?_)
      · have h246 : 0 ≤ p2 ∧ p2 ≤ 9 := (vc_X10_tieBetween_9 h245 h243.2.2 hp2 h244)
        refine mr_iload_n (pc := 54) (z := z209) dX10_tieBetween_54 rfl rfl ?_
        exact mr_iretP dX10_tieBetween_55 rfl (le_t rfl) (le_t rfl) ⟨(rW (c := (-1)) (d := 19) h222 rfl), (vc_X10_tieBetween_5 h220.1 h221 h222 h223), (Or.inr ⟨b224, q225, by rw [q228, q242]; exact (vc_X10_tieBetween_Wend_12 h229.2.2 h231 h243.2.2 h245 h240 h246 h230 h244)⟩), ((((((((W216 z209 rfl h211) z218 q219 h220).2 h221) b224 q225 A226) z227 q228 h229).2 h231) z241 q242 h243).1 h245), trivial⟩
      refine sv_aload (pc := 36) dX10_tieBetween_36 rfl ?_
      refine gk_X9_0 (pc := 38) dX10_tieBetween_38 wF_X10_78 A226 q228 ?_
      refine mr_iload_n (pc := 41) (z := p2) dX10_tieBetween_41 rfl rfl ?_
      refine mr_icmp_ne (pc := 42) (tgt := 56) dX10_tieBetween_42 (by decide) (r32 h230 rfl) hp2 (fun h247 => ?_) (fun h247 => ?_)
      · refine mr_iinc (pc := 56) (lv' := [(3, iv (z209 + 1)), (4, .ref b224), (0, .ref 6), (1, iv p1), (2, iv p2)]) dX10_tieBetween_56 rfl (by decide) rfl ?_
        refine sv_goto (pc := 59) (tgt := 2) dX10_tieBetween_59 (by decide) ?_
        refine mr_lvS (lv' := [(0, .ref 6), (1, iv p1), (2, iv p2), (3, iv (z209 + 1))]) (List.forall_mem_cons.mpr ⟨rfl, List.forall_mem_cons.mpr ⟨rfl, List.forall_mem_cons.mpr ⟨rfl, List.forall_mem_cons.mpr ⟨rfl, fun _ h => absurd h List.not_mem_nil⟩⟩⟩⟩) ?_
        exact ih217 (z209 + 1) trivial (rW (c := 0) (d := 20) (rAdd (e := 1) (f := 20) h222 (rR (x := 1)) rfl) rfl) (vc_X10_tieBetween_6 (nS h215) h221 h220.1 h222 h223) (((((((((W216 z209 rfl h211) z218 q219 h220).2 h221) b224 q225 A226) z227 q228 h229).2 h231) z241 q242 h243).2 h245).1 h247)
      have h248 : 0 ≤ p2 ∧ p2 ≤ 9 := (vc_X10_tieBetween_11 h247 h229.2.2 h231 h245 h240 hp2 h230 h244)
      refine sv_aload (pc := 45) dX10_tieBetween_45 rfl ?_
      refine gk_X9_1 (pc := 47) dX10_tieBetween_47 wF_X10_81 A226 q242 ?_
      refine mr_iload_n (pc := 50) (z := p1) dX10_tieBetween_50 rfl rfl ?_
      refine mr_icmp_ne (pc := 51) (tgt := 56) dX10_tieBetween_51 (by decide) (r32 h244 rfl) (r32 h240 rfl) (fun h249 => ?_) (fun h249 => ?_)
      · refine mr_iinc (pc := 56) (lv' := [(3, iv (z209 + 1)), (4, .ref b224), (0, .ref 6), (1, iv p1), (2, iv p2)]) dX10_tieBetween_56 rfl (by decide) rfl ?_
        refine sv_goto (pc := 59) (tgt := 2) dX10_tieBetween_59 (by decide) ?_
        refine mr_lvS (lv' := [(0, .ref 6), (1, iv p1), (2, iv p2), (3, iv (z209 + 1))]) (List.forall_mem_cons.mpr ⟨rfl, List.forall_mem_cons.mpr ⟨rfl, List.forall_mem_cons.mpr ⟨rfl, List.forall_mem_cons.mpr ⟨rfl, fun _ h => absurd h List.not_mem_nil⟩⟩⟩⟩) ?_
        exact ih217 (z209 + 1) trivial (rW (c := 0) (d := 20) (rAdd (e := 1) (f := 20) h222 (rR (x := 1)) rfl) rfl) (vc_X10_tieBetween_6 (nS h215) h221 h220.1 h222 h223) ((((((((((W216 z209 rfl h211) z218 q219 h220).2 h221) b224 q225 A226) z227 q228 h229).2 h231) z241 q242 h243).2 h245).2 h247).1 h249)
      refine mr_iload_n (pc := 54) (z := z209) dX10_tieBetween_54 rfl rfl ?_
      exact mr_iretP dX10_tieBetween_55 rfl (le_t rfl) (le_t rfl) ⟨(rW (c := (-1)) (d := 19) h222 rfl), (vc_X10_tieBetween_5 h220.1 h221 h222 h223), (Or.inr ⟨b224, q225, by rw [q228, q242]; exact (vc_X10_tieBetween_Wend_14 h229.2.2 h231 h243.2.2 h245 h247 h249 h240 h248 h230 h244)⟩), ((((((((((W216 z209 rfl h211) z218 q219 h220).2 h221) b224 q225 A226) z227 q228 h229).2 h231) z241 q242 h243).2 h245).2 h247).2 h249), trivial⟩
  refine mr_lvS (lv' := [(0, .ref 6), (1, iv p1), (2, iv p2), (3, iv 0)]) (List.forall_mem_cons.mpr ⟨rfl, List.forall_mem_cons.mpr ⟨rfl, List.forall_mem_cons.mpr ⟨rfl, List.forall_mem_cons.mpr ⟨rfl, fun _ h => absurd h List.not_mem_nil⟩⟩⟩⟩) ?_
  exact L210 22 0 trivial (rW (c := 0) (d := 20) (rR (x := 0)) rfl) vc_X12_tieOf_12 hQ
def WP_X9_sideOf_We (w : mW) (μ : mM) (a0 : Nat) (p1 : Int) (Q : Int → mM → Prop) : Prop := ∀ z1 : Int, μ a0 0 = z1 → (0 ≤ z1 ∧ z1 ≤ 9 ∧ z1 < w.2.2.2 0) → ∀ z5 : Int, μ a0 1 = z5 → (0 ≤ z5 ∧ z5 ≤ 9 ∧ z5 < w.2.2.2 0) → ((¬ p1 = z1) → Q (1 : Int) μ) ∧ ((p1 = z1) → Q (0 : Int) μ)
theorem vc_X9_sideOf_We_1 {n0 p1 z1 z5 : Int} (h0 : ¬ p1 = z5) (h1 : z5 < n0) (h2 : z1 = p1 ∨ z5 = p1) (h3 : ¬ p1 = z1) (h4 : z1 < n0) (h5 : (-2147483648) ≤ p1 ∧ p1 ≤ 2147483647) (h6 : 0 ≤ z1 ∧ z1 ≤ 9) (h7 : 0 ≤ z5 ∧ z5 ≤ 9) : False := by omega
theorem vc_X9_sideOf_We_2 {n0 p1 z1 z5 : Int} (h0 : p1 = z5) (h1 : z5 < n0) (h2 : z1 = p1 ∨ z5 = p1) (h3 : ¬ p1 = z1) (h4 : (-2147483648) ≤ p1 ∧ p1 ≤ 2147483647) (h5 : 0 ≤ z1 ∧ z1 ≤ 9) (h6 : 0 ≤ z5 ∧ z5 ≤ 9) : 0 ≤ p1 ∧ p1 ≤ 9 := by omega
theorem vc_X9_sideOf_We_3 {n0 p1 z1 z5 : Int} (h0 : p1 = z1) (h1 : z1 < n0) (h2 : z1 = p1 ∨ z5 = p1) (h3 : (-2147483648) ≤ p1 ∧ p1 ≤ 2147483647) (h4 : 0 ≤ z1 ∧ z1 ≤ 9) (h5 : 0 ≤ z5 ∧ z5 ≤ 9) : 0 ≤ p1 ∧ p1 ≤ 9 := by omega
set_option maxRecDepth 4000 in
set_option maxHeartbeats 4000000 in
theorem c_X9_sideOf_We {l : Launch} {D : va_G} {c : Nat → ClassId} {H0 : Heap} {sa : Nat × Nat × (Nat → Int32)} {w : mW} {μ : mM} (hw : mWF w) (hT : mT w μ) {a0 : Nat} (hA0 : mAt w a0 220) {p1 : Int} (hp1 : (-2147483648) ≤ p1 ∧ p1 ≤ 2147483647) (hend : μ a0 0 = p1 ∨ μ a0 1 = p1) {Q : Int → mM → Prop} (hQ : WP_X9_sideOf_We w μ a0 p1 Q) : sC (gG l D c H0 sa) mX9_sideOf 1 0 0 [.ref a0, iv p1] (mk w μ) (qP w μ (fun z => (0 ≤ z ∧ z ≤ 1) ∧ Q z μ ∧ True)) := by
  refine sC.of rfl (by decide) (le_t rfl) ?_
  obtain ⟨z1, q2⟩ : ∃ z, μ a0 0 = z := ⟨_, rfl⟩
  have h3 : (0 ≤ z1 ∧ z1 ≤ 9 ∧ z1 < w.2.2.2 0) := by rw [← q2]; exact hT a0 220 hA0 0
  have h4 : 0 ≤ z1 ∧ z1 ≤ 9 := ⟨h3.1, h3.2.1⟩
  obtain ⟨z5, q6⟩ : ∃ z, μ a0 1 = z := ⟨_, rfl⟩
  have h7 : (0 ≤ z5 ∧ z5 ≤ 9 ∧ z5 < w.2.2.2 0) := by rw [← q6]; exact hT a0 220 hA0 1
  have h8 : 0 ≤ z5 ∧ z5 ≤ 9 := ⟨h7.1, h7.2.1⟩
  refine mr_lvE (lv' := [(0, .ref a0), (1, iv p1)]) rfl ?_
  have h18 : z1 = p1 ∨ z5 = p1 := by have h := hend; rw [q2, q6] at h; exact h
  refine mr_iload_n (pc := 0) (z := p1) dX9_sideOf_0 rfl rfl ?_
  refine sv_aload_n (pc := 1) dX9_sideOf_1 rfl rfl ?_
  refine gk_X9_0 (pc := 2) dX9_sideOf_2 wF_X9_9 hA0 q2 ?_
  refine mr_icmp_ne (pc := 5) (tgt := 10) dX9_sideOf_5 (by decide) hp1 (r32 h4 rfl) (fun h19 => ?_) (fun h19 => ?_)
  · refine mr_iload_n (pc := 10) (z := p1) dX9_sideOf_10 rfl rfl ?_
    refine sv_aload_n (pc := 11) dX9_sideOf_11 rfl rfl ?_
    refine gk_X9_1 (pc := 12) dX9_sideOf_12 wF_X9_15 hA0 q6 ?_
    refine mr_icmp_ne (pc := 15) (tgt := 22) dX9_sideOf_15 (by decide) hp1 (r32 h8 rfl) (fun h => ((vc_X9_sideOf_We_1 h h7.2.2 h18 h19 h3.2.2 hp1 h4 h8)).elim) (fun h20 => ?_)
    have h21 : 0 ≤ p1 ∧ p1 ≤ 9 := (vc_X9_sideOf_We_2 h20 h7.2.2 h18 h19 hp1 h4 h8)
    refine mr_iconst (pc := 18) (z := 1) dX9_sideOf_18 ?_
    refine sv_goto (pc := 19) (tgt := 23) dX9_sideOf_19 (by decide) ?_
    exact mr_iretP dX9_sideOf_23 rfl (le_t rfl) (le_t rfl) ⟨(rW (c := 0) (d := 1) (rR (x := 1)) rfl), (((hQ z1 q2 h3) z5 q6 h7).1 h19), trivial⟩
  have h22 : 0 ≤ p1 ∧ p1 ≤ 9 := (vc_X9_sideOf_We_3 h19 h3.2.2 h18 hp1 h4 h8)
  refine mr_iconst (pc := 8) (z := 0) dX9_sideOf_8 ?_
  exact mr_iretP dX9_sideOf_9 rfl (le_t rfl) (le_t rfl) ⟨(rW (c := 0) (d := 1) (rR (x := 0)) rfl), (((hQ z1 q2 h3) z5 q6 h7).2 h19), trivial⟩
def WP_X11_judge_W (w : mW) (μ : mM) (p1 : Int) (p2 : Int) (p3 : Int) (Q : Int → mM → Prop) : Prop := ((p1 < 0) → Q ((-1) : Int) μ) ∧ ((0 ≤ p1) → ∀ z4 : Int, μ 21 8 = z4 → (z4 = w.2.2.2 2 ∧ 0 ≤ z4 ∧ z4 ≤ 12) → ((z4 ≤ p1) → Q ((-1) : Int) μ) ∧ ((p1 < z4) → ∀ z10 : Int, μ 6 15 = z10 → (z10 = w.2.2.2 0 ∧ 0 ≤ z10 ∧ z10 ≤ 10) → WP_X11_isDomain_W w μ p2 (fun z17 _ => (0 ≤ z17 ∧ z17 ≤ 1) → ((z17 = 0) → Q ((-1) : Int) μ) ∧ ((¬ z17 = 0) → WP_X11_isDomain_W w μ p3 (fun z28 _ => (0 ≤ z28 ∧ z28 ≤ 1) → ((¬ z28 = 0) → WP_X10_tieBetween_Wend w μ p2 p3 (fun z38 _ => ((-1) ≤ z38 ∧ z38 ≤ 19) → ((0 ≤ z38) → ∀ z41 : Int, μ 3 2 = z41 → (0 ≤ z41 ∧ z41 ≤ 1) → ((¬ z41 = 0) → ∀ b46 : Nat, μ 11 (z38.toNat) = (b46 : Int) → mAt w b46 220 → WP_X9_sideOf_We w μ b46 p2 (fun z54 _ => (0 ≤ z54 ∧ z54 ≤ 1) → WP_X1_lets_W w μ p1 3 b46 z54 (fun z59 μ55 => mT w μ55 → mF [21002, 21003, 21004, 21005, 21006, 21007, 200004, 200006, 200007, 200008, 201999, 202999] w μ μ55 → (0 ≤ z59 ∧ z59 ≤ 1) → ((z59 = 0) → Q (0 : Int) μ55) ∧ ((¬ z59 = 0) → Q (1 : Int) μ55)))) ∧ ((z41 = 0) → Q ((-2) : Int) μ)) ∧ ((z38 < 0) → Q ((-1) : Int) μ))) ∧ ((z28 = 0) → Q ((-1) : Int) μ))))))
theorem vc_X11_judge_W_11 {n0 p2 p3 z10 z17 z28 : Int} (h0 : (z28 = 1 → 0 ≤ p3 ∧ p3 < z10)) (h1 : (z28 = 0 → p3 < 0 ∨ z10 ≤ p3)) (h2 : ¬ z28 = 0) (h3 : z10 = n0) (h4 : (z17 = 1 → 0 ≤ p2 ∧ p2 < z10)) (h5 : (z17 = 0 → p2 < 0 ∨ z10 ≤ p2)) (h6 : 0 ≤ p2 ∧ p2 < z10) (h7 : 0 ≤ p2 ∧ p2 ≤ 9) (h8 : (-2147483648) ≤ p3 ∧ p3 ≤ 2147483647) (h9 : 0 ≤ z10 ∧ z10 ≤ 10) (h10 : 1 ≤ z17 ∧ z17 ≤ 1) (h11 : 1 ≤ z28 ∧ z28 ≤ 1) : z28 = 1 := by omega
theorem vc_X11_judge_W_12 {n0 p2 p3 z10 z17 z28 : Int} (h0 : 0 ≤ p3 ∧ p3 < z10) (h1 : z10 = n0) (h2 : (z17 = 1 → 0 ≤ p2 ∧ p2 < z10)) (h3 : (z17 = 0 → p2 < 0 ∨ z10 ≤ p2)) (h4 : 0 ≤ p2 ∧ p2 < z10) (h5 : (z28 = 1 → 0 ≤ p3 ∧ p3 < z10)) (h6 : (z28 = 0 → p3 < 0 ∨ z10 ≤ p3)) (h7 : 0 ≤ p2 ∧ p2 ≤ 9) (h8 : (-2147483648) ≤ p3 ∧ p3 ≤ 2147483647) (h9 : 0 ≤ z10 ∧ z10 ≤ 10) (h10 : 1 ≤ z17 ∧ z17 ≤ 1) (h11 : 1 ≤ z28 ∧ z28 ≤ 1) : 0 ≤ p3 ∧ p3 ≤ 9 := by omega
theorem vc_X11_judge_W_13 {n0 p2 p3 z10 z17 z28 : Int} (h0 : 0 ≤ p3 ∧ p3 < z10) (h1 : z10 = n0) (h2 : (z17 = 1 → 0 ≤ p2 ∧ p2 < z10)) (h3 : (z17 = 0 → p2 < 0 ∨ z10 ≤ p2)) (h4 : 0 ≤ p2 ∧ p2 < z10) (h5 : (z28 = 1 → 0 ≤ p3 ∧ p3 < z10)) (h6 : (z28 = 0 → p3 < 0 ∨ z10 ≤ p3)) (h7 : 0 ≤ p2 ∧ p2 ≤ 9) (h8 : 0 ≤ p3 ∧ p3 ≤ 9) (h9 : 0 ≤ z10 ∧ z10 ≤ 10) (h10 : 1 ≤ z17 ∧ z17 ≤ 1) (h11 : 1 ≤ z28 ∧ z28 ≤ 1) : 1 ≤ z10 ∧ z10 ≤ 10 := by omega
theorem vc_X11_judge_W_17 {n1 z38 : Int} (h0 : z38 < n1) (h1 : 0 ≤ z38) (h2 : 0 ≤ z38 ∧ z38 ≤ 19) : ¬ z38 < 0 := by omega
theorem vc_X11_judge_W_23 {n0 p2 p3 z10 z17 z28 : Int} (h0 : (z28 = 1 → 0 ≤ p3 ∧ p3 < z10)) (h1 : (z28 = 0 → p3 < 0 ∨ z10 ≤ p3)) (h2 : z28 = 0) (h3 : z10 = n0) (h4 : (z17 = 1 → 0 ≤ p2 ∧ p2 < z10)) (h5 : (z17 = 0 → p2 < 0 ∨ z10 ≤ p2)) (h6 : 0 ≤ p2 ∧ p2 < z10) (h7 : 0 ≤ p2 ∧ p2 ≤ 9) (h8 : (-2147483648) ≤ p3 ∧ p3 ≤ 2147483647) (h9 : 0 ≤ z10 ∧ z10 ≤ 10) (h10 : 1 ≤ z17 ∧ z17 ≤ 1) (h11 : 0 ≤ z28 ∧ z28 ≤ 0) : z28 = 0 := by omega
set_option maxRecDepth 4000 in
set_option maxHeartbeats 4000000 in
theorem c_X11_judge_W {l : Launch} {D : va_G} {c : Nat → ClassId} {H0 : Heap} {sa : Nat × Nat × (Nat → Int32)} {w : mW} {μ : mM} (hw : mWF w) (hT : mT w μ) {p1 : Int} (hp1 : (-2147483648) ≤ p1 ∧ p1 ≤ 2147483647) {p2 : Int} (hp2 : (-2147483648) ≤ p2 ∧ p2 ≤ 2147483647) {p3 : Int} (hp3 : (-2147483648) ≤ p3 ∧ p3 ≤ 2147483647) (hIPC : PC w μ) {Q : Int → mM → Prop} (hQ : WP_X11_judge_W w μ p1 p2 p3 Q) : sC (gG l D c H0 sa) mX11_judge 41 0 0 [.ref 0, iv p1, iv p2, iv p3] (mk w μ) (qI w [21002, 21003, 21004, 21005, 21006, 21007, 200004, 200006, 200007, 200008, 201999, 202999] μ (fun z μ1 => ((-2147483648) ≤ z ∧ z ≤ 2147483647) ∧ Q z μ1 ∧ True)) := by
  refine sC.of rfl (by decide) (le_t rfl) ?_
  refine mr_lvE (lv' := [(0, .ref 0), (1, iv p1), (2, iv p2), (3, iv p3)]) rfl ?_
  refine mr_iload_n (pc := 0) (z := p1) dX11_judge_0 rfl rfl ?_
  refine mr_if_lt (pc := 1) (tgt := 31) dX11_judge_1 (by decide) hp1 (fun h1 => ?_) (fun h1 => ?_)
  · have h2 : (-2147483648) ≤ p1 ∧ p1 ≤ (-1) := (vc_X12_ring_60 h1 hp1)
    refine mr_iconst (pc := 31) (z := (-1)) dX11_judge_31 ?_
    exact mr_iret dX11_judge_32 rfl (le_t rfl) (le_t rfl) hT mF.refl ⟨(rW (c := (-2147483648)) (d := 2147483647) (rR (x := (-1))) rfl), (hQ.1 h1), trivial⟩
  have h3 : 0 ≤ p1 ∧ p1 ≤ 2147483647 := (vc_X12_ring_1 h1 hp1)
  refine mr_iload_n (pc := 4) (z := p1) dX11_judge_4 rfl rfl ?_
  refine sv_aload_n (pc := 5) dX11_judge_5 rfl rfl ?_
  refine gf_X11_4 (pc := 6) dX11_judge_6 wF_X11_35 (A_0 hw) hT ?_
  refine gf_X1_8 (pc := 9) dX11_judge_9 wF_X11_205 (A_21 hw) hT fun z4 q5 h6 => ?_
  refine mr_icmp_ge (pc := 12) (tgt := 31) dX11_judge_12 (by decide) (r32 h3 rfl) (r32 h6.2 rfl) (fun h7 => ?_) (fun h7 => ?_)
  · refine mr_iconst (pc := 31) (z := (-1)) dX11_judge_31 ?_
    exact mr_iret dX11_judge_32 rfl (le_t rfl) (le_t rfl) hT mF.refl ⟨(rW (c := (-2147483648)) (d := 2147483647) (rR (x := (-1))) rfl), (((hQ.2 h1) z4 q5 h6).1 h7), trivial⟩
  have h8 : 0 ≤ p1 ∧ p1 ≤ 11 := (vc_X1_goThrough_W13_3 h7 h1 h6.1 h3 h6.2)
  have h9 : 1 ≤ z4 ∧ z4 ≤ 12 := (vc_X1_goThrough_W13_4 h7 h1 h6.1 h8 h6.2)
  refine sv_aload_n (pc := 15) dX11_judge_15 rfl rfl ?_
  refine mr_iload_n (pc := 16) (z := p2) dX11_judge_16 rfl rfl ?_
  obtain ⟨z10, q11⟩ : ∃ z, μ 6 15 = z := ⟨_, rfl⟩
  have h12 : (z10 = w.2.2.2 0 ∧ 0 ≤ z10 ∧ z10 ≤ 10) := by rw [← q11]; exact hT 6 6 (A_6 hw) 15
  refine mr_cVP (pc := 17) (c_X11_isDomain_W hw hT hp2 q11 ((((hQ.2 h1) z4 q5 h6).2 h7) z10 q11 h12)) (gOk _ _ _ _ _) dX11_judge_17 (tX11_isDomain _ _ _ _ _) ⟨wV_X11_isDomain, wL_X11_isDomain⟩ wM_X11_105 (gCX11 _ _ _ _ _) rfl (A_0 hw) rfl ⟨le_t rfl, le_t rfl⟩ ⟨le_t rfl, le_t rfl⟩ rfl (le_t rfl) fun z17 h16 => ?_
  refine mr_if_eq (pc := 20) (tgt := 31) dX11_judge_20 (by decide) (r32 h16.1 rfl) (fun h18 => ?_) (fun h18 => ?_)
  · have h19 : 0 ≤ z17 ∧ z17 ≤ 0 := (vc_X12_write_78 h18 h16.2.1 h16.2.2.1 hp2 h12.2 h16.1)
    have h20 : p2 < 0 ∨ z10 ≤ p2 := (h16.2.2.1 (vc_X11_letter_2 h16.2.1 h16.2.2.1 h18 h12.1 hp2 h12.2 h19))
    refine mr_iconst (pc := 31) (z := (-1)) dX11_judge_31 ?_
    exact mr_iret dX11_judge_32 rfl (le_t rfl) (le_t rfl) hT mF.refl ⟨(rW (c := (-2147483648)) (d := 2147483647) (rR (x := (-1))) rfl), ((h16.2.2.2.1 h16.1).1 h18), trivial⟩
  have h21 : 1 ≤ z17 ∧ z17 ≤ 1 := (vc_X12_write_12 h18 h16.2.1 h16.2.2.1 hp2 h12.2 h16.1)
  have h22 : 0 ≤ p2 ∧ p2 < z10 := (h16.2.1 (vc_X11_letter_4 h16.2.1 h16.2.2.1 h18 h12.1 hp2 h12.2 h21))
  have h23 : 0 ≤ p2 ∧ p2 ≤ 9 := (vc_X11_letter_5 h22 h12.1 h16.2.1 h16.2.2.1 hp2 h12.2 h21)
  refine sv_aload_n (pc := 23) dX11_judge_23 rfl rfl ?_
  refine mr_iload_n (pc := 24) (z := p3) dX11_judge_24 rfl rfl ?_
  refine mr_cVP (pc := 25) (c_X11_isDomain_W hw hT hp3 q11 ((h16.2.2.2.1 h16.1).2 h18)) (gOk _ _ _ _ _) dX11_judge_25 (tX11_isDomain _ _ _ _ _) ⟨wV_X11_isDomain, wL_X11_isDomain⟩ wM_X11_105 (gCX11 _ _ _ _ _) rfl (A_0 hw) rfl ⟨le_t rfl, le_t rfl⟩ ⟨le_t rfl, le_t rfl⟩ rfl (le_t rfl) fun z28 h27 => ?_
  refine mr_if_ne (pc := 28) (tgt := 33) dX11_judge_28 (by decide) (r32 h27.1 rfl) (fun h29 => ?_) (fun h29 => ?_)
  · have h30 : 1 ≤ z28 ∧ z28 ≤ 1 := (vc_X12_write_12 h29 h27.2.1 h27.2.2.1 hp3 h12.2 h27.1)
    have h31 : 0 ≤ p3 ∧ p3 < z10 := (h27.2.1 (vc_X11_judge_W_11 h27.2.1 h27.2.2.1 h29 h12.1 h16.2.1 h16.2.2.1 h22 h23 hp3 h12.2 h21 h30))
    have h32 : 0 ≤ p3 ∧ p3 ≤ 9 := (vc_X11_judge_W_12 h31 h12.1 h16.2.1 h16.2.2.1 h22 h27.2.1 h27.2.2.1 h23 hp3 h12.2 h21 h30)
    have h33 : 1 ≤ z10 ∧ z10 ≤ 10 := (vc_X11_judge_W_13 h31 h12.1 h16.2.1 h16.2.2.1 h22 h27.2.1 h27.2.2.1 h23 h32 h12.2 h21 h30)
    refine sv_aload_n (pc := 33) dX11_judge_33 rfl rfl ?_
    refine gf_X11_3 (pc := 34) dX11_judge_34 wF_X11_26 (A_0 hw) hT ?_
    refine mr_iload_n (pc := 37) (z := p2) dX11_judge_37 rfl rfl ?_
    refine mr_iload_n (pc := 38) (z := p3) dX11_judge_38 rfl rfl ?_
    refine mr_cVP (pc := 39) (c_X10_tieBetween_Wend hw hT (rW (c := (-2147483648)) (d := 2147483647) h23 rfl) (rW (c := (-2147483648)) (d := 2147483647) h32 rfl) ((h27.2.2.2.1 h27.1).1 h29)) (gOk _ _ _ _ _) dX11_judge_39 (tX10_tieBetween _ _ _ _ _) ⟨wV_X10_tieBetween, wL_X10_tieBetween⟩ wM_X11_109 (gCX10 _ _ _ _ _) rfl (A_6 hw) rfl ⟨le_t rfl, le_t rfl⟩ ⟨le_t rfl, le_t rfl⟩ rfl (le_t rfl) fun z38 h37 => ?_
    refine mr_istore (pc := 42) (lv' := [(4, iv z38), (0, .ref 0), (1, iv p1), (2, iv p2), (3, iv p3)]) dX11_judge_42 (by decide) rfl ?_
    refine mr_iload (pc := 44) (z := z38) dX11_judge_44 rfl ?_
    refine mr_if_ge (pc := 46) (tgt := 51) dX11_judge_46 (by decide) (r32 h37.1 rfl) (fun h39 => ?_) (fun h39 => ?_)
    · have h40 : 0 ≤ z38 ∧ z38 ≤ 19 := (vc_X10_firstWrongStep_4 h39 h37.2.1 h37.1)
      refine sv_aload_n (pc := 51) dX11_judge_51 rfl rfl ?_
      refine gf_X11_2 (pc := 52) dX11_judge_52 wF_X11_19 (A_0 hw) hT ?_
      refine gf_X7_2 (pc := 55) dX11_judge_55 wF_X11_246 (A_3 hw) hT fun z41 q42 h43 => ?_
      refine mr_if_ne (pc := 58) (tgt := 64) dX11_judge_58 (by decide) (r32 h43 rfl) (fun h44 => ?_) (fun h44 => ?_)
      · have h45 : 1 ≤ z41 ∧ z41 ≤ 1 := (vc_X12_ring_24 h44 h43)
        refine sv_aload_n (pc := 64) dX11_judge_64 rfl rfl ?_
        refine gf_X11_3 (pc := 65) dX11_judge_65 wF_X11_26 (A_0 hw) hT ?_
        refine gf_X10_4 (pc := 68) dX11_judge_68 wF_X11_122 (A_6 hw) hT ?_
        refine mr_iload (pc := 71) (z := z38) dX11_judge_71 rfl ?_
        refine la_11 (pc := 73) dX11_judge_73 (A_11 hw) hT (rIx (n := 20) h40 rfl) (vc_X10_firstWrongStep_5 h37.2.1 h39 h40) fun b46 q47 A48 => ?_
        have H49 : μ b46 0 = p2 ∨ μ b46 1 = p2 := tieEnd (h37.2.2.1) (vc_X11_judge_W_17 h37.2.1 h39 h40) q47
        refine mr_astore (pc := 74) (lv' := [(5, .ref b46), (4, iv z38), (0, .ref 0), (1, iv p1), (2, iv p2), (3, iv p3)]) dX11_judge_74 (by decide) rfl ?_
        refine sv_aload_n (pc := 76) dX11_judge_76 rfl rfl ?_
        refine gf_X11_4 (pc := 77) dX11_judge_77 wF_X11_35 (A_0 hw) hT ?_
        refine mr_iload_n (pc := 80) (z := p1) dX11_judge_80 rfl rfl ?_
        refine sv_aload_n (pc := 81) dX11_judge_81 rfl rfl ?_
        refine gf_X11_2 (pc := 82) dX11_judge_82 wF_X11_19 (A_0 hw) hT ?_
        refine sv_aload (pc := 85) dX11_judge_85 rfl ?_
        refine sv_aload (pc := 87) dX11_judge_87 rfl ?_
        refine mr_iload_n (pc := 89) (z := p2) dX11_judge_89 rfl rfl ?_
        refine mr_cVP (pc := 90) (c_X9_sideOf_We hw hT A48 (rW (c := (-2147483648)) (d := 2147483647) h23 rfl) H49 (((((h37.2.2.2.1 h37.1).1 h39) z41 q42 h43).1 h44) b46 q47 A48)) (gOk _ _ _ _ _) dX11_judge_90 (tX9_sideOf _ _ _ _ _) ⟨wV_X9_sideOf, wL_X9_sideOf⟩ wM_X11_249 (gCX9 _ _ _ _ _) rfl A48 rfl ⟨le_t rfl, le_t rfl⟩ ⟨le_t rfl, le_t rfl⟩ rfl (le_t rfl) fun z54 h53 => ?_
        refine mr_cVI (pc := 93) (c_X1_lets_W hw hT (rW (c := (-2147483648)) (d := 2147483647) h8 rfl) (A_3 hw) A48 h53.1 hIPC (h53.2.1 h53.1)) (gOk _ _ _ _ _) dX11_judge_93 (tX1_lets _ _ _ _ _) ⟨wV_X1_lets, wL_X1_lets⟩ wM_X11_252 (gCX1 _ _ _ _ _) rfl (A_21 hw) rfl ⟨le_t rfl, le_t rfl⟩ ⟨le_t rfl, le_t rfl⟩ rfl (le_t rfl) fun z59 μ55 T56 F57 h58 => ?_
        refine mr_if_eq (pc := 96) (tgt := 103) dX11_judge_96 (by decide) (r32 h58.1 rfl) (fun h62 => ?_) (fun h62 => ?_)
        · have h63 : 0 ≤ z59 ∧ z59 ≤ 0 := (vc_X12_ring_22 h62 h58.1)
          refine mr_iconst (pc := 103) (z := 0) dX11_judge_103 ?_
          exact mr_iret dX11_judge_104 rfl (le_t rfl) (le_t rfl) T56 (mF.call mF.refl F57 rfl) ⟨(rW (c := (-2147483648)) (d := 2147483647) (rR (x := 0)) rfl), (((h58.2.1 T56 F57) h58.1).1 h62), trivial⟩
        have h64 : 1 ≤ z59 ∧ z59 ≤ 1 := (vc_X12_ring_24 h62 h58.1)
        refine mr_iconst (pc := 99) (z := 1) dX11_judge_99 ?_
        refine sv_goto (pc := 100) (tgt := 104) dX11_judge_100 (by decide) ?_
        exact mr_iret dX11_judge_104 rfl (le_t rfl) (le_t rfl) T56 (mF.call mF.refl F57 rfl) ⟨(rW (c := (-2147483648)) (d := 2147483647) (rR (x := 1)) rfl), (((h58.2.1 T56 F57) h58.1).2 h62), trivial⟩
      have h65 : 0 ≤ z41 ∧ z41 ≤ 0 := (vc_X12_ring_22 h44 h43)
      refine mr_bipush (pc := 61) (z := (-2)) dX11_judge_61 (by decide) ?_
      exact mr_iret dX11_judge_63 rfl (le_t rfl) (le_t rfl) hT mF.refl ⟨(rW (c := (-2147483648)) (d := 2147483647) (rR (x := (-2))) rfl), ((((h37.2.2.2.1 h37.1).1 h39) z41 q42 h43).2 h44), trivial⟩
    have h66 : (-1) ≤ z38 ∧ z38 ≤ (-1) := (vc_X10_firstWrongStep_18 h39 h37.2.1 h37.1)
    refine mr_iconst (pc := 49) (z := (-1)) dX11_judge_49 ?_
    exact mr_iret dX11_judge_50 rfl (le_t rfl) (le_t rfl) hT mF.refl ⟨(rW (c := (-2147483648)) (d := 2147483647) (rR (x := (-1))) rfl), ((h37.2.2.2.1 h37.1).2 h39), trivial⟩
  have h67 : 0 ≤ z28 ∧ z28 ≤ 0 := (vc_X12_write_78 h29 h27.2.1 h27.2.2.1 hp3 h12.2 h27.1)
  have h68 : p3 < 0 ∨ z10 ≤ p3 := (h27.2.2.1 (vc_X11_judge_W_23 h27.2.1 h27.2.2.1 h29 h12.1 h16.2.1 h16.2.2.1 h22 h23 hp3 h12.2 h21 h67))
  refine mr_iconst (pc := 31) (z := (-1)) dX11_judge_31 ?_
  exact mr_iret dX11_judge_32 rfl (le_t rfl) (le_t rfl) hT mF.refl ⟨(rW (c := (-2147483648)) (d := 2147483647) (rR (x := (-1))) rfl), ((h27.2.2.2.1 h27.1).2 h29), trivial⟩
def WL_X12_tieOf_Wend_1 (μ : mM) (p1 : Int) (p2 : Int) (Q : Int → mM → Prop) (f_ties : Int) (rec1 : (Int) → Prop) (s : (Int)) : Prop := ∀ z409 : Int, s = (z409) → (0 ≤ z409 ∧ z409 ≤ 20) → ((f_ties ≤ z409) → Q ((-99999999) : Int) μ) ∧ ((z409 < f_ties) → ∀ z421 : Int, μ 110 ((2 * z409).toNat) = z421 → (0 ≤ z421 ∧ z421 ≤ 9) → ((¬ z421 = p1) → ((¬ z421 = p2) → rec1 ((z409 + 1))) ∧ ((z421 = p2) → ∀ z427 : Int, μ 110 (((2 * z409) + 1).toNat) = z427 → (0 ≤ z427 ∧ z427 ≤ 9) → ((¬ z427 = p1) → rec1 ((z409 + 1))) ∧ ((z427 = p1) → Q z409 μ))) ∧ ((z421 = p1) → ∀ z433 : Int, μ 110 (((2 * z409) + 1).toNat) = z433 → (0 ≤ z433 ∧ z433 ≤ 9) → ((z433 = p2) → Q z409 μ) ∧ ((¬ z433 = p2) → ((¬ z421 = p2) → rec1 ((z409 + 1))) ∧ ((z421 = p2) → ((¬ z433 = p1) → rec1 ((z409 + 1))) ∧ ((z433 = p1) → Q z409 μ)))))
def WP_X12_tieOf_Wend (w : mW) (μ : mM) (p1 : Int) (p2 : Int) (Q : Int → mM → Prop) : Prop := ∀ f_ties : Int, μ 106 6 = f_ties → (0 ≤ f_ties ∧ f_ties ≤ 20) → loopF (WL_X12_tieOf_Wend_1 μ p1 p2 Q f_ties) False 22 ((0 : Int))
theorem vc_X12_tieOf_Wend_8 {f_ties z409 : Int} (h0 : z409 < f_ties) (h1 : 1 ≤ f_ties ∧ f_ties ≤ 20) (h2 : 0 ≤ z409 ∧ z409 ≤ 19) : z409 = -99999999 ∨ (0 ≤ z409 ∧ z409 ≤ 19) := by omega
theorem vc_X12_tieOf_Wend_9 {f_ties p1 p2 z409 z421 z427 : Int} (h0 : z409 < f_ties) (h1 : ¬ z421 = p1) (h2 : z421 = p2) (h3 : z427 = p1) (h4 : 1 ≤ f_ties ∧ f_ties ≤ 20) (h5 : 0 ≤ p1 ∧ p1 ≤ 9) (h6 : 0 ≤ p2 ∧ p2 ≤ 9) (h7 : 0 ≤ z409 ∧ z409 ≤ 19) (h8 : 0 ≤ z421 ∧ z421 ≤ 9) (h9 : 0 ≤ z427 ∧ z427 ≤ 9) : z409 < f_ties ∧ ((z421 = p1 ∧ z427 = p2) ∨ (z421 = p2 ∧ z427 = p1)) := by omega
theorem vc_X12_tieOf_Wend_12 {f_ties p1 p2 z409 z421 z433 : Int} (h0 : z409 < f_ties) (h1 : z421 = p1) (h2 : z433 = p2) (h3 : 1 ≤ f_ties ∧ f_ties ≤ 20) (h4 : 0 ≤ p1 ∧ p1 ≤ 9) (h5 : 0 ≤ p2 ∧ p2 ≤ 9) (h6 : 0 ≤ z409 ∧ z409 ≤ 19) (h7 : 0 ≤ z421 ∧ z421 ≤ 9) (h8 : 0 ≤ z433 ∧ z433 ≤ 9) : z409 < f_ties ∧ ((z421 = p1 ∧ z433 = p2) ∨ (z421 = p2 ∧ z433 = p1)) := by omega
theorem vc_X12_tieOf_Wend_14 {f_ties p1 p2 z409 z421 z433 : Int} (h0 : z409 < f_ties) (h1 : z421 = p1) (h2 : ¬ z433 = p2) (h3 : z421 = p2) (h4 : z433 = p1) (h5 : 1 ≤ f_ties ∧ f_ties ≤ 20) (h6 : 0 ≤ p1 ∧ p1 ≤ 9) (h7 : 0 ≤ p2 ∧ p2 ≤ 9) (h8 : 0 ≤ z409 ∧ z409 ≤ 19) (h9 : 0 ≤ z421 ∧ z421 ≤ 9) (h10 : 0 ≤ z433 ∧ z433 ≤ 9) : z409 < f_ties ∧ ((z421 = p1 ∧ z433 = p2) ∨ (z421 = p2 ∧ z433 = p1)) := by omega
set_option maxRecDepth 4000 in
set_option maxHeartbeats 4000000 in
theorem c_X12_tieOf_Wend {l : Launch} {D : va_G} {c : Nat → ClassId} {H0 : Heap} {sa : Nat × Nat × (Nat → Int32)} {w : mW} {μ : mM} (hw : mWF w) (hT : mT w μ) {p1 : Int} (hp1 : (-2147483648) ≤ p1 ∧ p1 ≤ 2147483647) {p2 : Int} (hp2 : (-2147483648) ≤ p2 ∧ p2 ≤ 2147483647) {f_ties : Int} (q_f_ties : μ 106 6 = f_ties) {Q : Int → mM → Prop} (hQ : WP_X12_tieOf_Wend w μ p1 p2 Q) : sC (gG l D c H0 sa) mX12_tieOf 1 0 0 [.ref 106, iv p1, iv p2] (mk w μ) (qP w μ (fun z => ((-99999999) ≤ z ∧ z ≤ 19) ∧ (z = -99999999 ∨ (0 ≤ z ∧ z ≤ 19)) ∧ (z = -99999999 ∨ (z < f_ties ∧ ((μ 110 (2 * z).toNat = p1 ∧ μ 110 ((2 * z) + 1).toNat = p2) ∨ (μ 110 (2 * z).toNat = p2 ∧ μ 110 ((2 * z) + 1).toNat = p1)))) ∧ Q z μ ∧ True)) := by
  refine sC.of rfl (by decide) (le_t rfl) ?_
  have ht_f_ties : (0 ≤ f_ties ∧ f_ties ≤ 20) := by rw [← q_f_ties]; exact hT 106 106 (A_106 hw) 6
  refine mr_lvE (lv' := [(0, .ref 106), (1, iv p1), (2, iv p2)]) rfl ?_
  refine mr_iconst (pc := 0) (z := 0) dX12_tieOf_0 ?_
  refine mr_istore_n (pc := 1) (lv' := [(3, iv 0), (0, .ref 106), (1, iv p1), (2, iv p2)]) dX12_tieOf_1 rfl (by decide) rfl ?_
  have L410 : ∀ (nL410 : Nat) (z409 : Int), True → (0 ≤ z409 ∧ z409 ≤ 20) → (21 - z409) < (nL410 : Int) → loopF (WL_X12_tieOf_Wend_1 μ p1 p2 Q f_ties) False nL410 (z409) → sV (gG l D c H0 sa) mX12_tieOf (sRm 1 0 0) (sZ (gG l D c H0 sa) 0 0 (qP w μ (fun z => ((-99999999) ≤ z ∧ z ≤ 19) ∧ (z = -99999999 ∨ (0 ≤ z ∧ z ≤ 19)) ∧ (z = -99999999 ∨ (z < f_ties ∧ ((μ 110 (2 * z).toNat = p1 ∧ μ 110 ((2 * z) + 1).toNat = p2) ∨ (μ 110 (2 * z).toNat = p2 ∧ μ 110 ((2 * z) + 1).toNat = p1)))) ∧ Q z μ ∧ True))) 2 [(0, .ref 106), (1, iv p1), (2, iv p2), (3, iv z409)] [] (mk w μ) 0 0 := by
    intro nL410
    induction nL410 with
    | zero => intro z409 _ h411 h415 W416; exact ((vc_X12_tieOf_1 h415 h411)).elim
    | succ nL410 ih417 =>
      intro z409 _ h411 h415 W416
      refine mr_iload_n (pc := 2) (z := z409) dX12_tieOf_2 rfl rfl ?_
      refine sv_aload_n (pc := 3) dX12_tieOf_3 rfl rfl ?_
      refine gk_X12_6 (pc := 4) dX12_tieOf_4 wF_X12_37 (A_106 hw) q_f_ties ?_
      refine mr_icmp_ge (pc := 7) (tgt := 70) dX12_tieOf_7 (by decide) (r32 h411 rfl) (r32 ht_f_ties rfl) (fun h418 => ?_) (fun h418 => ?_)
      · refine mr_ldc (pc := 70) (z := (-99999999)) dX12_tieOf_70 wG_X12_29 (by decide) ?_
        exact mr_iretP dX12_tieOf_72 rfl (le_t rfl) (le_t rfl) ⟨(rW (c := (-99999999)) (d := 19) (rR (x := (-99999999))) rfl), vc_X12_tieOf_2, (Or.inl rfl), ((W416 z409 rfl h411).1 h418), trivial⟩
      have h419 : 0 ≤ z409 ∧ z409 ≤ 19 := (vc_X3_putAttributes_10 h418 ht_f_ties h411)
      have h420 : 1 ≤ f_ties ∧ f_ties ≤ 20 := (vc_X3_putAttributes_11 h418 ht_f_ties h419)
      refine sv_aload_n (pc := 10) dX12_tieOf_10 rfl rfl ?_
      refine gf_X12_7 (pc := 11) dX12_tieOf_11 wF_X12_40 (A_106 hw) hT ?_
      refine mr_iconst (pc := 14) (z := 2) dX12_tieOf_14 ?_
      refine mr_iload_n (pc := 15) (z := z409) dX12_tieOf_15 rfl rfl ?_
      refine mr_imul (pc := 16) (x := 2) (y := z409) dX12_tieOf_16 ?_
      refine la_110 (pc := 17) dX12_tieOf_17 (A_110 hw) hT (rIx (n := 40) (rMulL (n := 2) (e := 0) (f := 38) h419 rfl) rfl) fun z421 q422 h423 => ?_
      refine mr_iload_n (pc := 18) (z := p1) dX12_tieOf_18 rfl rfl ?_
      refine mr_icmp_ne (pc := 19) (tgt := 36) dX12_tieOf_19 (by decide) (r32 h423 rfl) hp1 (fun h424 => ?_) (fun h424 => ?_)
      · refine sv_aload_n (pc := 36) dX12_tieOf_36 rfl rfl ?_
        refine gf_X12_7 (pc := 37) dX12_tieOf_37 wF_X12_40 (A_106 hw) hT ?_
        refine mr_iconst (pc := 40) (z := 2) dX12_tieOf_40 ?_
        refine mr_iload_n (pc := 41) (z := z409) dX12_tieOf_41 rfl rfl ?_
        refine mr_imul (pc := 42) (x := 2) (y := z409) dX12_tieOf_42 ?_
        refine lk_110 (pc := 43) dX12_tieOf_43 (A_110 hw) (rIx (n := 40) (rMulL (n := 2) (e := 0) (f := 38) h419 rfl) rfl) q422 ?_
        refine mr_iload_n (pc := 44) (z := p2) dX12_tieOf_44 rfl rfl ?_
        refine mr_icmp_ne (pc := 45) (tgt := 64) dX12_tieOf_45 (by decide) (r32 h423 rfl) hp2 (fun h425 => ?_) (fun h425 => ?_)
        · refine mr_iinc (pc := 64) (lv' := [(3, iv (z409 + 1)), (0, .ref 106), (1, iv p1), (2, iv p2)]) dX12_tieOf_64 rfl (by decide) rfl ?_
          refine sv_goto (pc := 67) (tgt := 2) dX12_tieOf_67 (by decide) ?_
          refine mr_lvS (lv' := [(0, .ref 106), (1, iv p1), (2, iv p2), (3, iv (z409 + 1))]) (List.forall_mem_cons.mpr ⟨rfl, List.forall_mem_cons.mpr ⟨rfl, List.forall_mem_cons.mpr ⟨rfl, List.forall_mem_cons.mpr ⟨rfl, fun _ h => absurd h List.not_mem_nil⟩⟩⟩⟩) ?_
          exact ih417 (z409 + 1) trivial (rW (c := 0) (d := 20) (rAdd (e := 1) (f := 20) h419 (rR (x := 1)) rfl) rfl) (vc_X3_putAttributes_12 (nS h415) h418 h420 h419) (((((W416 z409 rfl h411).2 h418) z421 q422 h423).1 h424).1 h425)
        have h426 : 0 ≤ p2 ∧ p2 ≤ 9 := (vc_X12_tieOf_6 h425 h424 hp1 hp2 h423)
        refine sv_aload_n (pc := 48) dX12_tieOf_48 rfl rfl ?_
        refine gf_X12_7 (pc := 49) dX12_tieOf_49 wF_X12_40 (A_106 hw) hT ?_
        refine mr_iconst (pc := 52) (z := 2) dX12_tieOf_52 ?_
        refine mr_iload_n (pc := 53) (z := z409) dX12_tieOf_53 rfl rfl ?_
        refine mr_imul (pc := 54) (x := 2) (y := z409) dX12_tieOf_54 ?_
        refine mr_iconst (pc := 55) (z := 1) dX12_tieOf_55 ?_
        refine mr_iadd (pc := 56) (x := (2 * z409)) (y := 1) dX12_tieOf_56 ?_
        refine la_110 (pc := 57) dX12_tieOf_57 (A_110 hw) hT (rIx (n := 40) (rAdd (e := 1) (f := 39) (rMulL (n := 2) (e := 0) (f := 38) h419 rfl) (rR (x := 1)) rfl) rfl) fun z427 q428 h429 => ?_
        refine mr_iload_n (pc := 58) (z := p1) dX12_tieOf_58 rfl rfl ?_
        refine mr_icmp_ne (pc := 59) (tgt := 64) dX12_tieOf_59 (by decide) (r32 h429 rfl) hp1 (fun h430 => ?_) (fun h430 => ?_)
        · refine mr_iinc (pc := 64) (lv' := [(3, iv (z409 + 1)), (0, .ref 106), (1, iv p1), (2, iv p2)]) dX12_tieOf_64 rfl (by decide) rfl ?_
          refine sv_goto (pc := 67) (tgt := 2) dX12_tieOf_67 (by decide) ?_
          refine mr_lvS (lv' := [(0, .ref 106), (1, iv p1), (2, iv p2), (3, iv (z409 + 1))]) (List.forall_mem_cons.mpr ⟨rfl, List.forall_mem_cons.mpr ⟨rfl, List.forall_mem_cons.mpr ⟨rfl, List.forall_mem_cons.mpr ⟨rfl, fun _ h => absurd h List.not_mem_nil⟩⟩⟩⟩) ?_
          exact ih417 (z409 + 1) trivial (rW (c := 0) (d := 20) (rAdd (e := 1) (f := 20) h419 (rR (x := 1)) rfl) rfl) (vc_X3_putAttributes_12 (nS h415) h418 h420 h419) (((((((W416 z409 rfl h411).2 h418) z421 q422 h423).1 h424).2 h425) z427 q428 h429).1 h430)
        have h431 : 0 ≤ p1 ∧ p1 ≤ 9 := (vc_X12_tieOf_7 h430 h424 hp1 h423 h429)
        refine mr_iload_n (pc := 62) (z := z409) dX12_tieOf_62 rfl rfl ?_
        exact mr_iretP dX12_tieOf_63 rfl (le_t rfl) (le_t rfl) ⟨(rW (c := (-99999999)) (d := 19) h419 rfl), (vc_X12_tieOf_Wend_8 h418 h420 h419), (Or.inr (by rw [q422, q428]; exact (vc_X12_tieOf_Wend_9 h418 h424 h425 h430 h420 h431 h426 h419 h423 h429))), (((((((W416 z409 rfl h411).2 h418) z421 q422 h423).1 h424).2 h425) z427 q428 h429).2 h430), trivial⟩
      have h432 : 0 ≤ p1 ∧ p1 ≤ 9 := (vc_X12_tieOf_9 h424 hp1 h423)
      refine sv_aload_n (pc := 22) dX12_tieOf_22 rfl rfl ?_
      refine gf_X12_7 (pc := 23) dX12_tieOf_23 wF_X12_40 (A_106 hw) hT ?_
      refine mr_iconst (pc := 26) (z := 2) dX12_tieOf_26 ?_
      refine mr_iload_n (pc := 27) (z := z409) dX12_tieOf_27 rfl rfl ?_
      refine mr_imul (pc := 28) (x := 2) (y := z409) dX12_tieOf_28 ?_
      refine mr_iconst (pc := 29) (z := 1) dX12_tieOf_29 ?_
      refine mr_iadd (pc := 30) (x := (2 * z409)) (y := 1) dX12_tieOf_30 ?_
      refine la_110 (pc := 31) dX12_tieOf_31 (A_110 hw) hT (rIx (n := 40) (rAdd (e := 1) (f := 39) (rMulL (n := 2) (e := 0) (f := 38) h419 rfl) (rR (x := 1)) rfl) rfl) fun z433 q434 h435 => ?_
      refine mr_iload_n (pc := 32) (z := p2) dX12_tieOf_32 rfl rfl ?_
      refine mr_icmp_eq (pc := 33) (tgt := 62) dX12_tieOf_33 (by decide) (r32 h435 rfl) hp2 (fun h436 => ?_) (fun h436 => ?_)
      · have h437 : 0 ≤ p2 ∧ p2 ≤ 9 := (vc_X12_tieOf_9 h436 hp2 h435)
        refine mr_iload_n (pc := 62) (z := z409) dX12_tieOf_62 rfl rfl ?_
        exact mr_iretP dX12_tieOf_63 rfl (le_t rfl) (le_t rfl) ⟨(rW (c := (-99999999)) (d := 19) h419 rfl), (vc_X12_tieOf_Wend_8 h418 h420 h419), (Or.inr (by rw [q422, q434]; exact (vc_X12_tieOf_Wend_12 h418 h424 h436 h420 h432 h437 h419 h423 h435))), ((((((W416 z409 rfl h411).2 h418) z421 q422 h423).2 h424) z433 q434 h435).1 h436), trivial⟩
      refine sv_aload_n (pc := 36) dX12_tieOf_36 rfl rfl ?_
      refine gf_X12_7 (pc := 37) dX12_tieOf_37 wF_X12_40 (A_106 hw) hT ?_
      refine mr_iconst (pc := 40) (z := 2) dX12_tieOf_40 ?_
      refine mr_iload_n (pc := 41) (z := z409) dX12_tieOf_41 rfl rfl ?_
      refine mr_imul (pc := 42) (x := 2) (y := z409) dX12_tieOf_42 ?_
      refine lk_110 (pc := 43) dX12_tieOf_43 (A_110 hw) (rIx (n := 40) (rMulL (n := 2) (e := 0) (f := 38) h419 rfl) rfl) q422 ?_
      refine mr_iload_n (pc := 44) (z := p2) dX12_tieOf_44 rfl rfl ?_
      refine mr_icmp_ne (pc := 45) (tgt := 64) dX12_tieOf_45 (by decide) (r32 h423 rfl) hp2 (fun h438 => ?_) (fun h438 => ?_)
      · refine mr_iinc (pc := 64) (lv' := [(3, iv (z409 + 1)), (0, .ref 106), (1, iv p1), (2, iv p2)]) dX12_tieOf_64 rfl (by decide) rfl ?_
        refine sv_goto (pc := 67) (tgt := 2) dX12_tieOf_67 (by decide) ?_
        refine mr_lvS (lv' := [(0, .ref 106), (1, iv p1), (2, iv p2), (3, iv (z409 + 1))]) (List.forall_mem_cons.mpr ⟨rfl, List.forall_mem_cons.mpr ⟨rfl, List.forall_mem_cons.mpr ⟨rfl, List.forall_mem_cons.mpr ⟨rfl, fun _ h => absurd h List.not_mem_nil⟩⟩⟩⟩) ?_
        exact ih417 (z409 + 1) trivial (rW (c := 0) (d := 20) (rAdd (e := 1) (f := 20) h419 (rR (x := 1)) rfl) rfl) (vc_X3_putAttributes_12 (nS h415) h418 h420 h419) (((((((W416 z409 rfl h411).2 h418) z421 q422 h423).2 h424) z433 q434 h435).2 h436).1 h438)
      have h439 : 0 ≤ p2 ∧ p2 ≤ 9 := (vc_X12_tieOf_11 h438 h424 h436 h432 hp2 h423 h435)
      refine sv_aload_n (pc := 48) dX12_tieOf_48 rfl rfl ?_
      refine gf_X12_7 (pc := 49) dX12_tieOf_49 wF_X12_40 (A_106 hw) hT ?_
      refine mr_iconst (pc := 52) (z := 2) dX12_tieOf_52 ?_
      refine mr_iload_n (pc := 53) (z := z409) dX12_tieOf_53 rfl rfl ?_
      refine mr_imul (pc := 54) (x := 2) (y := z409) dX12_tieOf_54 ?_
      refine mr_iconst (pc := 55) (z := 1) dX12_tieOf_55 ?_
      refine mr_iadd (pc := 56) (x := (2 * z409)) (y := 1) dX12_tieOf_56 ?_
      refine lk_110 (pc := 57) dX12_tieOf_57 (A_110 hw) (rIx (n := 40) (rAdd (e := 1) (f := 39) (rMulL (n := 2) (e := 0) (f := 38) h419 rfl) (rR (x := 1)) rfl) rfl) q434 ?_
      refine mr_iload_n (pc := 58) (z := p1) dX12_tieOf_58 rfl rfl ?_
      refine mr_icmp_ne (pc := 59) (tgt := 64) dX12_tieOf_59 (by decide) (r32 h435 rfl) (r32 h432 rfl) (fun h440 => ?_) (fun h440 => ?_)
      · refine mr_iinc (pc := 64) (lv' := [(3, iv (z409 + 1)), (0, .ref 106), (1, iv p1), (2, iv p2)]) dX12_tieOf_64 rfl (by decide) rfl ?_
        refine sv_goto (pc := 67) (tgt := 2) dX12_tieOf_67 (by decide) ?_
        refine mr_lvS (lv' := [(0, .ref 106), (1, iv p1), (2, iv p2), (3, iv (z409 + 1))]) (List.forall_mem_cons.mpr ⟨rfl, List.forall_mem_cons.mpr ⟨rfl, List.forall_mem_cons.mpr ⟨rfl, List.forall_mem_cons.mpr ⟨rfl, fun _ h => absurd h List.not_mem_nil⟩⟩⟩⟩) ?_
        exact ih417 (z409 + 1) trivial (rW (c := 0) (d := 20) (rAdd (e := 1) (f := 20) h419 (rR (x := 1)) rfl) rfl) (vc_X3_putAttributes_12 (nS h415) h418 h420 h419) ((((((((W416 z409 rfl h411).2 h418) z421 q422 h423).2 h424) z433 q434 h435).2 h436).2 h438).1 h440)
      refine mr_iload_n (pc := 62) (z := z409) dX12_tieOf_62 rfl rfl ?_
      exact mr_iretP dX12_tieOf_63 rfl (le_t rfl) (le_t rfl) ⟨(rW (c := (-99999999)) (d := 19) h419 rfl), (vc_X12_tieOf_Wend_8 h418 h420 h419), (Or.inr (by rw [q422, q434]; exact (vc_X12_tieOf_Wend_14 h418 h424 h436 h438 h440 h420 h432 h439 h419 h423 h435))), ((((((((W416 z409 rfl h411).2 h418) z421 q422 h423).2 h424) z433 q434 h435).2 h436).2 h438).2 h440), trivial⟩
  refine mr_lvS (lv' := [(0, .ref 106), (1, iv p1), (2, iv p2), (3, iv 0)]) (List.forall_mem_cons.mpr ⟨rfl, List.forall_mem_cons.mpr ⟨rfl, List.forall_mem_cons.mpr ⟨rfl, List.forall_mem_cons.mpr ⟨rfl, fun _ h => absurd h List.not_mem_nil⟩⟩⟩⟩) ?_
  exact L410 22 0 trivial (rW (c := 0) (d := 20) (rR (x := 0)) rfl) vc_X12_tieOf_12 (hQ f_ties q_f_ties ht_f_ties)
def WP_X12_judge_W (w : mW) (μ : mM) (p1 : Int) (p2 : Int) (p3 : Int) (Q : Int → mM → Prop) : Prop := ∀ z1 : Int, μ 106 39 = z1 → (0 ≤ z1 ∧ z1 ≤ 12) → WP_X12_in_W w μ p1 (0) (z1 - 1) (fun z8 _ => (0 ≤ z8 ∧ z8 ≤ 1) → ((z8 = 0) → Q ((-1) : Int) μ) ∧ ((¬ z8 = 0) → ∀ z15 : Int, μ 106 5 = z15 → (0 ≤ z15 ∧ z15 ≤ 10) → WP_X12_isDomain_W w μ p2 (fun z22 _ => (0 ≤ z22 ∧ z22 ≤ 1) → ((z22 = 0) → Q ((-1) : Int) μ) ∧ ((¬ z22 = 0) → WP_X12_isDomain_W w μ p3 (fun z33 _ => (0 ≤ z33 ∧ z33 ≤ 1) → ((z33 = 0) → Q ((-1) : Int) μ) ∧ ((¬ z33 = 0) → ∀ z41 : Int, μ 106 6 = z41 → (0 ≤ z41 ∧ z41 ≤ 20) → WP_X12_tieOf_Wend w μ p2 p3 (fun z48 _ => ((-99999999) ≤ z48 ∧ z48 ≤ 19) → ((¬ z48 = (-99999999)) → ∀ z51 : Int, μ 110 ((2 * z48).toNat) = z51 → (0 ≤ z51 ∧ z51 ≤ 9) → ∀ z54 : Int, μ 110 (((2 * z48) + 1).toNat) = z54 → (0 ≤ z54 ∧ z54 ≤ 9) → ∀ z58 : Int, μ 106 70 = z58 → (0 ≤ z58 ∧ z58 ≤ 1) → ∀ z61 : Int, μ 126 ((0 : Int).toNat) = z61 → ((-2147483648 ≤ z61 ∧ z61 ≤ 2147483647) ∧ ((0 : Int) % 40 = 0 → -1 ≤ z61 ∧ z61 ≤ 9) ∧ ((0 : Int) % 40 = 4 → 0 ≤ z61 ∧ z61 ≤ 20) ∧ ((0 : Int) % 40 = 5 → 0 ≤ z61 ∧ z61 ≤ 8)) → ((¬ z58 = 0) → WP_X12_through_W w μ p1 (0) p2 p3 (z48) (fun z72 μ68 => mT w μ68 → mF [106026, 106027, 106028, 106029, 106030, 106031, 126999, 151999, 152999, 153999] w μ μ68 → (0 ≤ z72 ∧ z72 ≤ 1) → ∀ z73 : Int, μ68 126 (((40 * 0) : Int).toNat) = z73 → ((z72 = 0) → Q (0 : Int) μ68) ∧ ((¬ z72 = 0) → Q (1 : Int) μ68))) ∧ ((z58 = 0) → Q ((-2) : Int) μ)) ∧ ((z48 = (-99999999)) → Q ((-1) : Int) μ))))))))
theorem vc_X12_judge_W_12 {p2 p3 z15 z22 z33 : Int} (h0 : (z33 = 1 → 0 ≤ p3 ∧ p3 < z15)) (h1 : (z33 = 0 → p3 < 0 ∨ z15 ≤ p3)) (h2 : z33 = 0) (h3 : (z22 = 1 → 0 ≤ p2 ∧ p2 < z15)) (h4 : (z22 = 0 → p2 < 0 ∨ z15 ≤ p2)) (h5 : 0 ≤ p2 ∧ p2 < z15) (h6 : 0 ≤ p2 ∧ p2 ≤ 9) (h7 : (-2147483648) ≤ p3 ∧ p3 ≤ 2147483647) (h8 : 0 ≤ z15 ∧ z15 ≤ 10) (h9 : 1 ≤ z22 ∧ z22 ≤ 1) (h10 : 0 ≤ z33 ∧ z33 ≤ 0) : z33 = 0 := by omega
theorem vc_X12_judge_W_14 {p2 p3 z15 z22 z33 : Int} (h0 : (z33 = 1 → 0 ≤ p3 ∧ p3 < z15)) (h1 : (z33 = 0 → p3 < 0 ∨ z15 ≤ p3)) (h2 : ¬ z33 = 0) (h3 : (z22 = 1 → 0 ≤ p2 ∧ p2 < z15)) (h4 : (z22 = 0 → p2 < 0 ∨ z15 ≤ p2)) (h5 : 0 ≤ p2 ∧ p2 < z15) (h6 : 0 ≤ p2 ∧ p2 ≤ 9) (h7 : (-2147483648) ≤ p3 ∧ p3 ≤ 2147483647) (h8 : 0 ≤ z15 ∧ z15 ≤ 10) (h9 : 1 ≤ z22 ∧ z22 ≤ 1) (h10 : 1 ≤ z33 ∧ z33 ≤ 1) : z33 = 1 := by omega
theorem vc_X12_judge_W_15 {p2 p3 z15 z22 z33 : Int} (h0 : 0 ≤ p3 ∧ p3 < z15) (h1 : (z22 = 1 → 0 ≤ p2 ∧ p2 < z15)) (h2 : (z22 = 0 → p2 < 0 ∨ z15 ≤ p2)) (h3 : 0 ≤ p2 ∧ p2 < z15) (h4 : (z33 = 1 → 0 ≤ p3 ∧ p3 < z15)) (h5 : (z33 = 0 → p3 < 0 ∨ z15 ≤ p3)) (h6 : 0 ≤ p2 ∧ p2 ≤ 9) (h7 : (-2147483648) ≤ p3 ∧ p3 ≤ 2147483647) (h8 : 0 ≤ z15 ∧ z15 ≤ 10) (h9 : 1 ≤ z22 ∧ z22 ≤ 1) (h10 : 1 ≤ z33 ∧ z33 ≤ 1) : 0 ≤ p3 ∧ p3 ≤ 9 := by omega
theorem vc_X12_judge_W_16 {p2 p3 z15 z22 z33 : Int} (h0 : 0 ≤ p3 ∧ p3 < z15) (h1 : (z22 = 1 → 0 ≤ p2 ∧ p2 < z15)) (h2 : (z22 = 0 → p2 < 0 ∨ z15 ≤ p2)) (h3 : 0 ≤ p2 ∧ p2 < z15) (h4 : (z33 = 1 → 0 ≤ p3 ∧ p3 < z15)) (h5 : (z33 = 0 → p3 < 0 ∨ z15 ≤ p3)) (h6 : 0 ≤ p2 ∧ p2 ≤ 9) (h7 : 0 ≤ p3 ∧ p3 ≤ 9) (h8 : 0 ≤ z15 ∧ z15 ≤ 10) (h9 : 1 ≤ z22 ∧ z22 ≤ 1) (h10 : 1 ≤ z33 ∧ z33 ≤ 1) : 1 ≤ z15 ∧ z15 ≤ 10 := by omega
theorem vc_X12_judge_W_20  : ((0 : Int) : Int) % (40 : Int) = (0 : Int) := by omega
theorem vc_X12_judge_W_21 {z58 z61 : Int} (h0 : ¬ z58 = 0) (h1 : z58 = 0 ∨ 0 ≤ z61) (h2 : 0 ≤ z58 ∧ z58 ≤ 1) (h3 : (-1) ≤ z61 ∧ z61 ≤ 9) : 1 ≤ z58 ∧ z58 ≤ 1 := by omega
theorem vc_X12_judge_W_22  : ((40 : Int) * (0 : Int)) = (0 : Int) := by omega
theorem vc_X12_judge_W_23 {p2 p3 z15 z22 z33 z41 z48 z51 z54 : Int} (h0 : z48 = -99999999 ∨ (0 ≤ z48 ∧ z48 ≤ 19)) (h1 : ¬ z48 = (-99999999)) (h2 : z48 < z41 ∧ ((z51 = p2 ∧ z54 = p3) ∨ (z51 = p3 ∧ z54 = p2))) (h3 : (z22 = 1 → 0 ≤ p2 ∧ p2 < z15)) (h4 : (z22 = 0 → p2 < 0 ∨ z15 ≤ p2)) (h5 : 0 ≤ p2 ∧ p2 < z15) (h6 : (z33 = 1 → 0 ≤ p3 ∧ p3 < z15)) (h7 : (z33 = 0 → p3 < 0 ∨ z15 ≤ p3)) (h8 : 0 ≤ p3 ∧ p3 < z15) (h9 : 0 ≤ p2 ∧ p2 ≤ 9) (h10 : 0 ≤ p3 ∧ p3 ≤ 9) (h11 : 1 ≤ z15 ∧ z15 ≤ 10) (h12 : 1 ≤ z22 ∧ z22 ≤ 1) (h13 : 1 ≤ z33 ∧ z33 ≤ 1) (h14 : 0 ≤ z41 ∧ z41 ≤ 20) (h15 : 0 ≤ z48 ∧ z48 ≤ 19) (h16 : 0 ≤ z51 ∧ z51 ≤ 9) (h17 : 0 ≤ z54 ∧ z54 ≤ 9) : z48 < z41 := by omega
theorem vc_X12_judge_W_24 {p2 p3 z15 z22 z33 z41 z48 z51 z54 : Int} (h0 : (z22 = 1 → 0 ≤ p2 ∧ p2 < z15)) (h1 : (z22 = 0 → p2 < 0 ∨ z15 ≤ p2)) (h2 : 0 ≤ p2 ∧ p2 < z15) (h3 : (z33 = 1 → 0 ≤ p3 ∧ p3 < z15)) (h4 : (z33 = 0 → p3 < 0 ∨ z15 ≤ p3)) (h5 : 0 ≤ p3 ∧ p3 < z15) (h6 : z48 < z41 ∧ ((z51 = p2 ∧ z54 = p3) ∨ (z51 = p3 ∧ z54 = p2))) (h7 : ¬ z22 = 0) (h8 : ¬ z33 = 0) (h9 : z48 = -99999999 ∨ (0 ≤ z48 ∧ z48 ≤ 19)) (h10 : ¬ z48 = (-99999999)) (h11 : 0 ≤ p2 ∧ p2 ≤ 9) (h12 : 0 ≤ p3 ∧ p3 ≤ 9) (h13 : 1 ≤ z15 ∧ z15 ≤ 10) (h14 : 1 ≤ z22 ∧ z22 ≤ 1) (h15 : 1 ≤ z33 ∧ z33 ≤ 1) (h16 : 0 ≤ z41 ∧ z41 ≤ 20) (h17 : 0 ≤ z48 ∧ z48 ≤ 19) (h18 : 0 ≤ z51 ∧ z51 ≤ 9) (h19 : 0 ≤ z54 ∧ z54 ≤ 9) : (z51 = p2 ∧ z54 = p3) ∨ (z51 = p3 ∧ z54 = p2) := by omega
theorem vc_X12_judge_W_25 {z58 z61 : Int} (h0 : z58 = 0 ∨ 0 ≤ z61) (h1 : ¬ z58 = 0) (h2 : 1 ≤ z58 ∧ z58 ≤ 1) (h3 : (-1) ≤ z61 ∧ z61 ≤ 9) : 0 ≤ z61 := by omega
theorem vc_X12_judge_W_26 {p1 z1 z8 : Int} (h0 : (z8 = 1 → (0 : Int) ≤ p1 ∧ p1 ≤ (z1 - 1))) (h1 : (z8 = 0 → p1 < (0 : Int) ∨ (z1 - 1) < p1)) (h2 : (0 : Int) ≤ p1 ∧ p1 ≤ (z1 - 1)) (h3 : ¬ z8 = 0) (h4 : 0 ≤ p1 ∧ p1 ≤ 2147483647) (h5 : 0 ≤ z1 ∧ z1 ≤ 12) (h6 : 1 ≤ z8 ∧ z8 ≤ 1) : p1 = -99999999 ∨ (0 ≤ p1 ∧ p1 < z1) := by omega
theorem vc_X12_judge_W_30  : (((40 : Int) * (0 : Int)) + (1 : Int)) ≤ (((40 : Int) * (0 : Int)) + (1 : Int)) ∧ (((40 : Int) * (0 : Int)) + (40 : Int)) ≤ (((40 : Int) * (0 : Int)) + (40 : Int)) := by omega
theorem vc_X12_judge_W_31  : ((1 : Int) ≤ ((((40 : Int) * (0 : Int)) + (1 : Int)) : Int) ∧ ((((40 : Int) * (0 : Int)) + (40 : Int)) : Int) ≤ (1200 : Int)) ∨ (5200 : Int) ≤ ((((40 : Int) * (0 : Int)) + (1 : Int)) : Int) := by omega
theorem vc_X12_judge_W_33 {z58 z61 : Int} (h0 : z58 = 0) (h1 : z58 = 0 ∨ 0 ≤ z61) (h2 : 0 ≤ z58 ∧ z58 ≤ 1) (h3 : (-1) ≤ z61 ∧ z61 ≤ 9) : 0 ≤ z58 ∧ z58 ≤ 0 := by omega
set_option maxRecDepth 4000 in
set_option maxHeartbeats 4000000 in
theorem c_X12_judge_W {l : Launch} {D : va_G} {c : Nat → ClassId} {H0 : Heap} {sa : Nat × Nat × (Nat → Int32)} {w : mW} {μ : mM} (hw : mWF w) (hT : mT w μ) {p1 : Int} (hp1 : (-2147483648) ≤ p1 ∧ p1 ≤ 2147483647) {p2 : Int} (hp2 : (-2147483648) ≤ p2 ∧ p2 ≤ 2147483647) {p3 : Int} (hp3 : (-2147483648) ≤ p3 ∧ p3 ≤ 2147483647) (hIG1 : G1 μ) (hIEV : EV μ) (hIPK : PK μ) {Q : Int → mM → Prop} (hQ : WP_X12_judge_W w μ p1 p2 p3 Q) : sC (gG l D c H0 sa) mX12_judge 7 0 0 [.ref 106, iv p1, iv p2, iv p3] (mk w μ) (qI w [106026, 106027, 106028, 106029, 106030, 106031, 126999, 151999, 152999, 153999] μ (fun z μ1 => ((-2147483648) ≤ z ∧ z ≤ 2147483647) ∧ G1 μ1 ∧ EV μ1 ∧ Q z μ1 ∧ True)) := by
  refine sC.of rfl (by decide) (le_t rfl) ?_
  refine mr_lvE (lv' := [(0, .ref 106), (1, iv p1), (2, iv p2), (3, iv p3)]) rfl ?_
  refine mr_iload_n (pc := 0) (z := p1) dX12_judge_0 rfl rfl ?_
  refine mr_iconst (pc := 1) (z := 0) dX12_judge_1 ?_
  refine sv_aload_n (pc := 2) dX12_judge_2 rfl rfl ?_
  refine gf_X12_39 (pc := 3) dX12_judge_3 wF_X12_355 (A_106 hw) hT fun z1 q2 h3 => ?_
  refine mr_iconst (pc := 6) (z := 1) dX12_judge_6 ?_
  refine mr_isub (pc := 7) (x := z1) (y := 1) dX12_judge_7 ?_
  refine mr_cSP (pc := 8) (c_X12_in_W hw hT hp1 (rW (c := (-2147483648)) (d := 2147483647) (rR (x := 0)) rfl) (rW (c := (-2147483648)) (d := 2147483647) (rSub (e := (-1)) (f := 11) h3 (rR (x := 1)) rfl) rfl) (hQ z1 q2 h3)) (gOk _ _ _ _ _) dX12_judge_8 (tX12_in _ _ _ _ _) wS_X12_in wM_X12_18 ⟨le_t rfl, le_t rfl⟩ ⟨le_t rfl, le_t rfl⟩ rfl (le_t rfl) fun z8 h7 => ?_
  refine mr_if_eq (pc := 11) (tgt := 41) dX12_judge_11 (by decide) (r32 h7.1 rfl) (fun h9 => ?_) (fun h9 => ?_)
  · have h10 : 0 ≤ z8 ∧ z8 ≤ 0 := (vc_X12_led_1 h9 h7.2.1 h7.2.2.1 hp1 h3 h7.1)
    have h11 : p1 < (0 : Int) ∨ (z1 - 1) < p1 := (h7.2.2.1 (vc_X12_led_2 h7.2.1 h7.2.2.1 h9 hp1 h3 h10))
    refine mr_iconst (pc := 41) (z := (-1)) dX12_judge_41 ?_
    exact mr_iret dX12_judge_42 rfl (le_t rfl) (le_t rfl) hT mF.refl ⟨(rW (c := (-2147483648)) (d := 2147483647) (rR (x := (-1))) rfl), hIG1, hIEV, ((h7.2.2.2.1 h7.1).1 h9), trivial⟩
  have h12 : 1 ≤ z8 ∧ z8 ≤ 1 := (vc_X12_led_3 h9 h7.2.1 h7.2.2.1 hp1 h3 h7.1)
  have h13 : (0 : Int) ≤ p1 ∧ p1 ≤ (z1 - 1) := (h7.2.1 (vc_X12_led_4 h7.2.1 h7.2.2.1 h9 hp1 h3 h12))
  have h14 : 0 ≤ p1 ∧ p1 ≤ 2147483647 := (vc_X12_led_5 h13 h7.2.1 h7.2.2.1 hp1 h3 h12)
  refine sv_aload_n (pc := 14) dX12_judge_14 rfl rfl ?_
  refine mr_iload_n (pc := 15) (z := p2) dX12_judge_15 rfl rfl ?_
  obtain ⟨z15, q16⟩ : ∃ z, μ 106 5 = z := ⟨_, rfl⟩
  have h17 : (0 ≤ z15 ∧ z15 ≤ 10) := by rw [← q16]; exact hT 106 106 (A_106 hw) 5
  refine mr_cVP (pc := 16) (c_X12_isDomain_W hw hT hp2 q16 (((h7.2.2.2.1 h7.1).2 h9) z15 q16 h17)) (gOk _ _ _ _ _) dX12_judge_16 (tX12_isDomain _ _ _ _ _) ⟨wV_X12_isDomain, wL_X12_isDomain⟩ wM_X12_49 (gCX12 _ _ _ _ _) rfl (A_106 hw) rfl ⟨le_t rfl, le_t rfl⟩ ⟨le_t rfl, le_t rfl⟩ rfl (le_t rfl) fun z22 h21 => ?_
  refine mr_if_eq (pc := 19) (tgt := 41) dX12_judge_19 (by decide) (r32 h21.1 rfl) (fun h23 => ?_) (fun h23 => ?_)
  · have h24 : 0 ≤ z22 ∧ z22 ≤ 0 := (vc_X12_write_78 h23 h21.2.1 h21.2.2.1 hp2 h17 h21.1)
    have h25 : p2 < 0 ∨ z15 ≤ p2 := (h21.2.2.1 (vc_X12_write_79 h21.2.1 h21.2.2.1 h23 hp2 h17 h24))
    refine mr_iconst (pc := 41) (z := (-1)) dX12_judge_41 ?_
    exact mr_iret dX12_judge_42 rfl (le_t rfl) (le_t rfl) hT mF.refl ⟨(rW (c := (-2147483648)) (d := 2147483647) (rR (x := (-1))) rfl), hIG1, hIEV, ((h21.2.2.2.1 h21.1).1 h23), trivial⟩
  have h26 : 1 ≤ z22 ∧ z22 ≤ 1 := (vc_X12_write_12 h23 h21.2.1 h21.2.2.1 hp2 h17 h21.1)
  have h27 : 0 ≤ p2 ∧ p2 < z15 := (h21.2.1 (vc_X12_write_13 h21.2.1 h21.2.2.1 h23 hp2 h17 h26))
  have h28 : 0 ≤ p2 ∧ p2 ≤ 9 := (vc_X12_write_14 h27 h21.2.1 h21.2.2.1 hp2 h17 h26)
  refine sv_aload_n (pc := 22) dX12_judge_22 rfl rfl ?_
  refine mr_iload_n (pc := 23) (z := p3) dX12_judge_23 rfl rfl ?_
  refine mr_cVP (pc := 24) (c_X12_isDomain_W hw hT hp3 q16 ((h21.2.2.2.1 h21.1).2 h23)) (gOk _ _ _ _ _) dX12_judge_24 (tX12_isDomain _ _ _ _ _) ⟨wV_X12_isDomain, wL_X12_isDomain⟩ wM_X12_49 (gCX12 _ _ _ _ _) rfl (A_106 hw) rfl ⟨le_t rfl, le_t rfl⟩ ⟨le_t rfl, le_t rfl⟩ rfl (le_t rfl) fun z33 h32 => ?_
  refine mr_if_eq (pc := 27) (tgt := 41) dX12_judge_27 (by decide) (r32 h32.1 rfl) (fun h34 => ?_) (fun h34 => ?_)
  · have h35 : 0 ≤ z33 ∧ z33 ≤ 0 := (vc_X12_write_78 h34 h32.2.1 h32.2.2.1 hp3 h17 h32.1)
    have h36 : p3 < 0 ∨ z15 ≤ p3 := (h32.2.2.1 (vc_X12_judge_W_12 h32.2.1 h32.2.2.1 h34 h21.2.1 h21.2.2.1 h27 h28 hp3 h17 h26 h35))
    refine mr_iconst (pc := 41) (z := (-1)) dX12_judge_41 ?_
    exact mr_iret dX12_judge_42 rfl (le_t rfl) (le_t rfl) hT mF.refl ⟨(rW (c := (-2147483648)) (d := 2147483647) (rR (x := (-1))) rfl), hIG1, hIEV, ((h32.2.2.2.1 h32.1).1 h34), trivial⟩
  have h37 : 1 ≤ z33 ∧ z33 ≤ 1 := (vc_X12_write_12 h34 h32.2.1 h32.2.2.1 hp3 h17 h32.1)
  have h38 : 0 ≤ p3 ∧ p3 < z15 := (h32.2.1 (vc_X12_judge_W_14 h32.2.1 h32.2.2.1 h34 h21.2.1 h21.2.2.1 h27 h28 hp3 h17 h26 h37))
  have h39 : 0 ≤ p3 ∧ p3 ≤ 9 := (vc_X12_judge_W_15 h38 h21.2.1 h21.2.2.1 h27 h32.2.1 h32.2.2.1 h28 hp3 h17 h26 h37)
  have h40 : 1 ≤ z15 ∧ z15 ≤ 10 := (vc_X12_judge_W_16 h38 h21.2.1 h21.2.2.1 h27 h32.2.1 h32.2.2.1 h28 h39 h17 h26 h37)
  refine sv_aload_n (pc := 30) dX12_judge_30 rfl rfl ?_
  refine mr_iload_n (pc := 31) (z := p2) dX12_judge_31 rfl rfl ?_
  refine mr_iload_n (pc := 32) (z := p3) dX12_judge_32 rfl rfl ?_
  obtain ⟨z41, q42⟩ : ∃ z, μ 106 6 = z := ⟨_, rfl⟩
  have h43 : (0 ≤ z41 ∧ z41 ≤ 20) := by rw [← q42]; exact hT 106 106 (A_106 hw) 6
  refine mr_cVP (pc := 33) (c_X12_tieOf_Wend hw hT (rW (c := (-2147483648)) (d := 2147483647) h28 rfl) (rW (c := (-2147483648)) (d := 2147483647) h39 rfl) q42 (((h32.2.2.2.1 h32.1).2 h34) z41 q42 h43)) (gOk _ _ _ _ _) dX12_judge_33 (tX12_tieOf _ _ _ _ _) ⟨wV_X12_tieOf, wL_X12_tieOf⟩ wM_X12_43 (gCX12 _ _ _ _ _) rfl (A_106 hw) rfl ⟨le_t rfl, le_t rfl⟩ ⟨le_t rfl, le_t rfl⟩ rfl (le_t rfl) fun z48 h47 => ?_
  refine mr_ldc (pc := 36) (z := (-99999999)) dX12_judge_36 wG_X12_29 (by decide) ?_
  refine mr_icmp_ne (pc := 38) (tgt := 43) dX12_judge_38 (by decide) (r32 h47.1 rfl) (r32 (rR (x := (-99999999))) rfl) (fun h49 => ?_) (fun h49 => ?_)
  · have h50 : 0 ≤ z48 ∧ z48 ≤ 19 := (vc_X12_provides_2 h49 h47.2.1 h47.1)
    obtain ⟨z51, q52⟩ : ∃ z, μ 110 ((2 * z48).toNat) = z := ⟨_, rfl⟩
    have h53 : (0 ≤ z51 ∧ z51 ≤ 9) := by rw [← q52]; exact hT 110 110 (A_110 hw) ((2 * z48).toNat)
    obtain ⟨z54, q55⟩ : ∃ z, μ 110 (((2 * z48) + 1).toNat) = z := ⟨_, rfl⟩
    have h56 : (0 ≤ z54 ∧ z54 ≤ 9) := by rw [← q55]; exact hT 110 110 (A_110 hw) (((2 * z48) + 1).toNat)
    have h57 : z48 < z41 ∧ ((z51 = p2 ∧ z54 = p3) ∨ (z51 = p3 ∧ z54 = p2)) := by have h := (h47.2.2.1).resolve_left (vc_X12_look_W_52 h47.2.1 h49 h50); rw [q52, q55] at h; exact h
    refine sv_aload_n (pc := 43) dX12_judge_43 rfl rfl ?_
    refine gf_X12_70 (pc := 44) dX12_judge_44 wF_X12_411 (A_106 hw) hT fun z58 q59 h60 => ?_
    obtain ⟨z61, q62⟩ : ∃ z, μ 126 ((0 : Int).toNat) = z := ⟨_, rfl⟩
    have h63 := rt7 hT (A_126 hw) vc_X2_send_2 q62
    have h64 : (-1) ≤ z61 ∧ z61 ≤ 9 := h63.2.1 vc_X12_judge_W_20
    have h65 : z58 = 0 ∨ 0 ≤ z61 := G1.hand hIG1 q59 q62
    refine mr_if_ne (pc := 47) (tgt := 53) dX12_judge_47 (by decide) (r32 h60 rfl) (fun h66 => ?_) (fun h66 => ?_)
    · have h67 : 1 ≤ z58 ∧ z58 ≤ 1 := (vc_X12_judge_W_21 h66 h65 h60 h64)
      refine sv_aload_n (pc := 53) dX12_judge_53 rfl rfl ?_
      refine mr_iload_n (pc := 54) (z := p1) dX12_judge_54 rfl rfl ?_
      refine mr_iconst (pc := 55) (z := 0) dX12_judge_55 ?_
      refine mr_iload_n (pc := 56) (z := p2) dX12_judge_56 rfl rfl ?_
      refine mr_iload_n (pc := 57) (z := p3) dX12_judge_57 rfl rfl ?_
      refine mr_cVI (pc := 58) (c_X12_through_W hw hT (rW (c := (-2147483648)) (d := 2147483647) h14 rfl) (rW (c := 0) (d := 2099) (rR (x := 0)) rfl) (rW (c := (-2147483648)) (d := 2147483647) h28 rfl) (rW (c := (-2147483648)) (d := 2147483647) h39 rfl) h50 q52 q55 q42 (eqIx vc_X12_judge_W_22 q62) q2 (vc_X12_judge_W_23 h47.2.1 h49 h57 h21.2.1 h21.2.2.1 h27 h32.2.1 h32.2.2.1 h38 h28 h39 h40 h26 h37 h43 h50 h53 h56) (vc_X12_judge_W_24 h21.2.1 h21.2.2.1 h27 h32.2.1 h32.2.2.1 h38 h57 h23 h34 h47.2.1 h49 h28 h39 h40 h26 h37 h43 h50 h53 h56) (vc_X12_judge_W_25 h65 h66 h67 h64) (vc_X12_judge_W_26 h7.2.1 h7.2.2.1 h13 h9 h14 h3 h12) hIPK (((((((h47.2.2.2.1 h47.1).1 h49) z51 q52 h53) z54 q55 h56) z58 q59 h60) z61 q62 h63).1 h66)) (gOk _ _ _ _ _) dX12_judge_58 (tX12_through _ _ _ _ _) ⟨wV_X12_through, wL_X12_through⟩ wM_X12_414 (gCX12 _ _ _ _ _) rfl (A_106 hw) rfl ⟨le_t rfl, le_t rfl⟩ ⟨le_t rfl, le_t rfl⟩ rfl (le_t rfl) fun z72 μ68 T69 F70 h71 => ?_
      obtain ⟨z73, q74, h75⟩ := h71
      have h76 := rt7 T69 (A_126 hw) vc_X12_picked_W_15 q74
      have h77 : (-1) ≤ z73 ∧ z73 ≤ 9 := h76.2.1 vc_X12_picked_W_16
      have q78 : μ68 126 (((40 * 0) : Int).toNat) = z61 := q74.trans h75.2.2.1
      refine mr_if_eq (pc := 61) (tgt := 68) dX12_judge_61 (by decide) (r32 h75.1 rfl) (fun h81 => ?_) (fun h81 => ?_)
      · have h82 : 0 ≤ z72 ∧ z72 ≤ 0 := (vc_X12_ring_22 h81 h75.1)
        refine mr_iconst (pc := 68) (z := 0) dX12_judge_68 ?_
        exact mr_iret dX12_judge_69 rfl (le_t rfl) (le_t rfl) T69 (mF.call mF.refl F70 rfl) ⟨(rW (c := (-2147483648)) (d := 2147483647) (rR (x := 0)) rfl), (G1.keep hIG1 hw ((mF.call mF.refl F70 rfl) : mF [106026, 106027, 106028, 106029, 106030, 106031, 126999, 151999, 152999, 153999] w μ μ68) rfl rfl ((mG.call mG.refl h75.2.1 (List.forall_mem_cons.mpr ⟨⟨_, List.mem_cons_self, vc_X12_judge_W_30⟩, (fun _ h => absurd h List.not_mem_nil)⟩)) : mG [(((40 * 0) + 1), ((40 * 0) + 40))] μ μ68) (List.forall_mem_cons.mpr ⟨vc_X12_judge_W_31, (fun _ h => absurd h List.not_mem_nil)⟩)), (EV.keep hIEV hw ((mF.call mF.refl F70 rfl) : mF [106026, 106027, 106028, 106029, 106030, 106031, 126999, 151999, 152999, 153999] w μ μ68) rfl), ((((h75.2.2.2.1 T69 F70) h75.1) z73 q74).1 h81), trivial⟩
      have h83 : 1 ≤ z72 ∧ z72 ≤ 1 := (vc_X12_ring_24 h81 h75.1)
      refine mr_iconst (pc := 64) (z := 1) dX12_judge_64 ?_
      refine sv_goto (pc := 65) (tgt := 69) dX12_judge_65 (by decide) ?_
      exact mr_iret dX12_judge_69 rfl (le_t rfl) (le_t rfl) T69 (mF.call mF.refl F70 rfl) ⟨(rW (c := (-2147483648)) (d := 2147483647) (rR (x := 1)) rfl), (G1.keep hIG1 hw ((mF.call mF.refl F70 rfl) : mF [106026, 106027, 106028, 106029, 106030, 106031, 126999, 151999, 152999, 153999] w μ μ68) rfl rfl ((mG.call mG.refl h75.2.1 (List.forall_mem_cons.mpr ⟨⟨_, List.mem_cons_self, vc_X12_judge_W_30⟩, (fun _ h => absurd h List.not_mem_nil)⟩)) : mG [(((40 * 0) + 1), ((40 * 0) + 40))] μ μ68) (List.forall_mem_cons.mpr ⟨vc_X12_judge_W_31, (fun _ h => absurd h List.not_mem_nil)⟩)), (EV.keep hIEV hw ((mF.call mF.refl F70 rfl) : mF [106026, 106027, 106028, 106029, 106030, 106031, 126999, 151999, 152999, 153999] w μ μ68) rfl), ((((h75.2.2.2.1 T69 F70) h75.1) z73 q74).2 h81), trivial⟩
    have h84 : 0 ≤ z58 ∧ z58 ≤ 0 := (vc_X12_judge_W_33 h66 h65 h60 h64)
    refine mr_bipush (pc := 50) (z := (-2)) dX12_judge_50 (by decide) ?_
    exact mr_iret dX12_judge_52 rfl (le_t rfl) (le_t rfl) hT mF.refl ⟨(rW (c := (-2147483648)) (d := 2147483647) (rR (x := (-2))) rfl), hIG1, hIEV, (((((((h47.2.2.2.1 h47.1).1 h49) z51 q52 h53) z54 q55 h56) z58 q59 h60) z61 q62 h63).2 h66), trivial⟩
  have h85 : (-99999999) ≤ z48 ∧ z48 ≤ (-99999999) := (vc_X12_provides_1 h49 h47.2.1 h47.1)
  refine mr_iconst (pc := 41) (z := (-1)) dX12_judge_41 ?_
  exact mr_iret dX12_judge_42 rfl (le_t rfl) (le_t rfl) hT mF.refl ⟨(rW (c := (-2147483648)) (d := 2147483647) (rR (x := (-1))) rfl), hIG1, hIEV, ((h47.2.2.2.1 h47.1).2 h49), trivial⟩
def WP_X11_today_W (w : mW) (μ : mM) (p1 : Int) (Q : Int → mM → Prop) : Prop := ((0 ≤ p1) → ∀ z3 : Int, μ 6 18 = z3 → (0 ≤ z3 ∧ z3 ≤ 2147483647) → ∀ μ6 : mM, mU μ 6 (18) p1 μ6 → mT w μ6 → WP_X8_tellAllAnew_W w μ6  (fun μ9 => mT w μ9 → mF [21002, 21003, 21004, 21005, 21006, 21007, 32009, 32010, 33999, 34999, 66999, 200002, 200003, 200004, 200005, 200006, 200007, 200008, 200009, 200010, 200011, 201999, 202999, 213999] w μ6 μ9 → Q z3 μ9)) ∧ ((p1 < 0) → Q ((-1) : Int) μ)
set_option maxRecDepth 4000 in
set_option maxHeartbeats 4000000 in
theorem c_X11_today_W {l : Launch} {D : va_G} {c : Nat → ClassId} {H0 : Heap} {sa : Nat × Nat × (Nat → Int32)} {w : mW} {μ : mM} (hw : mWF w) (hT : mT w μ) {p1 : Int} (hp1 : (-2147483648) ≤ p1 ∧ p1 ≤ 2147483647) (hIPC : PC w μ) {Q : Int → mM → Prop} (hQ : WP_X11_today_W w μ p1 Q) : sC (gG l D c H0 sa) mX11_today 44 0 0 [.ref 0, iv p1] (mk w μ) (qI w [6018, 21002, 21003, 21004, 21005, 21006, 21007, 32009, 32010, 33999, 34999, 66999, 200002, 200003, 200004, 200005, 200006, 200007, 200008, 200009, 200010, 200011, 201999, 202999, 213999] μ (fun z μ1 => ((-2147483648) ≤ z ∧ z ≤ 2147483647) ∧ Q z μ1 ∧ True)) := by
  refine sC.of rfl (by decide) (le_t rfl) ?_
  refine mr_lvE (lv' := [(0, .ref 0), (1, iv p1)]) rfl ?_
  refine mr_iload_n (pc := 0) (z := p1) dX11_today_0 rfl rfl ?_
  refine mr_if_ge (pc := 1) (tgt := 6) dX11_today_1 (by decide) hp1 (fun h1 => ?_) (fun h1 => ?_)
  · have h2 : 0 ≤ p1 ∧ p1 ≤ 2147483647 := (vc_X12_ring_1 h1 hp1)
    refine sv_aload_n (pc := 6) dX11_today_6 rfl rfl ?_
    refine gf_X11_3 (pc := 7) dX11_today_7 wF_X11_26 (A_0 hw) hT ?_
    refine gf_X10_18 (pc := 10) dX11_today_10 wF_X11_176 (A_6 hw) hT fun z3 q4 h5 => ?_
    refine mr_istore_n (pc := 13) (lv' := [(2, iv z3), (0, .ref 0), (1, iv p1)]) dX11_today_13 rfl (by decide) rfl ?_
    refine sv_aload_n (pc := 14) dX11_today_14 rfl rfl ?_
    refine gf_X11_3 (pc := 15) dX11_today_15 wF_X11_26 (A_0 hw) hT ?_
    refine mr_iload_n (pc := 18) (z := p1) dX11_today_18 rfl rfl ?_
    refine pf_X10_18 (pc := 19) dX11_today_19 wF_X11_176 (A_6 hw) hT h2 fun μ6 u7 T8 => ?_
    refine sv_aload_n (pc := 22) dX11_today_22 rfl rfl ?_
    refine gf_X11_6 (pc := 23) dX11_today_23 wF_X11_51 (A_0 hw) T8 ?_
    refine mr_cVV (pc := 26) (c_X8_tellAllAnew_W hw T8 (PC.keep hIPC hw ((mF.up mF.refl (A_6 hw) u7 rfl) : mF [6018] w μ μ6) rfl) (((hQ.1 h1) z3 q4 h5) μ6 u7 T8)) (gOk _ _ _ _ _) dX11_today_26 (tX8_tellAllAnew _ _ _ _ _) ⟨wV_X8_tellAllAnew, wL_X8_tellAllAnew⟩ wM_X11_179 (gCX8 _ _ _ _ _) rfl (A_32 hw) rfl ⟨le_t rfl, le_t rfl⟩ ⟨le_t rfl, le_t rfl⟩ rfl (le_t rfl) fun μ9 T10 F11 h12 => ?_
    refine mr_iload_n (pc := 29) (z := z3) dX11_today_29 rfl rfl ?_
    exact mr_iret dX11_today_30 rfl (le_t rfl) (le_t rfl) T10 (mF.call (mF.up mF.refl (A_6 hw) u7 rfl) F11 rfl) ⟨(rW (c := (-2147483648)) (d := 2147483647) h5 rfl), (h12.1 T10 F11), trivial⟩
  have h13 : (-2147483648) ≤ p1 ∧ p1 ≤ (-1) := (vc_X12_ring_60 h1 hp1)
  refine mr_iconst (pc := 4) (z := (-1)) dX11_today_4 ?_
  exact mr_iret dX11_today_5 rfl (le_t rfl) (le_t rfl) hT mF.refl ⟨(rW (c := (-2147483648)) (d := 2147483647) (rR (x := (-1))) rfl), (hQ.2 h1), trivial⟩
def WP_X12_today_W (w : mW) (μ : mM) (p1 : Int) (Q : Int → mM → Prop) : Prop := ((0 ≤ p1) → ∀ z3 : Int, μ 106 17 = z3 → (0 ≤ z3 ∧ z3 ≤ 2147483647) → ∀ μ6 : mM, mU μ 106 (17) p1 μ6 → mT w μ6 → WP_X12_rethink_W w μ6  (fun μ9 => mT w μ9 → mF [106026, 106027, 106028, 106029, 106030, 106031, 106072, 126999, 151999, 152999, 153999, 155999, 156999, 157999, 158999, 159999, 160999, 161999, 165999] w μ6 μ9 → Q z3 μ9)) ∧ ((p1 < 0) → Q ((-1) : Int) μ)
set_option maxRecDepth 4000 in
set_option maxHeartbeats 4000000 in
theorem c_X12_today_W {l : Launch} {D : va_G} {c : Nat → ClassId} {H0 : Heap} {sa : Nat × Nat × (Nat → Int32)} {w : mW} {μ : mM} (hw : mWF w) (hT : mT w μ) {p1 : Int} (hp1 : (-2147483648) ≤ p1 ∧ p1 ≤ 2147483647) (hIG1 : G1 μ) (hIEV : EV μ) (hIPK : PK μ) {Q : Int → mM → Prop} (hQ : WP_X12_today_W w μ p1 Q) : sC (gG l D c H0 sa) mX12_today 13 0 0 [.ref 106, iv p1] (mk w μ) (qI w [106017, 106026, 106027, 106028, 106029, 106030, 106031, 106072, 126999, 151999, 152999, 153999, 155999, 156999, 157999, 158999, 159999, 160999, 161999, 165999] μ (fun z μ1 => ((-2147483648) ≤ z ∧ z ≤ 2147483647) ∧ G1 μ1 ∧ EV μ1 ∧ Q z μ1 ∧ True)) := by
  refine sC.of rfl (by decide) (le_t rfl) ?_
  refine mr_lvE (lv' := [(0, .ref 106), (1, iv p1)]) rfl ?_
  refine mr_iload_n (pc := 0) (z := p1) dX12_today_0 rfl rfl ?_
  refine mr_if_ge (pc := 1) (tgt := 6) dX12_today_1 (by decide) hp1 (fun h1 => ?_) (fun h1 => ?_)
  · have h2 : 0 ≤ p1 ∧ p1 ≤ 2147483647 := (vc_X12_ring_1 h1 hp1)
    refine sv_aload_n (pc := 6) dX12_today_6 rfl rfl ?_
    refine gf_X12_17 (pc := 7) dX12_today_7 wF_X12_85 (A_106 hw) hT fun z3 q4 h5 => ?_
    refine mr_istore_n (pc := 10) (lv' := [(2, iv z3), (0, .ref 106), (1, iv p1)]) dX12_today_10 rfl (by decide) rfl ?_
    refine sv_aload_n (pc := 11) dX12_today_11 rfl rfl ?_
    refine mr_iload_n (pc := 12) (z := p1) dX12_today_12 rfl rfl ?_
    refine pf_X12_17 (pc := 13) dX12_today_13 wF_X12_85 (A_106 hw) hT h2 fun μ6 u7 T8 => ?_
    refine sv_aload_n (pc := 16) dX12_today_16 rfl rfl ?_
    refine mr_cVV (pc := 17) (c_X12_rethink_W hw T8 (G1.keep hIG1 hw ((mF.up mF.refl (A_106 hw) u7 rfl) : mF [106017] w μ μ6) rfl rfl ((mG.upO mG.refl u7 rfl) : mG [] μ μ6) (fun _ h => absurd h List.not_mem_nil)) (EV.keep hIEV hw ((mF.up mF.refl (A_106 hw) u7 rfl) : mF [106017] w μ μ6) rfl) (PK.keep hIPK hw ((mF.up mF.refl (A_106 hw) u7 rfl) : mF [106017] w μ μ6) rfl) (((hQ.1 h1) z3 q4 h5) μ6 u7 T8)) (gOk _ _ _ _ _) dX12_today_17 (tX12_rethink _ _ _ _ _) ⟨wV_X12_rethink, wL_X12_rethink⟩ wM_X12_88 (gCX12 _ _ _ _ _) rfl (A_106 hw) rfl ⟨le_t rfl, le_t rfl⟩ ⟨le_t rfl, le_t rfl⟩ rfl (le_t rfl) fun μ9 T10 F11 h12 => ?_
    refine mr_iload_n (pc := 20) (z := z3) dX12_today_20 rfl rfl ?_
    exact mr_iret dX12_today_21 rfl (le_t rfl) (le_t rfl) T10 (mF.call (mF.up mF.refl (A_106 hw) u7 rfl) F11 rfl) ⟨(rW (c := (-2147483648)) (d := 2147483647) h5 rfl), h12.2.1, h12.2.2.1, (h12.2.2.2.1 T10 F11), trivial⟩
  have h13 : (-2147483648) ≤ p1 ∧ p1 ≤ (-1) := (vc_X12_ring_60 h1 hp1)
  refine mr_iconst (pc := 4) (z := (-1)) dX12_today_4 ?_
  exact mr_iret dX12_today_5 rfl (le_t rfl) (le_t rfl) hT mF.refl ⟨(rW (c := (-2147483648)) (d := 2147483647) (rR (x := (-1))) rfl), hIG1, hIEV, (hQ.2 h1), trivial⟩
def WP_X10_addRight_W (w : mW) (μ : mM) (p1 : Int) (p2 : Int) (p3 : Int) (p4 : Int) (p5 : Int) (p6 : Int) (Q : Int → mM → Prop) : Prop := ∀ f_r : Int, μ 6 17 = f_r → (0 ≤ f_r ∧ f_r ≤ 30) → ∀ μ74 : mM, mU μ 14 (f_r.toNat) p1 μ74 → mT w μ74 → ∀ μ77 : mM, mU μ74 15 (f_r.toNat) p2 μ77 → mT w μ77 → ∀ μ80 : mM, mU μ77 16 (f_r.toNat) p3 μ80 → mT w μ80 → ∀ μ83 : mM, mU μ80 17 (f_r.toNat) p4 μ83 → mT w μ83 → ∀ μ86 : mM, mU μ83 18 (f_r.toNat) p5 μ86 → mT w μ86 → ∀ μ89 : mM, mU μ86 19 (f_r.toNat) p6 μ89 → mT w μ89 → ∀ μ92 : mM, mU μ89 20 (f_r.toNat) ((-1) : Int) μ92 → mT w μ92 → ∀ μ95 : mM, mU μ92 6 (17) (f_r + 1) μ95 → mT w μ95 → Q ((f_r + 1) - 1) μ95
theorem vc_X10_addRight_W_1 {f_r : Int} (h0 : f_r ≤ 29) (h1 : 0 ≤ f_r ∧ f_r ≤ 30) : 0 ≤ f_r ∧ f_r ≤ 29 := by omega
set_option maxRecDepth 4000 in
set_option maxHeartbeats 4000000 in
theorem c_X10_addRight_W {l : Launch} {D : va_G} {c : Nat → ClassId} {H0 : Heap} {sa : Nat × Nat × (Nat → Int32)} {w : mW} {μ : mM} (hw : mWF w) (hT : mT w μ) {p1 : Int} (hp1 : 0 ≤ p1 ∧ p1 ≤ 9) {p2 : Int} (hp2 : (-2147483648) ≤ p2 ∧ p2 ≤ 2147483647) {p3 : Int} (hp3 : (-2147483648) ≤ p3 ∧ p3 ≤ 2147483647) {p4 : Int} (hp4 : (-2147483648) ≤ p4 ∧ p4 ≤ 2147483647) {p5 : Int} (hp5 : (-2147483648) ≤ p5 ∧ p5 ≤ 2147483647) {p6 : Int} (hp6 : (-2147483648) ≤ p6 ∧ p6 ≤ 2147483647) {f_r : Int} (q_f_r : μ 6 17 = f_r) (hq0 : f_r ≤ 29) {Q : Int → mM → Prop} (hQ : WP_X10_addRight_W w μ p1 p2 p3 p4 p5 p6 Q) : sC (gG l D c H0 sa) mX10_addRight 1 0 0 [.ref 6, iv p1, iv p2, iv p3, iv p4, iv p5, iv p6] (mk w μ) (qI w [6017, 14999, 15999, 16999, 17999, 18999, 19999, 20999] μ (fun z μ1 => ((-2147483648) ≤ z ∧ z ≤ 2147483647) ∧ Q z μ1 ∧ True)) := by
  refine sC.of rfl (by decide) (le_t rfl) ?_
  have ht_f_r : (0 ≤ f_r ∧ f_r ≤ 30) := by rw [← q_f_r]; exact hT 6 6 (A_6 hw) 17
  have h1 : 0 ≤ f_r ∧ f_r ≤ 29 := (vc_X10_addRight_W_1 hq0 ht_f_r)
  refine mr_lvE (lv' := [(0, .ref 6), (1, iv p1), (2, iv p2), (3, iv p3), (4, iv p4), (5, iv p5), (6, iv p6)]) rfl ?_
  refine sv_aload_n (pc := 0) dX10_addRight_0 rfl rfl ?_
  refine gf_X10_7 (pc := 1) dX10_addRight_1 wF_X10_39 (A_6 hw) hT ?_
  refine sv_aload_n (pc := 4) dX10_addRight_4 rfl rfl ?_
  refine gk_X10_17 (pc := 5) dX10_addRight_5 wF_X10_118 (A_6 hw) q_f_r ?_
  refine mr_iload_n (pc := 8) (z := p1) dX10_addRight_8 rfl rfl ?_
  refine ss_14 (pc := 9) dX10_addRight_9 (A_14 hw) hT (rIx (n := 30) h1 rfl) hp1 fun μ74 u75 T76 => ?_
  refine sv_aload_n (pc := 10) dX10_addRight_10 rfl rfl ?_
  refine gf_X10_8 (pc := 11) dX10_addRight_11 wF_X10_42 (A_6 hw) T76 ?_
  refine sv_aload_n (pc := 14) dX10_addRight_14 rfl rfl ?_
  refine gk_X10_17 (pc := 15) dX10_addRight_15 wF_X10_118 (A_6 hw) (u75.f (Or.inl (mAt.ne (A_14 hw) (A_6 hw) rfl)) q_f_r) ?_
  refine mr_iload_n (pc := 18) (z := p2) dX10_addRight_18 rfl rfl ?_
  refine ss_15 (pc := 19) dX10_addRight_19 (A_15 hw) T76 (rIx (n := 30) h1 rfl) hp2 fun μ77 u78 T79 => ?_
  refine sv_aload_n (pc := 20) dX10_addRight_20 rfl rfl ?_
  refine gf_X10_9 (pc := 21) dX10_addRight_21 wF_X10_45 (A_6 hw) T79 ?_
  refine sv_aload_n (pc := 24) dX10_addRight_24 rfl rfl ?_
  refine gk_X10_17 (pc := 25) dX10_addRight_25 wF_X10_118 (A_6 hw) (u78.f (Or.inl (mAt.ne (A_15 hw) (A_6 hw) rfl)) (u75.f (Or.inl (mAt.ne (A_14 hw) (A_6 hw) rfl)) q_f_r)) ?_
  refine mr_iload_n (pc := 28) (z := p3) dX10_addRight_28 rfl rfl ?_
  refine ss_16 (pc := 29) dX10_addRight_29 (A_16 hw) T79 (rIx (n := 30) h1 rfl) hp3 fun μ80 u81 T82 => ?_
  refine sv_aload_n (pc := 30) dX10_addRight_30 rfl rfl ?_
  refine gf_X10_10 (pc := 31) dX10_addRight_31 wF_X10_48 (A_6 hw) T82 ?_
  refine sv_aload_n (pc := 34) dX10_addRight_34 rfl rfl ?_
  refine gk_X10_17 (pc := 35) dX10_addRight_35 wF_X10_118 (A_6 hw) (u81.f (Or.inl (mAt.ne (A_16 hw) (A_6 hw) rfl)) (u78.f (Or.inl (mAt.ne (A_15 hw) (A_6 hw) rfl)) (u75.f (Or.inl (mAt.ne (A_14 hw) (A_6 hw) rfl)) q_f_r))) ?_
  refine mr_iload (pc := 38) (z := p4) dX10_addRight_38 rfl ?_
  refine ss_17 (pc := 40) dX10_addRight_40 (A_17 hw) T82 (rIx (n := 30) h1 rfl) hp4 fun μ83 u84 T85 => ?_
  refine sv_aload_n (pc := 41) dX10_addRight_41 rfl rfl ?_
  refine gf_X10_11 (pc := 42) dX10_addRight_42 wF_X10_51 (A_6 hw) T85 ?_
  refine sv_aload_n (pc := 45) dX10_addRight_45 rfl rfl ?_
  refine gk_X10_17 (pc := 46) dX10_addRight_46 wF_X10_118 (A_6 hw) (u84.f (Or.inl (mAt.ne (A_17 hw) (A_6 hw) rfl)) (u81.f (Or.inl (mAt.ne (A_16 hw) (A_6 hw) rfl)) (u78.f (Or.inl (mAt.ne (A_15 hw) (A_6 hw) rfl)) (u75.f (Or.inl (mAt.ne (A_14 hw) (A_6 hw) rfl)) q_f_r)))) ?_
  refine mr_iload (pc := 49) (z := p5) dX10_addRight_49 rfl ?_
  refine ss_18 (pc := 51) dX10_addRight_51 (A_18 hw) T85 (rIx (n := 30) h1 rfl) hp5 fun μ86 u87 T88 => ?_
  refine sv_aload_n (pc := 52) dX10_addRight_52 rfl rfl ?_
  refine gf_X10_12 (pc := 53) dX10_addRight_53 wF_X10_54 (A_6 hw) T88 ?_
  refine sv_aload_n (pc := 56) dX10_addRight_56 rfl rfl ?_
  refine gk_X10_17 (pc := 57) dX10_addRight_57 wF_X10_118 (A_6 hw) (u87.f (Or.inl (mAt.ne (A_18 hw) (A_6 hw) rfl)) (u84.f (Or.inl (mAt.ne (A_17 hw) (A_6 hw) rfl)) (u81.f (Or.inl (mAt.ne (A_16 hw) (A_6 hw) rfl)) (u78.f (Or.inl (mAt.ne (A_15 hw) (A_6 hw) rfl)) (u75.f (Or.inl (mAt.ne (A_14 hw) (A_6 hw) rfl)) q_f_r))))) ?_
  refine mr_iload (pc := 60) (z := p6) dX10_addRight_60 rfl ?_
  refine ss_19 (pc := 62) dX10_addRight_62 (A_19 hw) T88 (rIx (n := 30) h1 rfl) hp6 fun μ89 u90 T91 => ?_
  refine sv_aload_n (pc := 63) dX10_addRight_63 rfl rfl ?_
  refine gf_X10_13 (pc := 64) dX10_addRight_64 wF_X10_57 (A_6 hw) T91 ?_
  refine sv_aload_n (pc := 67) dX10_addRight_67 rfl rfl ?_
  refine gk_X10_17 (pc := 68) dX10_addRight_68 wF_X10_118 (A_6 hw) (u90.f (Or.inl (mAt.ne (A_19 hw) (A_6 hw) rfl)) (u87.f (Or.inl (mAt.ne (A_18 hw) (A_6 hw) rfl)) (u84.f (Or.inl (mAt.ne (A_17 hw) (A_6 hw) rfl)) (u81.f (Or.inl (mAt.ne (A_16 hw) (A_6 hw) rfl)) (u78.f (Or.inl (mAt.ne (A_15 hw) (A_6 hw) rfl)) (u75.f (Or.inl (mAt.ne (A_14 hw) (A_6 hw) rfl)) q_f_r)))))) ?_
  refine mr_iconst (pc := 71) (z := (-1)) dX10_addRight_71 ?_
  refine ss_20 (pc := 72) dX10_addRight_72 (A_20 hw) T91 (rIx (n := 30) h1 rfl) (rW (c := (-2147483648)) (d := 2147483647) (rR (x := (-1))) rfl) fun μ92 u93 T94 => ?_
  refine sv_aload_n (pc := 73) dX10_addRight_73 rfl rfl ?_
  refine sv_dup (pc := 74) dX10_addRight_74 rfl ?_
  refine gk_X10_17 (pc := 75) dX10_addRight_75 wF_X10_118 (A_6 hw) (u93.f (Or.inl (mAt.ne (A_20 hw) (A_6 hw) rfl)) (u90.f (Or.inl (mAt.ne (A_19 hw) (A_6 hw) rfl)) (u87.f (Or.inl (mAt.ne (A_18 hw) (A_6 hw) rfl)) (u84.f (Or.inl (mAt.ne (A_17 hw) (A_6 hw) rfl)) (u81.f (Or.inl (mAt.ne (A_16 hw) (A_6 hw) rfl)) (u78.f (Or.inl (mAt.ne (A_15 hw) (A_6 hw) rfl)) (u75.f (Or.inl (mAt.ne (A_14 hw) (A_6 hw) rfl)) q_f_r))))))) ?_
  refine mr_iconst (pc := 78) (z := 1) dX10_addRight_78 ?_
  refine mr_iadd (pc := 79) (x := f_r) (y := 1) dX10_addRight_79 ?_
  refine pf_X10_17 (pc := 80) dX10_addRight_80 wF_X10_118 (A_6 hw) T94 (rW (c := 0) (d := 30) (rAdd (e := 1) (f := 30) h1 (rR (x := 1)) rfl) rfl) fun μ95 u96 T97 => ?_
  refine sv_aload_n (pc := 83) dX10_addRight_83 rfl rfl ?_
  refine gk_X10_17 (pc := 84) dX10_addRight_84 wF_X10_118 (A_6 hw) u96.1 ?_
  refine mr_iconst (pc := 87) (z := 1) dX10_addRight_87 ?_
  refine mr_isub (pc := 88) (x := (f_r + 1)) (y := 1) dX10_addRight_88 ?_
  exact mr_iret dX10_addRight_89 rfl (le_t rfl) (le_t rfl) T97 (mF.up (mF.up (mF.up (mF.up (mF.up (mF.up (mF.up (mF.up mF.refl (A_14 hw) u75 rfl) (A_15 hw) u78 rfl) (A_16 hw) u81 rfl) (A_17 hw) u84 rfl) (A_18 hw) u87 rfl) (A_19 hw) u90 rfl) (A_20 hw) u93 rfl) (A_6 hw) u96 rfl) ⟨(rW (c := (-2147483648)) (d := 2147483647) (rSub (e := 0) (f := 29) (rAdd (e := 1) (f := 30) h1 (rR (x := 1)) rfl) (rR (x := 1)) rfl) rfl), (((((((((hQ f_r q_f_r ht_f_r) μ74 u75 T76) μ77 u78 T79) μ80 u81 T82) μ83 u84 T85) μ86 u87 T88) μ89 u90 T91) μ92 u93 T94) μ95 u96 T97), trivial⟩
def WP_X11_right_W (w : mW) (μ : mM) (p1 : Int) (p2 : Int) (p3 : Int) (p4 : Int) (p5 : Int) (p6 : Int) (Q : Int → mM → Prop) : Prop := ∀ z1 : Int, μ 6 14 = z1 → (0 ≤ z1 ∧ z1 ≤ 10) → WP_X11_isPrefix_W w μ p1 (fun z8 _ => (0 ≤ z8 ∧ z8 ≤ 1) → ((z8 = 0) → Q ((-1) : Int) μ) ∧ ((¬ z8 = 0) → ∀ z16 : Int, μ 6 15 = z16 → (z16 = w.2.2.2 0 ∧ 0 ≤ z16 ∧ z16 ≤ 10) → WP_X11_isDomain_W w μ p3 (fun z23 _ => (0 ≤ z23 ∧ z23 ≤ 1) → ((z23 = 0) → Q ((-1) : Int) μ) ∧ ((¬ z23 = 0) → ∀ z30 : Int, μ 8 (p1.toNat) = z30 → (0 ≤ z30 ∧ z30 ≤ 32) → ((p2 < z30) → Q ((-1) : Int) μ) ∧ ((z30 ≤ p2) → ((p2 ≤ 32) → ((p4 < 0) → Q ((-1) : Int) μ) ∧ ((0 ≤ p4) → ((p5 ≤ p4) → Q ((-1) : Int) μ) ∧ ((p4 < p5) → ((0 ≤ p6) → ∀ z46 : Int, μ 6 17 = z46 → (0 ≤ z46 ∧ z46 ≤ 30) → ((z46 < 30) → WP_X10_addRight_W w μ p1 p2 p3 p4 p5 p6 (fun z55 μ51 => mT w μ51 → mF [6017, 14999, 15999, 16999, 17999, 18999, 19999, 20999] w μ μ51 → ((-2147483648) ≤ z55 ∧ z55 ≤ 2147483647) → WP_X8_tellAllAnew_W w μ51  (fun μ57 => mT w μ57 → mF [21002, 21003, 21004, 21005, 21006, 21007, 32009, 32010, 33999, 34999, 66999, 200002, 200003, 200004, 200005, 200006, 200007, 200008, 200009, 200010, 200011, 201999, 202999, 213999] w μ51 μ57 → Q z55 μ57))) ∧ ((30 ≤ z46) → Q ((-3) : Int) μ)) ∧ ((p6 < 0) → Q ((-1) : Int) μ)))) ∧ ((32 < p2) → Q ((-1) : Int) μ))))))
theorem vc_X11_right_W_12 {p2 z30 : Int} (h0 : p2 < z30) (h1 : (-2147483648) ≤ p2 ∧ p2 ≤ 2147483647) (h2 : 0 ≤ z30 ∧ z30 ≤ 32) : (-2147483648) ≤ p2 ∧ p2 ≤ 31 := by omega
theorem vc_X11_right_W_13 {p2 z30 : Int} (h0 : z30 ≤ p2) (h1 : (-2147483648) ≤ p2 ∧ p2 ≤ 2147483647) (h2 : 0 ≤ z30 ∧ z30 ≤ 32) : 0 ≤ p2 ∧ p2 ≤ 2147483647 := by omega
theorem vc_X11_right_W_14 {p2 z30 : Int} (h0 : p2 ≤ 32) (h1 : z30 ≤ p2) (h2 : 0 ≤ p2 ∧ p2 ≤ 2147483647) (h3 : 0 ≤ z30 ∧ z30 ≤ 32) : 0 ≤ p2 ∧ p2 ≤ 32 := by omega
theorem vc_X11_right_W_17 {p4 p5 : Int} (h0 : p4 < p5) (h1 : 0 ≤ p4) (h2 : 0 ≤ p4 ∧ p4 ≤ 2147483647) (h3 : (-2147483648) ≤ p5 ∧ p5 ≤ 2147483647) : 1 ≤ p5 ∧ p5 ≤ 2147483647 := by omega
theorem vc_X11_right_W_18 {p4 p5 : Int} (h0 : p4 < p5) (h1 : 0 ≤ p4) (h2 : 0 ≤ p4 ∧ p4 ≤ 2147483647) (h3 : 1 ≤ p5 ∧ p5 ≤ 2147483647) : 0 ≤ p4 ∧ p4 ≤ 2147483646 := by omega
theorem vc_X11_right_W_20 {z46 : Int} (h0 : z46 < 30) (h1 : 0 ≤ z46 ∧ z46 ≤ 30) : 0 ≤ z46 ∧ z46 ≤ 29 := by omega
theorem vc_X11_right_W_21 {z46 : Int} (h0 : z46 < 30) (h1 : 0 ≤ z46 ∧ z46 ≤ 29) : z46 ≤ 29 := by omega
theorem vc_X11_right_W_22 {z46 : Int} (h0 : 30 ≤ z46) (h1 : 0 ≤ z46 ∧ z46 ≤ 30) : 30 ≤ z46 ∧ z46 ≤ 30 := by omega
theorem vc_X11_right_W_24 {p2 z30 : Int} (h0 : 32 < p2) (h1 : z30 ≤ p2) (h2 : 0 ≤ p2 ∧ p2 ≤ 2147483647) (h3 : 0 ≤ z30 ∧ z30 ≤ 32) : 33 ≤ p2 ∧ p2 ≤ 2147483647 := by omega
set_option maxRecDepth 4000 in
set_option maxHeartbeats 4000000 in
theorem c_X11_right_W {l : Launch} {D : va_G} {c : Nat → ClassId} {H0 : Heap} {sa : Nat × Nat × (Nat → Int32)} {w : mW} {μ : mM} (hw : mWF w) (hT : mT w μ) {p1 : Int} (hp1 : (-2147483648) ≤ p1 ∧ p1 ≤ 2147483647) {p2 : Int} (hp2 : (-2147483648) ≤ p2 ∧ p2 ≤ 2147483647) {p3 : Int} (hp3 : (-2147483648) ≤ p3 ∧ p3 ≤ 2147483647) {p4 : Int} (hp4 : (-2147483648) ≤ p4 ∧ p4 ≤ 2147483647) {p5 : Int} (hp5 : (-2147483648) ≤ p5 ∧ p5 ≤ 2147483647) {p6 : Int} (hp6 : (-2147483648) ≤ p6 ∧ p6 ≤ 2147483647) (hIPC : PC w μ) {Q : Int → mM → Prop} (hQ : WP_X11_right_W w μ p1 p2 p3 p4 p5 p6 Q) : sC (gG l D c H0 sa) mX11_right 44 0 0 [.ref 0, iv p1, iv p2, iv p3, iv p4, iv p5, iv p6] (mk w μ) (qI w [6017, 14999, 15999, 16999, 17999, 18999, 19999, 20999, 21002, 21003, 21004, 21005, 21006, 21007, 32009, 32010, 33999, 34999, 66999, 200002, 200003, 200004, 200005, 200006, 200007, 200008, 200009, 200010, 200011, 201999, 202999, 213999] μ (fun z μ1 => ((-2147483648) ≤ z ∧ z ≤ 2147483647) ∧ Q z μ1 ∧ True)) := by
  refine sC.of rfl (by decide) (le_t rfl) ?_
  refine mr_lvE (lv' := [(0, .ref 0), (1, iv p1), (2, iv p2), (3, iv p3), (4, iv p4), (5, iv p5), (6, iv p6)]) rfl ?_
  refine sv_aload_n (pc := 0) dX11_right_0 rfl rfl ?_
  refine mr_iload_n (pc := 1) (z := p1) dX11_right_1 rfl rfl ?_
  obtain ⟨z1, q2⟩ : ∃ z, μ 6 14 = z := ⟨_, rfl⟩
  have h3 : (0 ≤ z1 ∧ z1 ≤ 10) := by rw [← q2]; exact hT 6 6 (A_6 hw) 14
  refine mr_cVP (pc := 2) (c_X11_isPrefix_W hw hT hp1 q2 (hQ z1 q2 h3)) (gOk _ _ _ _ _) dX11_right_2 (tX11_isPrefix _ _ _ _ _) ⟨wV_X11_isPrefix, wL_X11_isPrefix⟩ wM_X11_182 (gCX11 _ _ _ _ _) rfl (A_0 hw) rfl ⟨le_t rfl, le_t rfl⟩ ⟨le_t rfl, le_t rfl⟩ rfl (le_t rfl) fun z8 h7 => ?_
  refine mr_if_eq (pc := 5) (tgt := 35) dX11_right_5 (by decide) (r32 h7.1 rfl) (fun h9 => ?_) (fun h9 => ?_)
  · have h10 : 0 ≤ z8 ∧ z8 ≤ 0 := (vc_X12_write_78 h9 h7.2.1 h7.2.2.1 hp1 h3 h7.1)
    have h11 : p1 < 0 ∨ z1 ≤ p1 := (h7.2.2.1 (vc_X12_write_79 h7.2.1 h7.2.2.1 h9 hp1 h3 h10))
    refine mr_iconst (pc := 35) (z := (-1)) dX11_right_35 ?_
    exact mr_iret dX11_right_36 rfl (le_t rfl) (le_t rfl) hT mF.refl ⟨(rW (c := (-2147483648)) (d := 2147483647) (rR (x := (-1))) rfl), ((h7.2.2.2.1 h7.1).1 h9), trivial⟩
  have h12 : 1 ≤ z8 ∧ z8 ≤ 1 := (vc_X12_write_12 h9 h7.2.1 h7.2.2.1 hp1 h3 h7.1)
  have h13 : 0 ≤ p1 ∧ p1 < z1 := (h7.2.1 (vc_X12_write_13 h7.2.1 h7.2.2.1 h9 hp1 h3 h12))
  have h14 : 0 ≤ p1 ∧ p1 ≤ 9 := (vc_X12_write_14 h13 h7.2.1 h7.2.2.1 hp1 h3 h12)
  have h15 : 1 ≤ z1 ∧ z1 ≤ 10 := (vc_X12_write_15 h13 h7.2.1 h7.2.2.1 h14 h3 h12)
  refine sv_aload_n (pc := 8) dX11_right_8 rfl rfl ?_
  refine mr_iload_n (pc := 9) (z := p3) dX11_right_9 rfl rfl ?_
  obtain ⟨z16, q17⟩ : ∃ z, μ 6 15 = z := ⟨_, rfl⟩
  have h18 : (z16 = w.2.2.2 0 ∧ 0 ≤ z16 ∧ z16 ≤ 10) := by rw [← q17]; exact hT 6 6 (A_6 hw) 15
  refine mr_cVP (pc := 10) (c_X11_isDomain_W hw hT hp3 q17 (((h7.2.2.2.1 h7.1).2 h9) z16 q17 h18)) (gOk _ _ _ _ _) dX11_right_10 (tX11_isDomain _ _ _ _ _) ⟨wV_X11_isDomain, wL_X11_isDomain⟩ wM_X11_105 (gCX11 _ _ _ _ _) rfl (A_0 hw) rfl ⟨le_t rfl, le_t rfl⟩ ⟨le_t rfl, le_t rfl⟩ rfl (le_t rfl) fun z23 h22 => ?_
  refine mr_if_eq (pc := 13) (tgt := 35) dX11_right_13 (by decide) (r32 h22.1 rfl) (fun h24 => ?_) (fun h24 => ?_)
  · have h25 : 0 ≤ z23 ∧ z23 ≤ 0 := (vc_X12_write_78 h24 h22.2.1 h22.2.2.1 hp3 h18.2 h22.1)
    have h26 : p3 < 0 ∨ z16 ≤ p3 := (h22.2.2.1 (vc_X11_letter_2 h22.2.1 h22.2.2.1 h24 h18.1 hp3 h18.2 h25))
    refine mr_iconst (pc := 35) (z := (-1)) dX11_right_35 ?_
    exact mr_iret dX11_right_36 rfl (le_t rfl) (le_t rfl) hT mF.refl ⟨(rW (c := (-2147483648)) (d := 2147483647) (rR (x := (-1))) rfl), ((h22.2.2.2.1 h22.1).1 h24), trivial⟩
  have h27 : 1 ≤ z23 ∧ z23 ≤ 1 := (vc_X12_write_12 h24 h22.2.1 h22.2.2.1 hp3 h18.2 h22.1)
  have h28 : 0 ≤ p3 ∧ p3 < z16 := (h22.2.1 (vc_X11_letter_4 h22.2.1 h22.2.2.1 h24 h18.1 hp3 h18.2 h27))
  have h29 : 0 ≤ p3 ∧ p3 ≤ 9 := (vc_X11_letter_5 h28 h18.1 h22.2.1 h22.2.2.1 hp3 h18.2 h27)
  refine mr_iload_n (pc := 16) (z := p2) dX11_right_16 rfl rfl ?_
  refine sv_aload_n (pc := 17) dX11_right_17 rfl rfl ?_
  refine gf_X11_3 (pc := 18) dX11_right_18 wF_X11_26 (A_0 hw) hT ?_
  refine gf_X10_1 (pc := 21) dX11_right_21 wF_X11_185 (A_6 hw) hT ?_
  refine mr_iload_n (pc := 24) (z := p1) dX11_right_24 rfl rfl ?_
  refine la_8 (pc := 25) dX11_right_25 (A_8 hw) hT (rIx (n := 10) h14 rfl) fun z30 q31 h32 => ?_
  refine mr_icmp_lt (pc := 26) (tgt := 35) dX11_right_26 (by decide) hp2 (r32 h32 rfl) (fun h33 => ?_) (fun h33 => ?_)
  · have h34 : (-2147483648) ≤ p2 ∧ p2 ≤ 31 := (vc_X11_right_W_12 h33 hp2 h32)
    refine mr_iconst (pc := 35) (z := (-1)) dX11_right_35 ?_
    exact mr_iret dX11_right_36 rfl (le_t rfl) (le_t rfl) hT mF.refl ⟨(rW (c := (-2147483648)) (d := 2147483647) (rR (x := (-1))) rfl), ((((h22.2.2.2.1 h22.1).2 h24) z30 q31 h32).1 h33), trivial⟩
  have h35 : 0 ≤ p2 ∧ p2 ≤ 2147483647 := (vc_X11_right_W_13 h33 hp2 h32)
  refine mr_iload_n (pc := 29) (z := p2) dX11_right_29 rfl rfl ?_
  refine mr_bipush (pc := 30) (z := 32) dX11_right_30 (by decide) ?_
  refine mr_icmp_le (pc := 32) (tgt := 37) dX11_right_32 (by decide) (r32 h35 rfl) (r32 (rR (x := 32)) rfl) (fun h36 => ?_) (fun h36 => ?_)
  · have h37 : 0 ≤ p2 ∧ p2 ≤ 32 := (vc_X11_right_W_14 h36 h33 h35 h32)
    refine mr_iload (pc := 37) (z := p4) dX11_right_37 rfl ?_
    refine mr_if_lt (pc := 39) (tgt := 54) dX11_right_39 (by decide) hp4 (fun h38 => ?_) (fun h38 => ?_)
    · have h39 : (-2147483648) ≤ p4 ∧ p4 ≤ (-1) := (vc_X12_ring_60 h38 hp4)
      refine mr_iconst (pc := 54) (z := (-1)) dX11_right_54 ?_
      exact mr_iret dX11_right_55 rfl (le_t rfl) (le_t rfl) hT mF.refl ⟨(rW (c := (-2147483648)) (d := 2147483647) (rR (x := (-1))) rfl), ((((((h22.2.2.2.1 h22.1).2 h24) z30 q31 h32).2 h33).1 h36).1 h38), trivial⟩
    have h40 : 0 ≤ p4 ∧ p4 ≤ 2147483647 := (vc_X12_ring_1 h38 hp4)
    refine mr_iload (pc := 42) (z := p5) dX11_right_42 rfl ?_
    refine mr_iload (pc := 44) (z := p4) dX11_right_44 rfl ?_
    refine mr_icmp_le (pc := 46) (tgt := 54) dX11_right_46 (by decide) hp5 (r32 h40 rfl) (fun h41 => ?_) (fun h41 => ?_)
    · refine mr_iconst (pc := 54) (z := (-1)) dX11_right_54 ?_
      exact mr_iret dX11_right_55 rfl (le_t rfl) (le_t rfl) hT mF.refl ⟨(rW (c := (-2147483648)) (d := 2147483647) (rR (x := (-1))) rfl), (((((((h22.2.2.2.1 h22.1).2 h24) z30 q31 h32).2 h33).1 h36).2 h38).1 h41), trivial⟩
    have h42 : 1 ≤ p5 ∧ p5 ≤ 2147483647 := (vc_X11_right_W_17 h41 h38 h40 hp5)
    have h43 : 0 ≤ p4 ∧ p4 ≤ 2147483646 := (vc_X11_right_W_18 h41 h38 h40 h42)
    refine mr_iload (pc := 49) (z := p6) dX11_right_49 rfl ?_
    refine mr_if_ge (pc := 51) (tgt := 56) dX11_right_51 (by decide) hp6 (fun h44 => ?_) (fun h44 => ?_)
    · have h45 : 0 ≤ p6 ∧ p6 ≤ 2147483647 := (vc_X12_ring_1 h44 hp6)
      refine sv_aload_n (pc := 56) dX11_right_56 rfl rfl ?_
      refine gf_X11_3 (pc := 57) dX11_right_57 wF_X11_26 (A_0 hw) hT ?_
      refine gf_X10_17 (pc := 60) dX11_right_60 wF_X11_188 (A_6 hw) hT fun z46 q47 h48 => ?_
      refine mr_bipush (pc := 63) (z := 30) dX11_right_63 (by decide) ?_
      refine mr_icmp_lt (pc := 65) (tgt := 71) dX11_right_65 (by decide) (r32 h48 rfl) (r32 (rR (x := 30)) rfl) (fun h49 => ?_) (fun h49 => ?_)
      · have h50 : 0 ≤ z46 ∧ z46 ≤ 29 := (vc_X11_right_W_20 h49 h48)
        refine sv_aload_n (pc := 71) dX11_right_71 rfl rfl ?_
        refine gf_X11_3 (pc := 72) dX11_right_72 wF_X11_26 (A_0 hw) hT ?_
        refine mr_iload_n (pc := 75) (z := p1) dX11_right_75 rfl rfl ?_
        refine mr_iload_n (pc := 76) (z := p2) dX11_right_76 rfl rfl ?_
        refine mr_iload_n (pc := 77) (z := p3) dX11_right_77 rfl rfl ?_
        refine mr_iload (pc := 78) (z := p4) dX11_right_78 rfl ?_
        refine mr_iload (pc := 80) (z := p5) dX11_right_80 rfl ?_
        refine mr_iload (pc := 82) (z := p6) dX11_right_82 rfl ?_
        have W56 := ((((((((((h22.2.2.2.1 h22.1).2 h24) z30 q31 h32).2 h33).1 h36).2 h38).2 h41).1 h44) z46 q47 h48).1 h49)
        refine mr_cVI (pc := 84) (c_X10_addRight_W hw hT h14 (rW (c := (-2147483648)) (d := 2147483647) h37 rfl) (rW (c := (-2147483648)) (d := 2147483647) h29 rfl) (rW (c := (-2147483648)) (d := 2147483647) h43 rfl) (rW (c := (-2147483648)) (d := 2147483647) h42 rfl) (rW (c := (-2147483648)) (d := 2147483647) h45 rfl) q47 (vc_X11_right_W_21 h49 h50) W56) (gOk _ _ _ _ _) dX11_right_84 (tX10_addRight _ _ _ _ _) ⟨wV_X10_addRight, wL_X10_addRight⟩ wM_X11_191 (gCX10 _ _ _ _ _) rfl (A_6 hw) rfl ⟨le_t rfl, le_t rfl⟩ ⟨le_t rfl, le_t rfl⟩ rfl (le_t rfl) fun z55 μ51 T52 F53 h54 => ?_
        refine mr_istore (pc := 87) (lv' := [(7, iv z55), (0, .ref 0), (1, iv p1), (2, iv p2), (3, iv p3), (4, iv p4), (5, iv p5), (6, iv p6)]) dX11_right_87 (by decide) rfl ?_
        refine sv_aload_n (pc := 89) dX11_right_89 rfl rfl ?_
        refine gf_X11_6 (pc := 90) dX11_right_90 wF_X11_51 (A_0 hw) T52 ?_
        refine mr_cVV (pc := 93) (c_X8_tellAllAnew_W hw T52 (PC.keep hIPC hw ((mF.call mF.refl F53 rfl) : mF [6017, 14999, 15999, 16999, 17999, 18999, 19999, 20999] w μ μ51) rfl) ((h54.2.1 T52 F53) h54.1)) (gOk _ _ _ _ _) dX11_right_93 (tX8_tellAllAnew _ _ _ _ _) ⟨wV_X8_tellAllAnew, wL_X8_tellAllAnew⟩ wM_X11_179 (gCX8 _ _ _ _ _) rfl (A_32 hw) rfl ⟨le_t rfl, le_t rfl⟩ ⟨le_t rfl, le_t rfl⟩ rfl (le_t rfl) fun μ57 T58 F59 h60 => ?_
        refine mr_iload (pc := 96) (z := z55) dX11_right_96 rfl ?_
        exact mr_iret dX11_right_98 rfl (le_t rfl) (le_t rfl) T58 (mF.call (mF.call mF.refl F53 rfl) F59 rfl) ⟨h54.1, (h60.1 T58 F59), trivial⟩
      have h61 : 30 ≤ z46 ∧ z46 ≤ 30 := (vc_X11_right_W_22 h49 h48)
      refine mr_bipush (pc := 68) (z := (-3)) dX11_right_68 (by decide) ?_
      exact mr_iret dX11_right_70 rfl (le_t rfl) (le_t rfl) hT mF.refl ⟨(rW (c := (-2147483648)) (d := 2147483647) (rR (x := (-3))) rfl), ((((((((((h22.2.2.2.1 h22.1).2 h24) z30 q31 h32).2 h33).1 h36).2 h38).2 h41).1 h44) z46 q47 h48).2 h49), trivial⟩
    have h62 : (-2147483648) ≤ p6 ∧ p6 ≤ (-1) := (vc_X12_ring_60 h44 hp6)
    refine mr_iconst (pc := 54) (z := (-1)) dX11_right_54 ?_
    exact mr_iret dX11_right_55 rfl (le_t rfl) (le_t rfl) hT mF.refl ⟨(rW (c := (-2147483648)) (d := 2147483647) (rR (x := (-1))) rfl), ((((((((h22.2.2.2.1 h22.1).2 h24) z30 q31 h32).2 h33).1 h36).2 h38).2 h41).2 h44), trivial⟩
  have h63 : 33 ≤ p2 ∧ p2 ≤ 2147483647 := (vc_X11_right_W_24 h36 h33 h35 h32)
  refine mr_iconst (pc := 35) (z := (-1)) dX11_right_35 ?_
  exact mr_iret dX11_right_36 rfl (le_t rfl) (le_t rfl) hT mF.refl ⟨(rW (c := (-2147483648)) (d := 2147483647) (rR (x := (-1))) rfl), (((((h22.2.2.2.1 h22.1).2 h24) z30 q31 h32).2 h33).2 h36), trivial⟩
def WP_X12_right_W (w : mW) (μ : mM) (p1 : Int) (p2 : Int) (p3 : Int) (p4 : Int) (p5 : Int) (p6 : Int) (Q : Int → mM → Prop) : Prop := ∀ z1 : Int, μ 106 2 = z1 → (0 ≤ z1 ∧ z1 ≤ 10) → WP_X12_isPrefix_W w μ p1 (fun z8 _ => (0 ≤ z8 ∧ z8 ≤ 1) → ((z8 = 0) → Q ((-1) : Int) μ) ∧ ((¬ z8 = 0) → ∀ z16 : Int, μ 106 5 = z16 → (0 ≤ z16 ∧ z16 ≤ 10) → WP_X12_isDomain_W w μ p3 (fun z23 _ => (0 ≤ z23 ∧ z23 ≤ 1) → ((z23 = 0) → Q ((-1) : Int) μ) ∧ ((¬ z23 = 0) → ∀ z30 : Int, μ 109 (p1.toNat) = z30 → (0 ≤ z30 ∧ z30 ≤ 32) → WP_X12_in_W w μ p2 z30 (32) (fun z37 _ => (0 ≤ z37 ∧ z37 ≤ 1) → ((z37 = 0) → Q ((-1) : Int) μ) ∧ ((¬ z37 = 0) → ((p4 < 0) → Q ((-1) : Int) μ) ∧ ((0 ≤ p4) → ((p5 ≤ p4) → Q ((-1) : Int) μ) ∧ ((p4 < p5) → ((0 ≤ p6) → ∀ z52 : Int, μ 106 18 = z52 → (0 ≤ z52 ∧ z52 ≤ 30) → ((¬ z52 = 30) → ∀ μ57 : mM, mU μ 119 (z52.toNat) p1 μ57 → mT w μ57 → ∀ μ60 : mM, mU μ57 120 (z52.toNat) p2 μ60 → mT w μ60 → ∀ μ63 : mM, mU μ60 121 (z52.toNat) p3 μ63 → mT w μ63 → ∀ μ66 : mM, mU μ63 122 (z52.toNat) p4 μ66 → mT w μ66 → ∀ μ69 : mM, mU μ66 123 (z52.toNat) p5 μ69 → mT w μ69 → ∀ μ72 : mM, mU μ69 124 (z52.toNat) p6 μ72 → mT w μ72 → ∀ μ75 : mM, mU μ72 125 (z52.toNat) ((-99999999) : Int) μ75 → mT w μ75 → ∀ μ78 : mM, mU μ75 106 (18) (z52 + 1) μ78 → mT w μ78 → ∀ μ81 : mM, mU μ78 106 (26) (0 : Int) μ81 → mT w μ81 → WP_X12_rethink_W w μ81  (fun μ84 => mT w μ84 → mF [106026, 106027, 106028, 106029, 106030, 106031, 106072, 126999, 151999, 152999, 153999, 155999, 156999, 157999, 158999, 159999, 160999, 161999, 165999] w μ81 μ84 → Q ((z52 + 1) - 1) μ84)) ∧ ((z52 = 30) → Q ((-3) : Int) μ)) ∧ ((p6 < 0) → Q ((-1) : Int) μ)))))))))
theorem vc_X12_right_W_12 {p2 z30 z37 : Int} (h0 : z37 = 0) (h1 : (z37 = 1 → z30 ≤ p2 ∧ p2 ≤ (32 : Int))) (h2 : (z37 = 0 → p2 < z30 ∨ (32 : Int) < p2)) (h3 : (-2147483648) ≤ p2 ∧ p2 ≤ 2147483647) (h4 : 0 ≤ z30 ∧ z30 ≤ 32) (h5 : 0 ≤ z37 ∧ z37 ≤ 1) : 0 ≤ z37 ∧ z37 ≤ 0 := by omega
theorem vc_X12_right_W_13 {p2 z30 z37 : Int} (h0 : (z37 = 1 → z30 ≤ p2 ∧ p2 ≤ (32 : Int))) (h1 : (z37 = 0 → p2 < z30 ∨ (32 : Int) < p2)) (h2 : z37 = 0) (h3 : (-2147483648) ≤ p2 ∧ p2 ≤ 2147483647) (h4 : 0 ≤ z30 ∧ z30 ≤ 32) (h5 : 0 ≤ z37 ∧ z37 ≤ 0) : z37 = 0 := by omega
theorem vc_X12_right_W_14 {p2 z30 z37 : Int} (h0 : ¬ z37 = 0) (h1 : (z37 = 1 → z30 ≤ p2 ∧ p2 ≤ (32 : Int))) (h2 : (z37 = 0 → p2 < z30 ∨ (32 : Int) < p2)) (h3 : (-2147483648) ≤ p2 ∧ p2 ≤ 2147483647) (h4 : 0 ≤ z30 ∧ z30 ≤ 32) (h5 : 0 ≤ z37 ∧ z37 ≤ 1) : 1 ≤ z37 ∧ z37 ≤ 1 := by omega
theorem vc_X12_right_W_15 {p2 z30 z37 : Int} (h0 : (z37 = 1 → z30 ≤ p2 ∧ p2 ≤ (32 : Int))) (h1 : (z37 = 0 → p2 < z30 ∨ (32 : Int) < p2)) (h2 : ¬ z37 = 0) (h3 : (-2147483648) ≤ p2 ∧ p2 ≤ 2147483647) (h4 : 0 ≤ z30 ∧ z30 ≤ 32) (h5 : 1 ≤ z37 ∧ z37 ≤ 1) : z37 = 1 := by omega
theorem vc_X12_right_W_16 {p2 z30 z37 : Int} (h0 : z30 ≤ p2 ∧ p2 ≤ (32 : Int)) (h1 : (z37 = 1 → z30 ≤ p2 ∧ p2 ≤ (32 : Int))) (h2 : (z37 = 0 → p2 < z30 ∨ (32 : Int) < p2)) (h3 : (-2147483648) ≤ p2 ∧ p2 ≤ 2147483647) (h4 : 0 ≤ z30 ∧ z30 ≤ 32) (h5 : 1 ≤ z37 ∧ z37 ≤ 1) : 0 ≤ p2 ∧ p2 ≤ 32 := by omega
theorem vc_X12_right_W_22 {z52 : Int} (h0 : ¬ z52 = 30) (h1 : 0 ≤ z52 ∧ z52 ≤ 30) : 0 ≤ z52 ∧ z52 ≤ 29 := by omega
theorem vc_X12_right_W_23 {z52 : Int} (h0 : z52 = 30) (h1 : 0 ≤ z52 ∧ z52 ≤ 30) : 30 ≤ z52 ∧ z52 ≤ 30 := by omega
set_option maxRecDepth 4000 in
set_option maxHeartbeats 4000000 in
theorem c_X12_right_W {l : Launch} {D : va_G} {c : Nat → ClassId} {H0 : Heap} {sa : Nat × Nat × (Nat → Int32)} {w : mW} {μ : mM} (hw : mWF w) (hT : mT w μ) {p1 : Int} (hp1 : (-2147483648) ≤ p1 ∧ p1 ≤ 2147483647) {p2 : Int} (hp2 : (-2147483648) ≤ p2 ∧ p2 ≤ 2147483647) {p3 : Int} (hp3 : (-2147483648) ≤ p3 ∧ p3 ≤ 2147483647) {p4 : Int} (hp4 : (-2147483648) ≤ p4 ∧ p4 ≤ 2147483647) {p5 : Int} (hp5 : (-2147483648) ≤ p5 ∧ p5 ≤ 2147483647) {p6 : Int} (hp6 : (-2147483648) ≤ p6 ∧ p6 ≤ 2147483647) (hIG1 : G1 μ) (hIEV : EV μ) (hIPK : PK μ) {Q : Int → mM → Prop} (hQ : WP_X12_right_W w μ p1 p2 p3 p4 p5 p6 Q) : sC (gG l D c H0 sa) mX12_right 13 0 0 [.ref 106, iv p1, iv p2, iv p3, iv p4, iv p5, iv p6] (mk w μ) (qI w [106018, 106026, 106027, 106028, 106029, 106030, 106031, 106072, 119999, 120999, 121999, 122999, 123999, 124999, 125999, 126999, 151999, 152999, 153999, 155999, 156999, 157999, 158999, 159999, 160999, 161999, 165999] μ (fun z μ1 => ((-2147483648) ≤ z ∧ z ≤ 2147483647) ∧ G1 μ1 ∧ EV μ1 ∧ Q z μ1 ∧ True)) := by
  refine sC.of rfl (by decide) (le_t rfl) ?_
  refine mr_lvE (lv' := [(0, .ref 106), (1, iv p1), (2, iv p2), (3, iv p3), (4, iv p4), (5, iv p5), (6, iv p6)]) rfl ?_
  refine sv_aload_n (pc := 0) dX12_right_0 rfl rfl ?_
  refine mr_iload_n (pc := 1) (z := p1) dX12_right_1 rfl rfl ?_
  obtain ⟨z1, q2⟩ : ∃ z, μ 106 2 = z := ⟨_, rfl⟩
  have h3 : (0 ≤ z1 ∧ z1 ≤ 10) := by rw [← q2]; exact hT 106 106 (A_106 hw) 2
  refine mr_cVP (pc := 2) (c_X12_isPrefix_W hw hT hp1 q2 (hQ z1 q2 h3)) (gOk _ _ _ _ _) dX12_right_2 (tX12_isPrefix _ _ _ _ _) ⟨wV_X12_isPrefix, wL_X12_isPrefix⟩ wM_X12_92 (gCX12 _ _ _ _ _) rfl (A_106 hw) rfl ⟨le_t rfl, le_t rfl⟩ ⟨le_t rfl, le_t rfl⟩ rfl (le_t rfl) fun z8 h7 => ?_
  refine mr_if_eq (pc := 5) (tgt := 48) dX12_right_5 (by decide) (r32 h7.1 rfl) (fun h9 => ?_) (fun h9 => ?_)
  · have h10 : 0 ≤ z8 ∧ z8 ≤ 0 := (vc_X12_write_78 h9 h7.2.1 h7.2.2.1 hp1 h3 h7.1)
    have h11 : p1 < 0 ∨ z1 ≤ p1 := (h7.2.2.1 (vc_X12_write_79 h7.2.1 h7.2.2.1 h9 hp1 h3 h10))
    refine mr_iconst (pc := 48) (z := (-1)) dX12_right_48 ?_
    exact mr_iret dX12_right_49 rfl (le_t rfl) (le_t rfl) hT mF.refl ⟨(rW (c := (-2147483648)) (d := 2147483647) (rR (x := (-1))) rfl), hIG1, hIEV, ((h7.2.2.2.1 h7.1).1 h9), trivial⟩
  have h12 : 1 ≤ z8 ∧ z8 ≤ 1 := (vc_X12_write_12 h9 h7.2.1 h7.2.2.1 hp1 h3 h7.1)
  have h13 : 0 ≤ p1 ∧ p1 < z1 := (h7.2.1 (vc_X12_write_13 h7.2.1 h7.2.2.1 h9 hp1 h3 h12))
  have h14 : 0 ≤ p1 ∧ p1 ≤ 9 := (vc_X12_write_14 h13 h7.2.1 h7.2.2.1 hp1 h3 h12)
  have h15 : 1 ≤ z1 ∧ z1 ≤ 10 := (vc_X12_write_15 h13 h7.2.1 h7.2.2.1 h14 h3 h12)
  refine sv_aload_n (pc := 8) dX12_right_8 rfl rfl ?_
  refine mr_iload_n (pc := 9) (z := p3) dX12_right_9 rfl rfl ?_
  obtain ⟨z16, q17⟩ : ∃ z, μ 106 5 = z := ⟨_, rfl⟩
  have h18 : (0 ≤ z16 ∧ z16 ≤ 10) := by rw [← q17]; exact hT 106 106 (A_106 hw) 5
  refine mr_cVP (pc := 10) (c_X12_isDomain_W hw hT hp3 q17 (((h7.2.2.2.1 h7.1).2 h9) z16 q17 h18)) (gOk _ _ _ _ _) dX12_right_10 (tX12_isDomain _ _ _ _ _) ⟨wV_X12_isDomain, wL_X12_isDomain⟩ wM_X12_49 (gCX12 _ _ _ _ _) rfl (A_106 hw) rfl ⟨le_t rfl, le_t rfl⟩ ⟨le_t rfl, le_t rfl⟩ rfl (le_t rfl) fun z23 h22 => ?_
  refine mr_if_eq (pc := 13) (tgt := 48) dX12_right_13 (by decide) (r32 h22.1 rfl) (fun h24 => ?_) (fun h24 => ?_)
  · have h25 : 0 ≤ z23 ∧ z23 ≤ 0 := (vc_X12_write_78 h24 h22.2.1 h22.2.2.1 hp3 h18 h22.1)
    have h26 : p3 < 0 ∨ z16 ≤ p3 := (h22.2.2.1 (vc_X12_write_79 h22.2.1 h22.2.2.1 h24 hp3 h18 h25))
    refine mr_iconst (pc := 48) (z := (-1)) dX12_right_48 ?_
    exact mr_iret dX12_right_49 rfl (le_t rfl) (le_t rfl) hT mF.refl ⟨(rW (c := (-2147483648)) (d := 2147483647) (rR (x := (-1))) rfl), hIG1, hIEV, ((h22.2.2.2.1 h22.1).1 h24), trivial⟩
  have h27 : 1 ≤ z23 ∧ z23 ≤ 1 := (vc_X12_write_12 h24 h22.2.1 h22.2.2.1 hp3 h18 h22.1)
  have h28 : 0 ≤ p3 ∧ p3 < z16 := (h22.2.1 (vc_X12_write_13 h22.2.1 h22.2.2.1 h24 hp3 h18 h27))
  have h29 : 0 ≤ p3 ∧ p3 ≤ 9 := (vc_X12_write_14 h28 h22.2.1 h22.2.2.1 hp3 h18 h27)
  refine mr_iload_n (pc := 16) (z := p2) dX12_right_16 rfl rfl ?_
  refine sv_aload_n (pc := 17) dX12_right_17 rfl rfl ?_
  refine gf_X12_4 (pc := 18) dX12_right_18 wF_X12_26 (A_106 hw) hT ?_
  refine mr_iload_n (pc := 21) (z := p1) dX12_right_21 rfl rfl ?_
  refine la_109 (pc := 22) dX12_right_22 (A_109 hw) hT (rIx (n := 10) h14 rfl) fun z30 q31 h32 => ?_
  refine mr_bipush (pc := 23) (z := 32) dX12_right_23 (by decide) ?_
  refine mr_cSP (pc := 25) (c_X12_in_W hw hT hp2 (rW (c := (-2147483648)) (d := 2147483647) h32 rfl) (rW (c := (-2147483648)) (d := 2147483647) (rR (x := 32)) rfl) (((h22.2.2.2.1 h22.1).2 h24) z30 q31 h32)) (gOk _ _ _ _ _) dX12_right_25 (tX12_in _ _ _ _ _) wS_X12_in wM_X12_18 ⟨le_t rfl, le_t rfl⟩ ⟨le_t rfl, le_t rfl⟩ rfl (le_t rfl) fun z37 h36 => ?_
  refine mr_if_eq (pc := 28) (tgt := 48) dX12_right_28 (by decide) (r32 h36.1 rfl) (fun h38 => ?_) (fun h38 => ?_)
  · have h39 : 0 ≤ z37 ∧ z37 ≤ 0 := (vc_X12_right_W_12 h38 h36.2.1 h36.2.2.1 hp2 h32 h36.1)
    have h40 : p2 < z30 ∨ (32 : Int) < p2 := (h36.2.2.1 (vc_X12_right_W_13 h36.2.1 h36.2.2.1 h38 hp2 h32 h39))
    refine mr_iconst (pc := 48) (z := (-1)) dX12_right_48 ?_
    exact mr_iret dX12_right_49 rfl (le_t rfl) (le_t rfl) hT mF.refl ⟨(rW (c := (-2147483648)) (d := 2147483647) (rR (x := (-1))) rfl), hIG1, hIEV, ((h36.2.2.2.1 h36.1).1 h38), trivial⟩
  have h41 : 1 ≤ z37 ∧ z37 ≤ 1 := (vc_X12_right_W_14 h38 h36.2.1 h36.2.2.1 hp2 h32 h36.1)
  have h42 : z30 ≤ p2 ∧ p2 ≤ (32 : Int) := (h36.2.1 (vc_X12_right_W_15 h36.2.1 h36.2.2.1 h38 hp2 h32 h41))
  have h43 : 0 ≤ p2 ∧ p2 ≤ 32 := (vc_X12_right_W_16 h42 h36.2.1 h36.2.2.1 hp2 h32 h41)
  refine mr_iload (pc := 31) (z := p4) dX12_right_31 rfl ?_
  refine mr_if_lt (pc := 33) (tgt := 48) dX12_right_33 (by decide) hp4 (fun h44 => ?_) (fun h44 => ?_)
  · have h45 : (-2147483648) ≤ p4 ∧ p4 ≤ (-1) := (vc_X12_ring_60 h44 hp4)
    refine mr_iconst (pc := 48) (z := (-1)) dX12_right_48 ?_
    exact mr_iret dX12_right_49 rfl (le_t rfl) (le_t rfl) hT mF.refl ⟨(rW (c := (-2147483648)) (d := 2147483647) (rR (x := (-1))) rfl), hIG1, hIEV, (((h36.2.2.2.1 h36.1).2 h38).1 h44), trivial⟩
  have h46 : 0 ≤ p4 ∧ p4 ≤ 2147483647 := (vc_X12_ring_1 h44 hp4)
  refine mr_iload (pc := 36) (z := p5) dX12_right_36 rfl ?_
  refine mr_iload (pc := 38) (z := p4) dX12_right_38 rfl ?_
  refine mr_icmp_le (pc := 40) (tgt := 48) dX12_right_40 (by decide) hp5 (r32 h46 rfl) (fun h47 => ?_) (fun h47 => ?_)
  · refine mr_iconst (pc := 48) (z := (-1)) dX12_right_48 ?_
    exact mr_iret dX12_right_49 rfl (le_t rfl) (le_t rfl) hT mF.refl ⟨(rW (c := (-2147483648)) (d := 2147483647) (rR (x := (-1))) rfl), hIG1, hIEV, ((((h36.2.2.2.1 h36.1).2 h38).2 h44).1 h47), trivial⟩
  have h48 : 1 ≤ p5 ∧ p5 ≤ 2147483647 := (vc_X11_right_W_17 h47 h44 h46 hp5)
  have h49 : 0 ≤ p4 ∧ p4 ≤ 2147483646 := (vc_X11_right_W_18 h47 h44 h46 h48)
  refine mr_iload (pc := 43) (z := p6) dX12_right_43 rfl ?_
  refine mr_if_ge (pc := 45) (tgt := 50) dX12_right_45 (by decide) hp6 (fun h50 => ?_) (fun h50 => ?_)
  · have h51 : 0 ≤ p6 ∧ p6 ≤ 2147483647 := (vc_X12_ring_1 h50 hp6)
    refine sv_aload_n (pc := 50) dX12_right_50 rfl rfl ?_
    refine gf_X12_18 (pc := 51) dX12_right_51 wF_X12_95 (A_106 hw) hT fun z52 q53 h54 => ?_
    refine mr_bipush (pc := 54) (z := 30) dX12_right_54 (by decide) ?_
    refine mr_icmp_ne (pc := 56) (tgt := 62) dX12_right_56 (by decide) (r32 h54 rfl) (r32 (rR (x := 30)) rfl) (fun h55 => ?_) (fun h55 => ?_)
    · have h56 : 0 ≤ z52 ∧ z52 ≤ 29 := (vc_X12_right_W_22 h55 h54)
      refine sv_aload_n (pc := 62) dX12_right_62 rfl rfl ?_
      refine gf_X12_19 (pc := 63) dX12_right_63 wF_X12_98 (A_106 hw) hT ?_
      refine sv_aload_n (pc := 66) dX12_right_66 rfl rfl ?_
      refine gk_X12_18 (pc := 67) dX12_right_67 wF_X12_95 (A_106 hw) q53 ?_
      refine mr_iload_n (pc := 70) (z := p1) dX12_right_70 rfl rfl ?_
      refine ss_119 (pc := 71) dX12_right_71 (A_119 hw) hT (rIx (n := 30) h56 rfl) h14 fun μ57 u58 T59 => ?_
      refine sv_aload_n (pc := 72) dX12_right_72 rfl rfl ?_
      refine gf_X12_20 (pc := 73) dX12_right_73 wF_X12_101 (A_106 hw) T59 ?_
      refine sv_aload_n (pc := 76) dX12_right_76 rfl rfl ?_
      refine gk_X12_18 (pc := 77) dX12_right_77 wF_X12_95 (A_106 hw) (u58.f (Or.inl (mAt.ne (A_119 hw) (A_106 hw) rfl)) q53) ?_
      refine mr_iload_n (pc := 80) (z := p2) dX12_right_80 rfl rfl ?_
      refine ss_120 (pc := 81) dX12_right_81 (A_120 hw) T59 (rIx (n := 30) h56 rfl) (rW (c := (-2147483648)) (d := 2147483647) h43 rfl) fun μ60 u61 T62 => ?_
      refine sv_aload_n (pc := 82) dX12_right_82 rfl rfl ?_
      refine gf_X12_21 (pc := 83) dX12_right_83 wF_X12_104 (A_106 hw) T62 ?_
      refine sv_aload_n (pc := 86) dX12_right_86 rfl rfl ?_
      refine gk_X12_18 (pc := 87) dX12_right_87 wF_X12_95 (A_106 hw) (u61.f (Or.inl (mAt.ne (A_120 hw) (A_106 hw) rfl)) (u58.f (Or.inl (mAt.ne (A_119 hw) (A_106 hw) rfl)) q53)) ?_
      refine mr_iload_n (pc := 90) (z := p3) dX12_right_90 rfl rfl ?_
      refine ss_121 (pc := 91) dX12_right_91 (A_121 hw) T62 (rIx (n := 30) h56 rfl) (rW (c := (-2147483648)) (d := 2147483647) h29 rfl) fun μ63 u64 T65 => ?_
      refine sv_aload_n (pc := 92) dX12_right_92 rfl rfl ?_
      refine gf_X12_22 (pc := 93) dX12_right_93 wF_X12_107 (A_106 hw) T65 ?_
      refine sv_aload_n (pc := 96) dX12_right_96 rfl rfl ?_
      refine gk_X12_18 (pc := 97) dX12_right_97 wF_X12_95 (A_106 hw) (u64.f (Or.inl (mAt.ne (A_121 hw) (A_106 hw) rfl)) (u61.f (Or.inl (mAt.ne (A_120 hw) (A_106 hw) rfl)) (u58.f (Or.inl (mAt.ne (A_119 hw) (A_106 hw) rfl)) q53))) ?_
      refine mr_iload (pc := 100) (z := p4) dX12_right_100 rfl ?_
      refine ss_122 (pc := 102) dX12_right_102 (A_122 hw) T65 (rIx (n := 30) h56 rfl) (rW (c := (-2147483648)) (d := 2147483647) h49 rfl) fun μ66 u67 T68 => ?_
      refine sv_aload_n (pc := 103) dX12_right_103 rfl rfl ?_
      refine gf_X12_23 (pc := 104) dX12_right_104 wF_X12_110 (A_106 hw) T68 ?_
      refine sv_aload_n (pc := 107) dX12_right_107 rfl rfl ?_
      refine gk_X12_18 (pc := 108) dX12_right_108 wF_X12_95 (A_106 hw) (u67.f (Or.inl (mAt.ne (A_122 hw) (A_106 hw) rfl)) (u64.f (Or.inl (mAt.ne (A_121 hw) (A_106 hw) rfl)) (u61.f (Or.inl (mAt.ne (A_120 hw) (A_106 hw) rfl)) (u58.f (Or.inl (mAt.ne (A_119 hw) (A_106 hw) rfl)) q53)))) ?_
      refine mr_iload (pc := 111) (z := p5) dX12_right_111 rfl ?_
      refine ss_123 (pc := 113) dX12_right_113 (A_123 hw) T68 (rIx (n := 30) h56 rfl) (rW (c := (-2147483648)) (d := 2147483647) h48 rfl) fun μ69 u70 T71 => ?_
      refine sv_aload_n (pc := 114) dX12_right_114 rfl rfl ?_
      refine gf_X12_24 (pc := 115) dX12_right_115 wF_X12_113 (A_106 hw) T71 ?_
      refine sv_aload_n (pc := 118) dX12_right_118 rfl rfl ?_
      refine gk_X12_18 (pc := 119) dX12_right_119 wF_X12_95 (A_106 hw) (u70.f (Or.inl (mAt.ne (A_123 hw) (A_106 hw) rfl)) (u67.f (Or.inl (mAt.ne (A_122 hw) (A_106 hw) rfl)) (u64.f (Or.inl (mAt.ne (A_121 hw) (A_106 hw) rfl)) (u61.f (Or.inl (mAt.ne (A_120 hw) (A_106 hw) rfl)) (u58.f (Or.inl (mAt.ne (A_119 hw) (A_106 hw) rfl)) q53))))) ?_
      refine mr_iload (pc := 122) (z := p6) dX12_right_122 rfl ?_
      refine ss_124 (pc := 124) dX12_right_124 (A_124 hw) T71 (rIx (n := 30) h56 rfl) (rW (c := (-2147483648)) (d := 2147483647) h51 rfl) fun μ72 u73 T74 => ?_
      refine sv_aload_n (pc := 125) dX12_right_125 rfl rfl ?_
      refine gf_X12_25 (pc := 126) dX12_right_126 wF_X12_116 (A_106 hw) T74 ?_
      refine sv_aload_n (pc := 129) dX12_right_129 rfl rfl ?_
      refine gk_X12_18 (pc := 130) dX12_right_130 wF_X12_95 (A_106 hw) (u73.f (Or.inl (mAt.ne (A_124 hw) (A_106 hw) rfl)) (u70.f (Or.inl (mAt.ne (A_123 hw) (A_106 hw) rfl)) (u67.f (Or.inl (mAt.ne (A_122 hw) (A_106 hw) rfl)) (u64.f (Or.inl (mAt.ne (A_121 hw) (A_106 hw) rfl)) (u61.f (Or.inl (mAt.ne (A_120 hw) (A_106 hw) rfl)) (u58.f (Or.inl (mAt.ne (A_119 hw) (A_106 hw) rfl)) q53)))))) ?_
      refine mr_ldc (pc := 133) (z := (-99999999)) dX12_right_133 wG_X12_29 (by decide) ?_
      refine ss_125 (pc := 135) dX12_right_135 (A_125 hw) T74 (rIx (n := 30) h56 rfl) (rW (c := (-2147483648)) (d := 2147483647) (rR (x := (-99999999))) rfl) fun μ75 u76 T77 => ?_
      refine sv_aload_n (pc := 136) dX12_right_136 rfl rfl ?_
      refine sv_dup (pc := 137) dX12_right_137 rfl ?_
      refine gk_X12_18 (pc := 138) dX12_right_138 wF_X12_95 (A_106 hw) (u76.f (Or.inl (mAt.ne (A_125 hw) (A_106 hw) rfl)) (u73.f (Or.inl (mAt.ne (A_124 hw) (A_106 hw) rfl)) (u70.f (Or.inl (mAt.ne (A_123 hw) (A_106 hw) rfl)) (u67.f (Or.inl (mAt.ne (A_122 hw) (A_106 hw) rfl)) (u64.f (Or.inl (mAt.ne (A_121 hw) (A_106 hw) rfl)) (u61.f (Or.inl (mAt.ne (A_120 hw) (A_106 hw) rfl)) (u58.f (Or.inl (mAt.ne (A_119 hw) (A_106 hw) rfl)) q53))))))) ?_
      refine mr_iconst (pc := 141) (z := 1) dX12_right_141 ?_
      refine mr_iadd (pc := 142) (x := z52) (y := 1) dX12_right_142 ?_
      refine pf_X12_18 (pc := 143) dX12_right_143 wF_X12_95 (A_106 hw) T77 (rW (c := 0) (d := 30) (rAdd (e := 1) (f := 30) h56 (rR (x := 1)) rfl) rfl) fun μ78 u79 T80 => ?_
      refine sv_aload_n (pc := 146) dX12_right_146 rfl rfl ?_
      refine mr_iconst (pc := 147) (z := 0) dX12_right_147 ?_
      refine pf_X12_26 (pc := 148) dX12_right_148 wF_X12_119 (A_106 hw) T80 (rW (c := 0) (d := 1) (rR (x := 0)) rfl) fun μ81 u82 T83 => ?_
      refine sv_aload_n (pc := 151) dX12_right_151 rfl rfl ?_
      have W88 := ((((((((((((((((h36.2.2.2.1 h36.1).2 h38).2 h44).2 h47).1 h50) z52 q53 h54).1 h55) μ57 u58 T59) μ60 u61 T62) μ63 u64 T65) μ66 u67 T68) μ69 u70 T71) μ72 u73 T74) μ75 u76 T77) μ78 u79 T80) μ81 u82 T83)
      refine mr_cVV (pc := 152) (c_X12_rethink_W hw T83 (G1.keep hIG1 hw ((mF.up (mF.up (mF.up (mF.up (mF.up (mF.up (mF.up (mF.up (mF.up mF.refl (A_119 hw) u58 rfl) (A_120 hw) u61 rfl) (A_121 hw) u64 rfl) (A_122 hw) u67 rfl) (A_123 hw) u70 rfl) (A_124 hw) u73 rfl) (A_125 hw) u76 rfl) (A_106 hw) u79 rfl) (A_106 hw) u82 rfl) : mF [106018, 106026, 119999, 120999, 121999, 122999, 123999, 124999, 125999] w μ μ81) rfl rfl ((mG.upO (mG.upO (mG.upO (mG.upO (mG.upO (mG.upO (mG.upO (mG.upO (mG.upO mG.refl u58 rfl) u61 rfl) u64 rfl) u67 rfl) u70 rfl) u73 rfl) u76 rfl) u79 rfl) u82 rfl) : mG [] μ μ81) (fun _ h => absurd h List.not_mem_nil)) (EV.keep hIEV hw ((mF.up (mF.up (mF.up (mF.up (mF.up (mF.up (mF.up (mF.up (mF.up mF.refl (A_119 hw) u58 rfl) (A_120 hw) u61 rfl) (A_121 hw) u64 rfl) (A_122 hw) u67 rfl) (A_123 hw) u70 rfl) (A_124 hw) u73 rfl) (A_125 hw) u76 rfl) (A_106 hw) u79 rfl) (A_106 hw) u82 rfl) : mF [106018, 106026, 119999, 120999, 121999, 122999, 123999, 124999, 125999] w μ μ81) rfl) (PK.keep hIPK hw ((mF.up (mF.up (mF.up (mF.up (mF.up (mF.up (mF.up (mF.up (mF.up mF.refl (A_119 hw) u58 rfl) (A_120 hw) u61 rfl) (A_121 hw) u64 rfl) (A_122 hw) u67 rfl) (A_123 hw) u70 rfl) (A_124 hw) u73 rfl) (A_125 hw) u76 rfl) (A_106 hw) u79 rfl) (A_106 hw) u82 rfl) : mF [106018, 106026, 119999, 120999, 121999, 122999, 123999, 124999, 125999] w μ μ81) rfl) W88) (gOk _ _ _ _ _) dX12_right_152 (tX12_rethink _ _ _ _ _) ⟨wV_X12_rethink, wL_X12_rethink⟩ wM_X12_88 (gCX12 _ _ _ _ _) rfl (A_106 hw) rfl ⟨le_t rfl, le_t rfl⟩ ⟨le_t rfl, le_t rfl⟩ rfl (le_t rfl) fun μ84 T85 F86 h87 => ?_
      refine sv_aload_n (pc := 155) dX12_right_155 rfl rfl ?_
      refine gk_X12_18 (pc := 156) dX12_right_156 wF_X12_95 (A_106 hw) (F86.f (A_106 hw) rfl (u82.f (Or.inr (by decide)) u79.1)) ?_
      refine mr_iconst (pc := 159) (z := 1) dX12_right_159 ?_
      refine mr_isub (pc := 160) (x := (z52 + 1)) (y := 1) dX12_right_160 ?_
      exact mr_iret dX12_right_161 rfl (le_t rfl) (le_t rfl) T85 (mF.call (mF.up (mF.up (mF.up (mF.up (mF.up (mF.up (mF.up (mF.up (mF.up mF.refl (A_119 hw) u58 rfl) (A_120 hw) u61 rfl) (A_121 hw) u64 rfl) (A_122 hw) u67 rfl) (A_123 hw) u70 rfl) (A_124 hw) u73 rfl) (A_125 hw) u76 rfl) (A_106 hw) u79 rfl) (A_106 hw) u82 rfl) F86 rfl) ⟨(rW (c := (-2147483648)) (d := 2147483647) (rSub (e := 0) (f := 29) (rAdd (e := 1) (f := 30) h56 (rR (x := 1)) rfl) (rR (x := 1)) rfl) rfl), h87.2.1, h87.2.2.1, (h87.2.2.2.1 T85 F86), trivial⟩
    have h89 : 30 ≤ z52 ∧ z52 ≤ 30 := (vc_X12_right_W_23 h55 h54)
    refine mr_bipush (pc := 59) (z := (-3)) dX12_right_59 (by decide) ?_
    exact mr_iret dX12_right_61 rfl (le_t rfl) (le_t rfl) hT mF.refl ⟨(rW (c := (-2147483648)) (d := 2147483647) (rR (x := (-3))) rfl), hIG1, hIEV, (((((((h36.2.2.2.1 h36.1).2 h38).2 h44).2 h47).1 h50) z52 q53 h54).2 h55), trivial⟩
  have h90 : (-2147483648) ≤ p6 ∧ p6 ≤ (-1) := (vc_X12_ring_60 h50 hp6)
  refine mr_iconst (pc := 48) (z := (-1)) dX12_right_48 ?_
  exact mr_iret dX12_right_49 rfl (le_t rfl) (le_t rfl) hT mF.refl ⟨(rW (c := (-2147483648)) (d := 2147483647) (rR (x := (-1))) rfl), hIG1, hIEV, (((((h36.2.2.2.1 h36.1).2 h38).2 h44).2 h47).2 h50), trivial⟩
def WP_X11_strike_W (w : mW) (μ : mM) (p1 : Int) (p2 : Int) (Q : Int → mM → Prop) : Prop := ((p1 < 0) → Q ((-1) : Int) μ) ∧ ((0 ≤ p1) → ∀ z4 : Int, μ 6 17 = z4 → (0 ≤ z4 ∧ z4 ≤ 30) → ((z4 ≤ p1) → Q ((-1) : Int) μ) ∧ ((p1 < z4) → ∀ z10 : Int, μ 19 (p1.toNat) = z10 → ((-2147483648) ≤ z10 ∧ z10 ≤ 2147483647) → ((z10 ≤ p2) → ∀ z14 : Int, μ 20 (p1.toNat) = z14 → ((-2147483648) ≤ z14 ∧ z14 ≤ 2147483647) → ((z14 = (-1)) → ∀ μ19 : mM, mU μ 20 (p1.toNat) p2 μ19 → mT w μ19 → WP_X8_tellAllAnew_W w μ19  (fun μ22 => mT w μ22 → mF [21002, 21003, 21004, 21005, 21006, 21007, 32009, 32010, 33999, 34999, 66999, 200002, 200003, 200004, 200005, 200006, 200007, 200008, 200009, 200010, 200011, 201999, 202999, 213999] w μ19 μ22 → Q (0 : Int) μ22)) ∧ ((¬ z14 = (-1)) → Q ((-2) : Int) μ)) ∧ ((p2 < z10) → Q ((-1) : Int) μ)))
theorem vc_X11_strike_W_3 {p1 z4 : Int} (h0 : p1 < z4) (h1 : 0 ≤ p1) (h2 : 0 ≤ p1 ∧ p1 ≤ 2147483647) (h3 : 0 ≤ z4 ∧ z4 ≤ 30) : 0 ≤ p1 ∧ p1 ≤ 29 := by omega
theorem vc_X11_strike_W_4 {p1 z4 : Int} (h0 : p1 < z4) (h1 : 0 ≤ p1) (h2 : 0 ≤ p1 ∧ p1 ≤ 29) (h3 : 0 ≤ z4 ∧ z4 ≤ 30) : 1 ≤ z4 ∧ z4 ≤ 30 := by omega
set_option maxRecDepth 4000 in
set_option maxHeartbeats 4000000 in
theorem c_X11_strike_W {l : Launch} {D : va_G} {c : Nat → ClassId} {H0 : Heap} {sa : Nat × Nat × (Nat → Int32)} {w : mW} {μ : mM} (hw : mWF w) (hT : mT w μ) {p1 : Int} (hp1 : (-2147483648) ≤ p1 ∧ p1 ≤ 2147483647) {p2 : Int} (hp2 : (-2147483648) ≤ p2 ∧ p2 ≤ 2147483647) (hIPC : PC w μ) {Q : Int → mM → Prop} (hQ : WP_X11_strike_W w μ p1 p2 Q) : sC (gG l D c H0 sa) mX11_strike 44 0 0 [.ref 0, iv p1, iv p2] (mk w μ) (qI w [20999, 21002, 21003, 21004, 21005, 21006, 21007, 32009, 32010, 33999, 34999, 66999, 200002, 200003, 200004, 200005, 200006, 200007, 200008, 200009, 200010, 200011, 201999, 202999, 213999] μ (fun z μ1 => ((-2147483648) ≤ z ∧ z ≤ 2147483647) ∧ Q z μ1 ∧ True)) := by
  refine sC.of rfl (by decide) (le_t rfl) ?_
  refine mr_lvE (lv' := [(0, .ref 0), (1, iv p1), (2, iv p2)]) rfl ?_
  refine mr_iload_n (pc := 0) (z := p1) dX11_strike_0 rfl rfl ?_
  refine mr_if_lt (pc := 1) (tgt := 28) dX11_strike_1 (by decide) hp1 (fun h1 => ?_) (fun h1 => ?_)
  · have h2 : (-2147483648) ≤ p1 ∧ p1 ≤ (-1) := (vc_X12_ring_60 h1 hp1)
    refine mr_iconst (pc := 28) (z := (-1)) dX11_strike_28 ?_
    exact mr_iret dX11_strike_29 rfl (le_t rfl) (le_t rfl) hT mF.refl ⟨(rW (c := (-2147483648)) (d := 2147483647) (rR (x := (-1))) rfl), (hQ.1 h1), trivial⟩
  have h3 : 0 ≤ p1 ∧ p1 ≤ 2147483647 := (vc_X12_ring_1 h1 hp1)
  refine mr_iload_n (pc := 4) (z := p1) dX11_strike_4 rfl rfl ?_
  refine sv_aload_n (pc := 5) dX11_strike_5 rfl rfl ?_
  refine gf_X11_3 (pc := 6) dX11_strike_6 wF_X11_26 (A_0 hw) hT ?_
  refine gf_X10_17 (pc := 9) dX11_strike_9 wF_X11_188 (A_6 hw) hT fun z4 q5 h6 => ?_
  refine mr_icmp_ge (pc := 12) (tgt := 28) dX11_strike_12 (by decide) (r32 h3 rfl) (r32 h6 rfl) (fun h7 => ?_) (fun h7 => ?_)
  · refine mr_iconst (pc := 28) (z := (-1)) dX11_strike_28 ?_
    exact mr_iret dX11_strike_29 rfl (le_t rfl) (le_t rfl) hT mF.refl ⟨(rW (c := (-2147483648)) (d := 2147483647) (rR (x := (-1))) rfl), (((hQ.2 h1) z4 q5 h6).1 h7), trivial⟩
  have h8 : 0 ≤ p1 ∧ p1 ≤ 29 := (vc_X11_strike_W_3 h7 h1 h3 h6)
  have h9 : 1 ≤ z4 ∧ z4 ≤ 30 := (vc_X11_strike_W_4 h7 h1 h8 h6)
  refine mr_iload_n (pc := 15) (z := p2) dX11_strike_15 rfl rfl ?_
  refine sv_aload_n (pc := 16) dX11_strike_16 rfl rfl ?_
  refine gf_X11_3 (pc := 17) dX11_strike_17 wF_X11_26 (A_0 hw) hT ?_
  refine gf_X10_12 (pc := 20) dX11_strike_20 wF_X11_195 (A_6 hw) hT ?_
  refine mr_iload_n (pc := 23) (z := p1) dX11_strike_23 rfl rfl ?_
  refine la_19 (pc := 24) dX11_strike_24 (A_19 hw) hT (rIx (n := 30) h8 rfl) fun z10 q11 h12 => ?_
  refine mr_icmp_ge (pc := 25) (tgt := 30) dX11_strike_25 (by decide) hp2 h12 (fun h13 => ?_) (fun h13 => ?_)
  · refine sv_aload_n (pc := 30) dX11_strike_30 rfl rfl ?_
    refine gf_X11_3 (pc := 31) dX11_strike_31 wF_X11_26 (A_0 hw) hT ?_
    refine gf_X10_13 (pc := 34) dX11_strike_34 wF_X11_198 (A_6 hw) hT ?_
    refine mr_iload_n (pc := 37) (z := p1) dX11_strike_37 rfl rfl ?_
    refine la_20 (pc := 38) dX11_strike_38 (A_20 hw) hT (rIx (n := 30) h8 rfl) fun z14 q15 h16 => ?_
    refine mr_iconst (pc := 39) (z := (-1)) dX11_strike_39 ?_
    refine mr_icmp_eq (pc := 40) (tgt := 46) dX11_strike_40 (by decide) h16 (r32 (rR (x := (-1))) rfl) (fun h17 => ?_) (fun h17 => ?_)
    · have h18 : (-1) ≤ z14 ∧ z14 ≤ (-1) := (vc_X10_verdictOn_17 h17 h16)
      refine sv_aload_n (pc := 46) dX11_strike_46 rfl rfl ?_
      refine gf_X11_3 (pc := 47) dX11_strike_47 wF_X11_26 (A_0 hw) hT ?_
      refine gf_X10_13 (pc := 50) dX11_strike_50 wF_X11_198 (A_6 hw) hT ?_
      refine mr_iload_n (pc := 53) (z := p1) dX11_strike_53 rfl rfl ?_
      refine mr_iload_n (pc := 54) (z := p2) dX11_strike_54 rfl rfl ?_
      refine ss_20 (pc := 55) dX11_strike_55 (A_20 hw) hT (rIx (n := 30) h8 rfl) hp2 fun μ19 u20 T21 => ?_
      refine sv_aload_n (pc := 56) dX11_strike_56 rfl rfl ?_
      refine gf_X11_6 (pc := 57) dX11_strike_57 wF_X11_51 (A_0 hw) T21 ?_
      refine mr_cVV (pc := 60) (c_X8_tellAllAnew_W hw T21 (PC.keep hIPC hw ((mF.up mF.refl (A_20 hw) u20 rfl) : mF [20999] w μ μ19) rfl) ((((((((hQ.2 h1) z4 q5 h6).2 h7) z10 q11 h12).1 h13) z14 q15 h16).1 h17) μ19 u20 T21)) (gOk _ _ _ _ _) dX11_strike_60 (tX8_tellAllAnew _ _ _ _ _) ⟨wV_X8_tellAllAnew, wL_X8_tellAllAnew⟩ wM_X11_179 (gCX8 _ _ _ _ _) rfl (A_32 hw) rfl ⟨le_t rfl, le_t rfl⟩ ⟨le_t rfl, le_t rfl⟩ rfl (le_t rfl) fun μ22 T23 F24 h25 => ?_
      refine mr_iconst (pc := 63) (z := 0) dX11_strike_63 ?_
      exact mr_iret dX11_strike_64 rfl (le_t rfl) (le_t rfl) T23 (mF.call (mF.up mF.refl (A_20 hw) u20 rfl) F24 rfl) ⟨(rW (c := (-2147483648)) (d := 2147483647) (rR (x := 0)) rfl), (h25.1 T23 F24), trivial⟩
    refine mr_bipush (pc := 43) (z := (-2)) dX11_strike_43 (by decide) ?_
    exact mr_iret dX11_strike_45 rfl (le_t rfl) (le_t rfl) hT mF.refl ⟨(rW (c := (-2147483648)) (d := 2147483647) (rR (x := (-2))) rfl), (((((((hQ.2 h1) z4 q5 h6).2 h7) z10 q11 h12).1 h13) z14 q15 h16).2 h17), trivial⟩
  have h26 : (-2147483648) ≤ p2 ∧ p2 ≤ 2147483646 := (vc_X12_in_1 h13 hp2 h12)
  have h27 : (-2147483647) ≤ z10 ∧ z10 ≤ 2147483647 := (vc_X12_in_2 h13 h26 h12)
  refine mr_iconst (pc := 28) (z := (-1)) dX11_strike_28 ?_
  exact mr_iret dX11_strike_29 rfl (le_t rfl) (le_t rfl) hT mF.refl ⟨(rW (c := (-2147483648)) (d := 2147483647) (rR (x := (-1))) rfl), (((((hQ.2 h1) z4 q5 h6).2 h7) z10 q11 h12).2 h13), trivial⟩
def WP_X12_strike_W (w : mW) (μ : mM) (p1 : Int) (p2 : Int) (Q : Int → mM → Prop) : Prop := ∀ z1 : Int, μ 106 18 = z1 → (0 ≤ z1 ∧ z1 ≤ 30) → WP_X12_in_W w μ p1 (0) (z1 - 1) (fun z8 _ => (0 ≤ z8 ∧ z8 ≤ 1) → ((z8 = 0) → Q ((-1) : Int) μ) ∧ ((¬ z8 = 0) → ∀ z15 : Int, μ 124 (p1.toNat) = z15 → ((-2147483648) ≤ z15 ∧ z15 ≤ 2147483647) → ((z15 ≤ p2) → ∀ z19 : Int, μ 125 (p1.toNat) = z19 → ((-2147483648) ≤ z19 ∧ z19 ≤ 2147483647) → ((z19 = (-99999999)) → ∀ μ24 : mM, mU μ 125 (p1.toNat) p2 μ24 → mT w μ24 → ∀ μ27 : mM, mU μ24 106 (26) (0 : Int) μ27 → mT w μ27 → WP_X12_rethink_W w μ27  (fun μ30 => mT w μ30 → mF [106026, 106027, 106028, 106029, 106030, 106031, 106072, 126999, 151999, 152999, 153999, 155999, 156999, 157999, 158999, 159999, 160999, 161999, 165999] w μ27 μ30 → Q (0 : Int) μ30)) ∧ ((¬ z19 = (-99999999)) → Q ((-2) : Int) μ)) ∧ ((p2 < z15) → Q ((-1) : Int) μ)))
theorem vc_X12_strike_W_1 {p1 z1 z8 : Int} (h0 : z8 = 0) (h1 : (z8 = 1 → (0 : Int) ≤ p1 ∧ p1 ≤ (z1 - 1))) (h2 : (z8 = 0 → p1 < (0 : Int) ∨ (z1 - 1) < p1)) (h3 : (-2147483648) ≤ p1 ∧ p1 ≤ 2147483647) (h4 : 0 ≤ z1 ∧ z1 ≤ 30) (h5 : 0 ≤ z8 ∧ z8 ≤ 1) : 0 ≤ z8 ∧ z8 ≤ 0 := by omega
theorem vc_X12_strike_W_2 {p1 z1 z8 : Int} (h0 : (z8 = 1 → (0 : Int) ≤ p1 ∧ p1 ≤ (z1 - 1))) (h1 : (z8 = 0 → p1 < (0 : Int) ∨ (z1 - 1) < p1)) (h2 : z8 = 0) (h3 : (-2147483648) ≤ p1 ∧ p1 ≤ 2147483647) (h4 : 0 ≤ z1 ∧ z1 ≤ 30) (h5 : 0 ≤ z8 ∧ z8 ≤ 0) : z8 = 0 := by omega
theorem vc_X12_strike_W_3 {p1 z1 z8 : Int} (h0 : ¬ z8 = 0) (h1 : (z8 = 1 → (0 : Int) ≤ p1 ∧ p1 ≤ (z1 - 1))) (h2 : (z8 = 0 → p1 < (0 : Int) ∨ (z1 - 1) < p1)) (h3 : (-2147483648) ≤ p1 ∧ p1 ≤ 2147483647) (h4 : 0 ≤ z1 ∧ z1 ≤ 30) (h5 : 0 ≤ z8 ∧ z8 ≤ 1) : 1 ≤ z8 ∧ z8 ≤ 1 := by omega
theorem vc_X12_strike_W_4 {p1 z1 z8 : Int} (h0 : (z8 = 1 → (0 : Int) ≤ p1 ∧ p1 ≤ (z1 - 1))) (h1 : (z8 = 0 → p1 < (0 : Int) ∨ (z1 - 1) < p1)) (h2 : ¬ z8 = 0) (h3 : (-2147483648) ≤ p1 ∧ p1 ≤ 2147483647) (h4 : 0 ≤ z1 ∧ z1 ≤ 30) (h5 : 1 ≤ z8 ∧ z8 ≤ 1) : z8 = 1 := by omega
theorem vc_X12_strike_W_5 {p1 z1 z8 : Int} (h0 : (0 : Int) ≤ p1 ∧ p1 ≤ (z1 - 1)) (h1 : (z8 = 1 → (0 : Int) ≤ p1 ∧ p1 ≤ (z1 - 1))) (h2 : (z8 = 0 → p1 < (0 : Int) ∨ (z1 - 1) < p1)) (h3 : (-2147483648) ≤ p1 ∧ p1 ≤ 2147483647) (h4 : 0 ≤ z1 ∧ z1 ≤ 30) (h5 : 1 ≤ z8 ∧ z8 ≤ 1) : 0 ≤ p1 ∧ p1 ≤ 2147483647 := by omega
theorem vc_X12_strike_W_6 {p1 z1 z8 : Int} (h0 : (z8 = 1 → (0 : Int) ≤ p1 ∧ p1 ≤ (z1 - 1))) (h1 : (z8 = 0 → p1 < (0 : Int) ∨ (z1 - 1) < p1)) (h2 : (0 : Int) ≤ p1 ∧ p1 ≤ (z1 - 1)) (h3 : ¬ z8 = 0) (h4 : 0 ≤ p1 ∧ p1 ≤ 2147483647) (h5 : 0 ≤ z1 ∧ z1 ≤ 30) (h6 : 1 ≤ z8 ∧ z8 ≤ 1) : 0 ≤ p1 ∧ p1 < 30 := by omega
set_option maxRecDepth 4000 in
set_option maxHeartbeats 4000000 in
theorem c_X12_strike_W {l : Launch} {D : va_G} {c : Nat → ClassId} {H0 : Heap} {sa : Nat × Nat × (Nat → Int32)} {w : mW} {μ : mM} (hw : mWF w) (hT : mT w μ) {p1 : Int} (hp1 : (-2147483648) ≤ p1 ∧ p1 ≤ 2147483647) {p2 : Int} (hp2 : (-2147483648) ≤ p2 ∧ p2 ≤ 2147483647) (hIG1 : G1 μ) (hIEV : EV μ) (hIPK : PK μ) {Q : Int → mM → Prop} (hQ : WP_X12_strike_W w μ p1 p2 Q) : sC (gG l D c H0 sa) mX12_strike 13 0 0 [.ref 106, iv p1, iv p2] (mk w μ) (qI w [106026, 106027, 106028, 106029, 106030, 106031, 106072, 125999, 126999, 151999, 152999, 153999, 155999, 156999, 157999, 158999, 159999, 160999, 161999, 165999] μ (fun z μ1 => ((-2147483648) ≤ z ∧ z ≤ 2147483647) ∧ G1 μ1 ∧ EV μ1 ∧ Q z μ1 ∧ True)) := by
  refine sC.of rfl (by decide) (le_t rfl) ?_
  refine mr_lvE (lv' := [(0, .ref 106), (1, iv p1), (2, iv p2)]) rfl ?_
  refine mr_iload_n (pc := 0) (z := p1) dX12_strike_0 rfl rfl ?_
  refine mr_iconst (pc := 1) (z := 0) dX12_strike_1 ?_
  refine sv_aload_n (pc := 2) dX12_strike_2 rfl rfl ?_
  refine gf_X12_18 (pc := 3) dX12_strike_3 wF_X12_95 (A_106 hw) hT fun z1 q2 h3 => ?_
  refine mr_iconst (pc := 6) (z := 1) dX12_strike_6 ?_
  refine mr_isub (pc := 7) (x := z1) (y := 1) dX12_strike_7 ?_
  refine mr_cSP (pc := 8) (c_X12_in_W hw hT hp1 (rW (c := (-2147483648)) (d := 2147483647) (rR (x := 0)) rfl) (rW (c := (-2147483648)) (d := 2147483647) (rSub (e := (-1)) (f := 29) h3 (rR (x := 1)) rfl) rfl) (hQ z1 q2 h3)) (gOk _ _ _ _ _) dX12_strike_8 (tX12_in _ _ _ _ _) wS_X12_in wM_X12_18 ⟨le_t rfl, le_t rfl⟩ ⟨le_t rfl, le_t rfl⟩ rfl (le_t rfl) fun z8 h7 => ?_
  refine mr_if_eq (pc := 11) (tgt := 24) dX12_strike_11 (by decide) (r32 h7.1 rfl) (fun h9 => ?_) (fun h9 => ?_)
  · have h10 : 0 ≤ z8 ∧ z8 ≤ 0 := (vc_X12_strike_W_1 h9 h7.2.1 h7.2.2.1 hp1 h3 h7.1)
    have h11 : p1 < (0 : Int) ∨ (z1 - 1) < p1 := (h7.2.2.1 (vc_X12_strike_W_2 h7.2.1 h7.2.2.1 h9 hp1 h3 h10))
    refine mr_iconst (pc := 24) (z := (-1)) dX12_strike_24 ?_
    exact mr_iret dX12_strike_25 rfl (le_t rfl) (le_t rfl) hT mF.refl ⟨(rW (c := (-2147483648)) (d := 2147483647) (rR (x := (-1))) rfl), hIG1, hIEV, ((h7.2.2.2.1 h7.1).1 h9), trivial⟩
  have h12 : 1 ≤ z8 ∧ z8 ≤ 1 := (vc_X12_strike_W_3 h9 h7.2.1 h7.2.2.1 hp1 h3 h7.1)
  have h13 : (0 : Int) ≤ p1 ∧ p1 ≤ (z1 - 1) := (h7.2.1 (vc_X12_strike_W_4 h7.2.1 h7.2.2.1 h9 hp1 h3 h12))
  have h14 : 0 ≤ p1 ∧ p1 ≤ 2147483647 := (vc_X12_strike_W_5 h13 h7.2.1 h7.2.2.1 hp1 h3 h12)
  refine mr_iload_n (pc := 14) (z := p2) dX12_strike_14 rfl rfl ?_
  refine sv_aload_n (pc := 15) dX12_strike_15 rfl rfl ?_
  refine gf_X12_24 (pc := 16) dX12_strike_16 wF_X12_113 (A_106 hw) hT ?_
  refine mr_iload_n (pc := 19) (z := p1) dX12_strike_19 rfl rfl ?_
  refine la_124 (pc := 20) dX12_strike_20 (A_124 hw) hT (vc_X12_strike_W_6 h7.2.1 h7.2.2.1 h13 h9 h14 h3 h12) fun z15 q16 h17 => ?_
  refine mr_icmp_ge (pc := 21) (tgt := 26) dX12_strike_21 (by decide) hp2 h17 (fun h18 => ?_) (fun h18 => ?_)
  · refine sv_aload_n (pc := 26) dX12_strike_26 rfl rfl ?_
    refine gf_X12_25 (pc := 27) dX12_strike_27 wF_X12_116 (A_106 hw) hT ?_
    refine mr_iload_n (pc := 30) (z := p1) dX12_strike_30 rfl rfl ?_
    refine la_125 (pc := 31) dX12_strike_31 (A_125 hw) hT (vc_X12_strike_W_6 h7.2.1 h7.2.2.1 h13 h9 h14 h3 h12) fun z19 q20 h21 => ?_
    refine mr_ldc (pc := 32) (z := (-99999999)) dX12_strike_32 wG_X12_29 (by decide) ?_
    refine mr_icmp_eq (pc := 34) (tgt := 40) dX12_strike_34 (by decide) h21 (r32 (rR (x := (-99999999))) rfl) (fun h22 => ?_) (fun h22 => ?_)
    · have h23 : (-99999999) ≤ z19 ∧ z19 ≤ (-99999999) := (vc_X12_judgedAnew_21 h22 h21)
      refine sv_aload_n (pc := 40) dX12_strike_40 rfl rfl ?_
      refine gf_X12_25 (pc := 41) dX12_strike_41 wF_X12_116 (A_106 hw) hT ?_
      refine mr_iload_n (pc := 44) (z := p1) dX12_strike_44 rfl rfl ?_
      refine mr_iload_n (pc := 45) (z := p2) dX12_strike_45 rfl rfl ?_
      refine ss_125 (pc := 46) dX12_strike_46 (A_125 hw) hT (vc_X12_strike_W_6 h7.2.1 h7.2.2.1 h13 h9 h14 h3 h12) hp2 fun μ24 u25 T26 => ?_
      refine sv_aload_n (pc := 47) dX12_strike_47 rfl rfl ?_
      refine mr_iconst (pc := 48) (z := 0) dX12_strike_48 ?_
      refine pf_X12_26 (pc := 49) dX12_strike_49 wF_X12_119 (A_106 hw) T26 (rW (c := 0) (d := 1) (rR (x := 0)) rfl) fun μ27 u28 T29 => ?_
      refine sv_aload_n (pc := 52) dX12_strike_52 rfl rfl ?_
      refine mr_cVV (pc := 53) (c_X12_rethink_W hw T29 (G1.keep hIG1 hw ((mF.up (mF.up mF.refl (A_125 hw) u25 rfl) (A_106 hw) u28 rfl) : mF [106026, 125999] w μ μ27) rfl rfl ((mG.upO (mG.upO mG.refl u25 rfl) u28 rfl) : mG [] μ μ27) (fun _ h => absurd h List.not_mem_nil)) (EV.keep hIEV hw ((mF.up (mF.up mF.refl (A_125 hw) u25 rfl) (A_106 hw) u28 rfl) : mF [106026, 125999] w μ μ27) rfl) (PK.keep hIPK hw ((mF.up (mF.up mF.refl (A_125 hw) u25 rfl) (A_106 hw) u28 rfl) : mF [106026, 125999] w μ μ27) rfl) ((((((((h7.2.2.2.1 h7.1).2 h9) z15 q16 h17).1 h18) z19 q20 h21).1 h22) μ24 u25 T26) μ27 u28 T29)) (gOk _ _ _ _ _) dX12_strike_53 (tX12_rethink _ _ _ _ _) ⟨wV_X12_rethink, wL_X12_rethink⟩ wM_X12_88 (gCX12 _ _ _ _ _) rfl (A_106 hw) rfl ⟨le_t rfl, le_t rfl⟩ ⟨le_t rfl, le_t rfl⟩ rfl (le_t rfl) fun μ30 T31 F32 h33 => ?_
      refine mr_iconst (pc := 56) (z := 0) dX12_strike_56 ?_
      exact mr_iret dX12_strike_57 rfl (le_t rfl) (le_t rfl) T31 (mF.call (mF.up (mF.up mF.refl (A_125 hw) u25 rfl) (A_106 hw) u28 rfl) F32 rfl) ⟨(rW (c := (-2147483648)) (d := 2147483647) (rR (x := 0)) rfl), h33.2.1, h33.2.2.1, (h33.2.2.2.1 T31 F32), trivial⟩
    refine mr_bipush (pc := 37) (z := (-2)) dX12_strike_37 (by decide) ?_
    exact mr_iret dX12_strike_39 rfl (le_t rfl) (le_t rfl) hT mF.refl ⟨(rW (c := (-2147483648)) (d := 2147483647) (rR (x := (-2))) rfl), hIG1, hIEV, ((((((h7.2.2.2.1 h7.1).2 h9) z15 q16 h17).1 h18) z19 q20 h21).2 h22), trivial⟩
  have h34 : (-2147483648) ≤ p2 ∧ p2 ≤ 2147483646 := (vc_X12_in_1 h18 hp2 h17)
  have h35 : (-2147483647) ≤ z15 ∧ z15 ≤ 2147483647 := (vc_X12_in_2 h18 h34 h17)
  refine mr_iconst (pc := 24) (z := (-1)) dX12_strike_24 ?_
  exact mr_iret dX12_strike_25 rfl (le_t rfl) (le_t rfl) hT mF.refl ⟨(rW (c := (-2147483648)) (d := 2147483647) (rR (x := (-1))) rfl), hIG1, hIEV, ((((h7.2.2.2.1 h7.1).2 h9) z15 q16 h17).2 h18), trivial⟩
def WP_X11_pace_W (w : mW) (μ : mM) (p1 : Int) (p2 : Int) (p3 : Int) (Q : Int → mM → Prop) : Prop := ∀ z1 : Int, μ 6 16 = z1 → (z1 = w.2.2.2 1 ∧ 0 ≤ z1 ∧ z1 ≤ 20) → WP_X11_isTie_W w μ p1 (fun z8 _ => (0 ≤ z8 ∧ z8 ≤ 1) → ((z8 = 0) → Q ((-1) : Int) μ) ∧ ((¬ z8 = 0) → ((p2 < 1) → Q ((-1) : Int) μ) ∧ ((1 ≤ p2) → ((1000 < p2) → Q ((-1) : Int) μ) ∧ ((p2 ≤ 1000) → ((p3 < 0) → Q ((-1) : Int) μ) ∧ ((0 ≤ p3) → ((p3 ≤ 1000) → ∀ b27 : Nat, μ 11 (p1.toNat) = (b27 : Int) → mAt w b27 220 → ∀ μ30 : mM, mU μ b27 (7) p2 μ30 → mT w μ30 → ∀ μ33 : mM, mU μ30 b27 (8) p3 μ33 → mT w μ33 → Q (0 : Int) μ33) ∧ ((1000 < p3) → Q ((-1) : Int) μ))))))
theorem vc_X11_pace_W_9 {p2 : Int} (h0 : 1000 < p2) (h1 : 1 ≤ p2) (h2 : 1 ≤ p2 ∧ p2 ≤ 2147483647) : 1001 ≤ p2 ∧ p2 ≤ 2147483647 := by omega
theorem vc_X11_pace_W_10 {p2 : Int} (h0 : p2 ≤ 1000) (h1 : 1 ≤ p2) (h2 : 1 ≤ p2 ∧ p2 ≤ 2147483647) : 1 ≤ p2 ∧ p2 ≤ 1000 := by omega
set_option maxRecDepth 4000 in
set_option maxHeartbeats 4000000 in
theorem c_X11_pace_W {l : Launch} {D : va_G} {c : Nat → ClassId} {H0 : Heap} {sa : Nat × Nat × (Nat → Int32)} {w : mW} {μ : mM} (hw : mWF w) (hT : mT w μ) {p1 : Int} (hp1 : (-2147483648) ≤ p1 ∧ p1 ≤ 2147483647) {p2 : Int} (hp2 : (-2147483648) ≤ p2 ∧ p2 ≤ 2147483647) {p3 : Int} (hp3 : (-2147483648) ≤ p3 ∧ p3 ≤ 2147483647) {Q : Int → mM → Prop} (hQ : WP_X11_pace_W w μ p1 p2 p3 Q) : sC (gG l D c H0 sa) mX11_pace 2 0 0 [.ref 0, iv p1, iv p2, iv p3] (mk w μ) (qI w [220007, 220008] μ (fun z μ1 => ((-2147483648) ≤ z ∧ z ≤ 2147483647) ∧ Q z μ1 ∧ True)) := by
  refine sC.of rfl (by decide) (le_t rfl) ?_
  refine mr_lvE (lv' := [(0, .ref 0), (1, iv p1), (2, iv p2), (3, iv p3)]) rfl ?_
  refine sv_aload_n (pc := 0) dX11_pace_0 rfl rfl ?_
  refine mr_iload_n (pc := 1) (z := p1) dX11_pace_1 rfl rfl ?_
  obtain ⟨z1, q2⟩ : ∃ z, μ 6 16 = z := ⟨_, rfl⟩
  have h3 : (z1 = w.2.2.2 1 ∧ 0 ≤ z1 ∧ z1 ≤ 20) := by rw [← q2]; exact hT 6 6 (A_6 hw) 16
  refine mr_cVP (pc := 2) (c_X11_isTie_W hw hT hp1 q2 (hQ z1 q2 h3)) (gOk _ _ _ _ _) dX11_pace_2 (tX11_isTie _ _ _ _ _) ⟨wV_X11_isTie, wL_X11_isTie⟩ wM_X11_119 (gCX11 _ _ _ _ _) rfl (A_0 hw) rfl ⟨le_t rfl, le_t rfl⟩ ⟨le_t rfl, le_t rfl⟩ rfl (le_t rfl) fun z8 h7 => ?_
  refine mr_if_eq (pc := 5) (tgt := 31) dX11_pace_5 (by decide) (r32 h7.1 rfl) (fun h9 => ?_) (fun h9 => ?_)
  · have h10 : 0 ≤ z8 ∧ z8 ≤ 0 := (vc_X12_write_1 h9 h7.2.1 h7.2.2.1 hp1 h3.2 h7.1)
    have h11 : p1 < 0 ∨ z1 ≤ p1 := (h7.2.2.1 (vc_X11_write_2 h7.2.1 h7.2.2.1 h9 h3.1 hp1 h3.2 h10))
    refine mr_iconst (pc := 31) (z := (-1)) dX11_pace_31 ?_
    exact mr_iret dX11_pace_32 rfl (le_t rfl) (le_t rfl) hT mF.refl ⟨(rW (c := (-2147483648)) (d := 2147483647) (rR (x := (-1))) rfl), ((h7.2.2.2.1 h7.1).1 h9), trivial⟩
  have h12 : 1 ≤ z8 ∧ z8 ≤ 1 := (vc_X12_write_3 h9 h7.2.1 h7.2.2.1 hp1 h3.2 h7.1)
  have h13 : 0 ≤ p1 ∧ p1 < z1 := (h7.2.1 (vc_X11_write_4 h7.2.1 h7.2.2.1 h9 h3.1 hp1 h3.2 h12))
  have h14 : 0 ≤ p1 ∧ p1 ≤ 19 := (vc_X11_write_5 h13 h3.1 h7.2.1 h7.2.2.1 hp1 h3.2 h12)
  have h15 : 1 ≤ z1 ∧ z1 ≤ 20 := (vc_X11_write_6 h13 h3.1 h7.2.1 h7.2.2.1 h14 h3.2 h12)
  refine mr_iload_n (pc := 8) (z := p2) dX11_pace_8 rfl rfl ?_
  refine mr_iconst (pc := 9) (z := 1) dX11_pace_9 ?_
  refine mr_icmp_lt (pc := 10) (tgt := 31) dX11_pace_10 (by decide) hp2 (r32 (rR (x := 1)) rfl) (fun h16 => ?_) (fun h16 => ?_)
  · have h17 : (-2147483648) ≤ p2 ∧ p2 ≤ 0 := (vc_X11_demand_7 h16 hp2)
    refine mr_iconst (pc := 31) (z := (-1)) dX11_pace_31 ?_
    exact mr_iret dX11_pace_32 rfl (le_t rfl) (le_t rfl) hT mF.refl ⟨(rW (c := (-2147483648)) (d := 2147483647) (rR (x := (-1))) rfl), (((h7.2.2.2.1 h7.1).2 h9).1 h16), trivial⟩
  have h18 : 1 ≤ p2 ∧ p2 ≤ 2147483647 := (vc_X11_demand_8 h16 hp2)
  refine mr_iload_n (pc := 13) (z := p2) dX11_pace_13 rfl rfl ?_
  refine mr_sipush (pc := 14) (z := 1000) dX11_pace_14 (by decide) ?_
  refine mr_icmp_gt (pc := 17) (tgt := 31) dX11_pace_17 (by decide) (r32 h18 rfl) (r32 (rR (x := 1000)) rfl) (fun h19 => ?_) (fun h19 => ?_)
  · have h20 : 1001 ≤ p2 ∧ p2 ≤ 2147483647 := (vc_X11_pace_W_9 h19 h16 h18)
    refine mr_iconst (pc := 31) (z := (-1)) dX11_pace_31 ?_
    exact mr_iret dX11_pace_32 rfl (le_t rfl) (le_t rfl) hT mF.refl ⟨(rW (c := (-2147483648)) (d := 2147483647) (rR (x := (-1))) rfl), ((((h7.2.2.2.1 h7.1).2 h9).2 h16).1 h19), trivial⟩
  have h21 : 1 ≤ p2 ∧ p2 ≤ 1000 := (vc_X11_pace_W_10 h19 h16 h18)
  refine mr_iload_n (pc := 20) (z := p3) dX11_pace_20 rfl rfl ?_
  refine mr_if_lt (pc := 21) (tgt := 31) dX11_pace_21 (by decide) hp3 (fun h22 => ?_) (fun h22 => ?_)
  · have h23 : (-2147483648) ≤ p3 ∧ p3 ≤ (-1) := (vc_X12_ring_60 h22 hp3)
    refine mr_iconst (pc := 31) (z := (-1)) dX11_pace_31 ?_
    exact mr_iret dX11_pace_32 rfl (le_t rfl) (le_t rfl) hT mF.refl ⟨(rW (c := (-2147483648)) (d := 2147483647) (rR (x := (-1))) rfl), (((((h7.2.2.2.1 h7.1).2 h9).2 h16).2 h19).1 h22), trivial⟩
  have h24 : 0 ≤ p3 ∧ p3 ≤ 2147483647 := (vc_X12_ring_1 h22 hp3)
  refine mr_iload_n (pc := 24) (z := p3) dX11_pace_24 rfl rfl ?_
  refine mr_sipush (pc := 25) (z := 1000) dX11_pace_25 (by decide) ?_
  refine mr_icmp_le (pc := 28) (tgt := 33) dX11_pace_28 (by decide) (r32 h24 rfl) (r32 (rR (x := 1000)) rfl) (fun h25 => ?_) (fun h25 => ?_)
  · have h26 : 0 ≤ p3 ∧ p3 ≤ 1000 := (vc_X11_route_W_9 h25 h22 h24)
    refine sv_aload_n (pc := 33) dX11_pace_33 rfl rfl ?_
    refine gf_X11_3 (pc := 34) dX11_pace_34 wF_X11_26 (A_0 hw) hT ?_
    refine gf_X10_4 (pc := 37) dX11_pace_37 wF_X11_122 (A_6 hw) hT ?_
    refine mr_iload_n (pc := 40) (z := p1) dX11_pace_40 rfl rfl ?_
    refine la_11 (pc := 41) dX11_pace_41 (A_11 hw) hT (rIx (n := 20) h14 rfl) (vc_X11_write_16 h3.1 h7.2.1 h7.2.2.1 h13 h9 h14 h15 h12) fun b27 q28 A29 => ?_
    refine mr_iload_n (pc := 42) (z := p2) dX11_pace_42 rfl rfl ?_
    refine pf_X9_7 (pc := 43) dX11_pace_43 wF_X11_126 A29 hT (rW (c := 0) (d := 1000) h21 rfl) fun μ30 u31 T32 => ?_
    refine sv_aload_n (pc := 46) dX11_pace_46 rfl rfl ?_
    refine gf_X11_3 (pc := 47) dX11_pace_47 wF_X11_26 (A_0 hw) T32 ?_
    refine gf_X10_4 (pc := 50) dX11_pace_50 wF_X11_122 (A_6 hw) T32 ?_
    refine mr_iload_n (pc := 53) (z := p1) dX11_pace_53 rfl rfl ?_
    refine lk_11 (pc := 54) dX11_pace_54 (A_11 hw) (rIx (n := 20) h14 rfl) (u31.f (Or.inl (mAt.ne A29 (A_11 hw) rfl)) q28) ?_
    refine mr_iload_n (pc := 55) (z := p3) dX11_pace_55 rfl rfl ?_
    refine pf_X9_8 (pc := 56) dX11_pace_56 wF_X11_131 A29 T32 h26 fun μ33 u34 T35 => ?_
    refine mr_iconst (pc := 59) (z := 0) dX11_pace_59 ?_
    exact mr_iret dX11_pace_60 rfl (le_t rfl) (le_t rfl) T35 (mF.up (mF.up mF.refl A29 u31 rfl) A29 u34 rfl) ⟨(rW (c := (-2147483648)) (d := 2147483647) (rR (x := 0)) rfl), (((((((((h7.2.2.2.1 h7.1).2 h9).2 h16).2 h19).2 h22).1 h25) b27 q28 A29) μ30 u31 T32) μ33 u34 T35), trivial⟩
  have h36 : 1001 ≤ p3 ∧ p3 ≤ 2147483647 := (vc_X11_route_W_21 h25 h22 h24)
  refine mr_iconst (pc := 31) (z := (-1)) dX11_pace_31 ?_
  exact mr_iret dX11_pace_32 rfl (le_t rfl) (le_t rfl) hT mF.refl ⟨(rW (c := (-2147483648)) (d := 2147483647) (rR (x := (-1))) rfl), ((((((h7.2.2.2.1 h7.1).2 h9).2 h16).2 h19).2 h22).2 h25), trivial⟩
def WP_X12_pace_W (w : mW) (μ : mM) (p1 : Int) (p2 : Int) (p3 : Int) (Q : Int → mM → Prop) : Prop := ∀ z1 : Int, μ 106 6 = z1 → (0 ≤ z1 ∧ z1 ≤ 20) → WP_X12_isTie_W w μ p1 (fun z8 _ => (0 ≤ z8 ∧ z8 ≤ 1) → ((z8 = 0) → Q ((-1) : Int) μ) ∧ ((¬ z8 = 0) → WP_X12_in_W w μ p2 (1) (1000) (fun z20 _ => (0 ≤ z20 ∧ z20 ≤ 1) → ((z20 = 0) → Q ((-1) : Int) μ) ∧ ((¬ z20 = 0) → WP_X12_in_W w μ p3 (0) (1000) (fun z31 _ => (0 ≤ z31 ∧ z31 ≤ 1) → ((¬ z31 = 0) → ∀ μ36 : mM, mU μ 113 (p1.toNat) p2 μ36 → mT w μ36 → ∀ μ39 : mM, mU μ36 114 (p1.toNat) p3 μ39 → mT w μ39 → Q (0 : Int) μ39) ∧ ((z31 = 0) → Q ((-1) : Int) μ))))))
theorem vc_X12_pace_W_7 {p2 z20 : Int} (h0 : z20 = 0) (h1 : (z20 = 1 → (1 : Int) ≤ p2 ∧ p2 ≤ (1000 : Int))) (h2 : (z20 = 0 → p2 < (1 : Int) ∨ (1000 : Int) < p2)) (h3 : (-2147483648) ≤ p2 ∧ p2 ≤ 2147483647) (h4 : 0 ≤ z20 ∧ z20 ≤ 1) : 0 ≤ z20 ∧ z20 ≤ 0 := by omega
theorem vc_X12_pace_W_8 {p2 z20 : Int} (h0 : (z20 = 1 → (1 : Int) ≤ p2 ∧ p2 ≤ (1000 : Int))) (h1 : (z20 = 0 → p2 < (1 : Int) ∨ (1000 : Int) < p2)) (h2 : z20 = 0) (h3 : (-2147483648) ≤ p2 ∧ p2 ≤ 2147483647) (h4 : 0 ≤ z20 ∧ z20 ≤ 0) : z20 = 0 := by omega
theorem vc_X12_pace_W_9 {p2 z20 : Int} (h0 : ¬ z20 = 0) (h1 : (z20 = 1 → (1 : Int) ≤ p2 ∧ p2 ≤ (1000 : Int))) (h2 : (z20 = 0 → p2 < (1 : Int) ∨ (1000 : Int) < p2)) (h3 : (-2147483648) ≤ p2 ∧ p2 ≤ 2147483647) (h4 : 0 ≤ z20 ∧ z20 ≤ 1) : 1 ≤ z20 ∧ z20 ≤ 1 := by omega
theorem vc_X12_pace_W_10 {p2 z20 : Int} (h0 : (z20 = 1 → (1 : Int) ≤ p2 ∧ p2 ≤ (1000 : Int))) (h1 : (z20 = 0 → p2 < (1 : Int) ∨ (1000 : Int) < p2)) (h2 : ¬ z20 = 0) (h3 : (-2147483648) ≤ p2 ∧ p2 ≤ 2147483647) (h4 : 1 ≤ z20 ∧ z20 ≤ 1) : z20 = 1 := by omega
theorem vc_X12_pace_W_11 {p2 z20 : Int} (h0 : (1 : Int) ≤ p2 ∧ p2 ≤ (1000 : Int)) (h1 : (z20 = 1 → (1 : Int) ≤ p2 ∧ p2 ≤ (1000 : Int))) (h2 : (z20 = 0 → p2 < (1 : Int) ∨ (1000 : Int) < p2)) (h3 : (-2147483648) ≤ p2 ∧ p2 ≤ 2147483647) (h4 : 1 ≤ z20 ∧ z20 ≤ 1) : 1 ≤ p2 ∧ p2 ≤ 1000 := by omega
set_option maxRecDepth 4000 in
set_option maxHeartbeats 4000000 in
theorem c_X12_pace_W {l : Launch} {D : va_G} {c : Nat → ClassId} {H0 : Heap} {sa : Nat × Nat × (Nat → Int32)} {w : mW} {μ : mM} (hw : mWF w) (hT : mT w μ) {p1 : Int} (hp1 : (-2147483648) ≤ p1 ∧ p1 ≤ 2147483647) {p2 : Int} (hp2 : (-2147483648) ≤ p2 ∧ p2 ≤ 2147483647) {p3 : Int} (hp3 : (-2147483648) ≤ p3 ∧ p3 ≤ 2147483647) {Q : Int → mM → Prop} (hQ : WP_X12_pace_W w μ p1 p2 p3 Q) : sC (gG l D c H0 sa) mX12_pace 3 0 0 [.ref 106, iv p1, iv p2, iv p3] (mk w μ) (qI w [113999, 114999] μ (fun z μ1 => ((-2147483648) ≤ z ∧ z ≤ 2147483647) ∧ Q z μ1 ∧ True)) := by
  refine sC.of rfl (by decide) (le_t rfl) ?_
  refine mr_lvE (lv' := [(0, .ref 106), (1, iv p1), (2, iv p2), (3, iv p3)]) rfl ?_
  refine sv_aload_n (pc := 0) dX12_pace_0 rfl rfl ?_
  refine mr_iload_n (pc := 1) (z := p1) dX12_pace_1 rfl rfl ?_
  obtain ⟨z1, q2⟩ : ∃ z, μ 106 6 = z := ⟨_, rfl⟩
  have h3 : (0 ≤ z1 ∧ z1 ≤ 20) := by rw [← q2]; exact hT 106 106 (A_106 hw) 6
  refine mr_cVP (pc := 2) (c_X12_isTie_W hw hT hp1 q2 (hQ z1 q2 h3)) (gOk _ _ _ _ _) dX12_pace_2 (tX12_isTie _ _ _ _ _) ⟨wV_X12_isTie, wL_X12_isTie⟩ wM_X12_66 (gCX12 _ _ _ _ _) rfl (A_106 hw) rfl ⟨le_t rfl, le_t rfl⟩ ⟨le_t rfl, le_t rfl⟩ rfl (le_t rfl) fun z8 h7 => ?_
  refine mr_if_eq (pc := 5) (tgt := 30) dX12_pace_5 (by decide) (r32 h7.1 rfl) (fun h9 => ?_) (fun h9 => ?_)
  · have h10 : 0 ≤ z8 ∧ z8 ≤ 0 := (vc_X12_write_1 h9 h7.2.1 h7.2.2.1 hp1 h3 h7.1)
    have h11 : p1 < 0 ∨ z1 ≤ p1 := (h7.2.2.1 (vc_X12_write_2 h7.2.1 h7.2.2.1 h9 hp1 h3 h10))
    refine mr_iconst (pc := 30) (z := (-1)) dX12_pace_30 ?_
    exact mr_iret dX12_pace_31 rfl (le_t rfl) (le_t rfl) hT mF.refl ⟨(rW (c := (-2147483648)) (d := 2147483647) (rR (x := (-1))) rfl), ((h7.2.2.2.1 h7.1).1 h9), trivial⟩
  have h12 : 1 ≤ z8 ∧ z8 ≤ 1 := (vc_X12_write_3 h9 h7.2.1 h7.2.2.1 hp1 h3 h7.1)
  have h13 : 0 ≤ p1 ∧ p1 < z1 := (h7.2.1 (vc_X12_write_4 h7.2.1 h7.2.2.1 h9 hp1 h3 h12))
  have h14 : 0 ≤ p1 ∧ p1 ≤ 19 := (vc_X12_write_5 h13 h7.2.1 h7.2.2.1 hp1 h3 h12)
  have h15 : 1 ≤ z1 ∧ z1 ≤ 20 := (vc_X12_write_6 h13 h7.2.1 h7.2.2.1 h14 h3 h12)
  refine mr_iload_n (pc := 8) (z := p2) dX12_pace_8 rfl rfl ?_
  refine mr_iconst (pc := 9) (z := 1) dX12_pace_9 ?_
  refine mr_sipush (pc := 10) (z := 1000) dX12_pace_10 (by decide) ?_
  refine mr_cSP (pc := 13) (c_X12_in_W hw hT hp2 (rW (c := (-2147483648)) (d := 2147483647) (rR (x := 1)) rfl) (rW (c := (-2147483648)) (d := 2147483647) (rR (x := 1000)) rfl) ((h7.2.2.2.1 h7.1).2 h9)) (gOk _ _ _ _ _) dX12_pace_13 (tX12_in _ _ _ _ _) wS_X12_in wM_X12_18 ⟨le_t rfl, le_t rfl⟩ ⟨le_t rfl, le_t rfl⟩ rfl (le_t rfl) fun z20 h19 => ?_
  refine mr_if_eq (pc := 16) (tgt := 30) dX12_pace_16 (by decide) (r32 h19.1 rfl) (fun h21 => ?_) (fun h21 => ?_)
  · have h22 : 0 ≤ z20 ∧ z20 ≤ 0 := (vc_X12_pace_W_7 h21 h19.2.1 h19.2.2.1 hp2 h19.1)
    have h23 : p2 < (1 : Int) ∨ (1000 : Int) < p2 := (h19.2.2.1 (vc_X12_pace_W_8 h19.2.1 h19.2.2.1 h21 hp2 h22))
    refine mr_iconst (pc := 30) (z := (-1)) dX12_pace_30 ?_
    exact mr_iret dX12_pace_31 rfl (le_t rfl) (le_t rfl) hT mF.refl ⟨(rW (c := (-2147483648)) (d := 2147483647) (rR (x := (-1))) rfl), ((h19.2.2.2.1 h19.1).1 h21), trivial⟩
  have h24 : 1 ≤ z20 ∧ z20 ≤ 1 := (vc_X12_pace_W_9 h21 h19.2.1 h19.2.2.1 hp2 h19.1)
  have h25 : (1 : Int) ≤ p2 ∧ p2 ≤ (1000 : Int) := (h19.2.1 (vc_X12_pace_W_10 h19.2.1 h19.2.2.1 h21 hp2 h24))
  have h26 : 1 ≤ p2 ∧ p2 ≤ 1000 := (vc_X12_pace_W_11 h25 h19.2.1 h19.2.2.1 hp2 h24)
  refine mr_iload_n (pc := 19) (z := p3) dX12_pace_19 rfl rfl ?_
  refine mr_iconst (pc := 20) (z := 0) dX12_pace_20 ?_
  refine mr_sipush (pc := 21) (z := 1000) dX12_pace_21 (by decide) ?_
  refine mr_cSP (pc := 24) (c_X12_in_W hw hT hp3 (rW (c := (-2147483648)) (d := 2147483647) (rR (x := 0)) rfl) (rW (c := (-2147483648)) (d := 2147483647) (rR (x := 1000)) rfl) ((h19.2.2.2.1 h19.1).2 h21)) (gOk _ _ _ _ _) dX12_pace_24 (tX12_in _ _ _ _ _) wS_X12_in wM_X12_18 ⟨le_t rfl, le_t rfl⟩ ⟨le_t rfl, le_t rfl⟩ rfl (le_t rfl) fun z31 h30 => ?_
  refine mr_if_ne (pc := 27) (tgt := 32) dX12_pace_27 (by decide) (r32 h30.1 rfl) (fun h32 => ?_) (fun h32 => ?_)
  · have h33 : 1 ≤ z31 ∧ z31 ≤ 1 := (vc_X12_route_W_9 h32 h30.2.1 h30.2.2.1 hp3 h30.1)
    have h34 : (0 : Int) ≤ p3 ∧ p3 ≤ (1000 : Int) := (h30.2.1 (vc_X12_route_W_10 h30.2.1 h30.2.2.1 h32 hp3 h33))
    have h35 : 0 ≤ p3 ∧ p3 ≤ 1000 := (vc_X12_route_W_11 h34 h30.2.1 h30.2.2.1 hp3 h33)
    refine sv_aload_n (pc := 32) dX12_pace_32 rfl rfl ?_
    refine gf_X12_10 (pc := 33) dX12_pace_33 wF_X12_57 (A_106 hw) hT ?_
    refine mr_iload_n (pc := 36) (z := p1) dX12_pace_36 rfl rfl ?_
    refine mr_iload_n (pc := 37) (z := p2) dX12_pace_37 rfl rfl ?_
    refine ss_113 (pc := 38) dX12_pace_38 (A_113 hw) hT (rIx (n := 20) h14 rfl) (rW (c := 0) (d := 1000) h26 rfl) fun μ36 u37 T38 => ?_
    refine sv_aload_n (pc := 39) dX12_pace_39 rfl rfl ?_
    refine gf_X12_11 (pc := 40) dX12_pace_40 wF_X12_60 (A_106 hw) T38 ?_
    refine mr_iload_n (pc := 43) (z := p1) dX12_pace_43 rfl rfl ?_
    refine mr_iload_n (pc := 44) (z := p3) dX12_pace_44 rfl rfl ?_
    refine ss_114 (pc := 45) dX12_pace_45 (A_114 hw) T38 (rIx (n := 20) h14 rfl) h35 fun μ39 u40 T41 => ?_
    refine mr_iconst (pc := 46) (z := 0) dX12_pace_46 ?_
    exact mr_iret dX12_pace_47 rfl (le_t rfl) (le_t rfl) T41 (mF.up (mF.up mF.refl (A_113 hw) u37 rfl) (A_114 hw) u40 rfl) ⟨(rW (c := (-2147483648)) (d := 2147483647) (rR (x := 0)) rfl), ((((h30.2.2.2.1 h30.1).1 h32) μ36 u37 T38) μ39 u40 T41), trivial⟩
  have h42 : 0 ≤ z31 ∧ z31 ≤ 0 := (vc_X12_route_W_7 h32 h30.2.1 h30.2.2.1 hp3 h30.1)
  have h43 : p3 < (0 : Int) ∨ (1000 : Int) < p3 := (h30.2.2.1 (vc_X12_route_W_8 h30.2.1 h30.2.2.1 h32 hp3 h42))
  refine mr_iconst (pc := 30) (z := (-1)) dX12_pace_30 ?_
  exact mr_iret dX12_pace_31 rfl (le_t rfl) (le_t rfl) hT mF.refl ⟨(rW (c := (-2147483648)) (d := 2147483647) (rR (x := (-1))) rfl), ((h30.2.2.2.1 h30.1).2 h32), trivial⟩
def WL_X10_findPrefix_W_1 (μ : mM) (p1 : Int) (p2 : Int) (Q : Int → mM → Prop) (rec1 : (Int) → Prop) (s : (Int)) : Prop := ∀ z79 : Int, s = (z79) → (0 ≤ z79 ∧ z79 ≤ 10) → ∀ z88 : Int, μ 6 14 = z88 → (0 ≤ z88 ∧ z88 ≤ 10) → ((z88 ≤ z79) → Q ((-1) : Int) μ) ∧ ((z79 < z88) → ∀ z94 : Int, μ 7 (z79.toNat) = z94 → ((-2147483648) ≤ z94 ∧ z94 ≤ 2147483647) → ((¬ z94 = p1) → rec1 ((z79 + 1))) ∧ ((z94 = p1) → ∀ z98 : Int, μ 8 (z79.toNat) = z98 → (0 ≤ z98 ∧ z98 ≤ 32) → ((¬ z98 = p2) → rec1 ((z79 + 1))) ∧ ((z98 = p2) → Q z79 μ)))
def WP_X10_findPrefix_W (w : mW) (μ : mM) (p1 : Int) (p2 : Int) (Q : Int → mM → Prop) : Prop := loopF (WL_X10_findPrefix_W_1 μ p1 p2 Q) False 12 ((0 : Int))
theorem vc_X10_findPrefix_W_5 {p2 z98 : Int} (h0 : z98 = p2) (h1 : (-2147483648) ≤ p2 ∧ p2 ≤ 2147483647) (h2 : 0 ≤ z98 ∧ z98 ≤ 32) : 0 ≤ p2 ∧ p2 ≤ 32 := by omega
set_option maxRecDepth 4000 in
set_option maxHeartbeats 4000000 in
theorem c_X10_findPrefix_W {l : Launch} {D : va_G} {c : Nat → ClassId} {H0 : Heap} {sa : Nat × Nat × (Nat → Int32)} {w : mW} {μ : mM} (hw : mWF w) (hT : mT w μ) {p1 : Int} (hp1 : (-2147483648) ≤ p1 ∧ p1 ≤ 2147483647) {p2 : Int} (hp2 : (-2147483648) ≤ p2 ∧ p2 ≤ 2147483647) {Q : Int → mM → Prop} (hQ : WP_X10_findPrefix_W w μ p1 p2 Q) : sC (gG l D c H0 sa) mX10_findPrefix 1 0 0 [.ref 6, iv p1, iv p2] (mk w μ) (qP w μ (fun z => ((-1) ≤ z ∧ z ≤ 9) ∧ Q z μ ∧ True)) := by
  refine sC.of rfl (by decide) (le_t rfl) ?_
  refine mr_lvE (lv' := [(0, .ref 6), (1, iv p1), (2, iv p2)]) rfl ?_
  refine mr_iconst (pc := 0) (z := 0) dX10_findPrefix_0 ?_
  refine mr_istore_n (pc := 1) (lv' := [(3, iv 0), (0, .ref 6), (1, iv p1), (2, iv p2)]) dX10_findPrefix_1 rfl (by decide) rfl ?_
  have L80 : ∀ (nL80 : Nat) (z79 : Int), True → (0 ≤ z79 ∧ z79 ≤ 10) → (11 - z79) < (nL80 : Int) → loopF (WL_X10_findPrefix_W_1 μ p1 p2 Q) False nL80 (z79) → sV (gG l D c H0 sa) mX10_findPrefix (sRm 1 0 0) (sZ (gG l D c H0 sa) 0 0 (qP w μ (fun z => ((-1) ≤ z ∧ z ≤ 9) ∧ Q z μ ∧ True))) 2 [(0, .ref 6), (1, iv p1), (2, iv p2), (3, iv z79)] [] (mk w μ) 0 0 := by
    intro nL80
    induction nL80 with
    | zero => intro z79 _ h81 h85 W86; exact ((vc_X12_ring_2 h85 h81)).elim
    | succ nL80 ih87 =>
      intro z79 _ h81 h85 W86
      refine mr_iload_n (pc := 2) (z := z79) dX10_findPrefix_2 rfl rfl ?_
      refine sv_aload_n (pc := 3) dX10_findPrefix_3 rfl rfl ?_
      refine gf_X10_14 (pc := 4) dX10_findPrefix_4 wF_X10_60 (A_6 hw) hT fun z88 q89 h90 => ?_
      refine mr_icmp_ge (pc := 7) (tgt := 38) dX10_findPrefix_7 (by decide) (r32 h81 rfl) (r32 h90 rfl) (fun h91 => ?_) (fun h91 => ?_)
      · refine mr_iconst (pc := 38) (z := (-1)) dX10_findPrefix_38 ?_
        exact mr_iretP dX10_findPrefix_39 rfl (le_t rfl) (le_t rfl) ⟨(rW (c := (-1)) (d := 9) (rR (x := (-1))) rfl), (((W86 z79 rfl h81) z88 q89 h90).1 h91), trivial⟩
      have h92 : 0 ≤ z79 ∧ z79 ≤ 9 := (vc_X12_ring_3 h91 h81 h90)
      have h93 : 1 ≤ z88 ∧ z88 ≤ 10 := (vc_X12_ring_4 h91 h92 h90)
      refine sv_aload_n (pc := 10) dX10_findPrefix_10 rfl rfl ?_
      refine gf_X10_0 (pc := 11) dX10_findPrefix_11 wF_X10_9 (A_6 hw) hT ?_
      refine mr_iload_n (pc := 14) (z := z79) dX10_findPrefix_14 rfl rfl ?_
      refine la_7 (pc := 15) dX10_findPrefix_15 (A_7 hw) hT (rIx (n := 10) h92 rfl) fun z94 q95 h96 => ?_
      refine mr_iload_n (pc := 16) (z := p1) dX10_findPrefix_16 rfl rfl ?_
      refine mr_icmp_ne (pc := 17) (tgt := 32) dX10_findPrefix_17 (by decide) h96 hp1 (fun h97 => ?_) (fun h97 => ?_)
      · refine mr_iinc (pc := 32) (lv' := [(3, iv (z79 + 1)), (0, .ref 6), (1, iv p1), (2, iv p2)]) dX10_findPrefix_32 rfl (by decide) rfl ?_
        refine sv_goto (pc := 35) (tgt := 2) dX10_findPrefix_35 (by decide) ?_
        refine mr_lvS (lv' := [(0, .ref 6), (1, iv p1), (2, iv p2), (3, iv (z79 + 1))]) (List.forall_mem_cons.mpr ⟨rfl, List.forall_mem_cons.mpr ⟨rfl, List.forall_mem_cons.mpr ⟨rfl, List.forall_mem_cons.mpr ⟨rfl, fun _ h => absurd h List.not_mem_nil⟩⟩⟩⟩) ?_
        exact ih87 (z79 + 1) trivial (rW (c := 0) (d := 10) (rAdd (e := 1) (f := 10) h92 (rR (x := 1)) rfl) rfl) (vc_X12_sends_11 (nS h85) h91 h92 h93) (((((W86 z79 rfl h81) z88 q89 h90).2 h91) z94 q95 h96).1 h97)
      refine sv_aload_n (pc := 20) dX10_findPrefix_20 rfl rfl ?_
      refine gf_X10_1 (pc := 21) dX10_findPrefix_21 wF_X10_15 (A_6 hw) hT ?_
      refine mr_iload_n (pc := 24) (z := z79) dX10_findPrefix_24 rfl rfl ?_
      refine la_8 (pc := 25) dX10_findPrefix_25 (A_8 hw) hT (rIx (n := 10) h92 rfl) fun z98 q99 h100 => ?_
      refine mr_iload_n (pc := 26) (z := p2) dX10_findPrefix_26 rfl rfl ?_
      refine mr_icmp_ne (pc := 27) (tgt := 32) dX10_findPrefix_27 (by decide) (r32 h100 rfl) hp2 (fun h101 => ?_) (fun h101 => ?_)
      · refine mr_iinc (pc := 32) (lv' := [(3, iv (z79 + 1)), (0, .ref 6), (1, iv p1), (2, iv p2)]) dX10_findPrefix_32 rfl (by decide) rfl ?_
        refine sv_goto (pc := 35) (tgt := 2) dX10_findPrefix_35 (by decide) ?_
        refine mr_lvS (lv' := [(0, .ref 6), (1, iv p1), (2, iv p2), (3, iv (z79 + 1))]) (List.forall_mem_cons.mpr ⟨rfl, List.forall_mem_cons.mpr ⟨rfl, List.forall_mem_cons.mpr ⟨rfl, List.forall_mem_cons.mpr ⟨rfl, fun _ h => absurd h List.not_mem_nil⟩⟩⟩⟩) ?_
        exact ih87 (z79 + 1) trivial (rW (c := 0) (d := 10) (rAdd (e := 1) (f := 10) h92 (rR (x := 1)) rfl) rfl) (vc_X12_sends_11 (nS h85) h91 h92 h93) (((((((W86 z79 rfl h81) z88 q89 h90).2 h91) z94 q95 h96).2 h97) z98 q99 h100).1 h101)
      have h102 : 0 ≤ p2 ∧ p2 ≤ 32 := (vc_X10_findPrefix_W_5 h101 hp2 h100)
      refine mr_iload_n (pc := 30) (z := z79) dX10_findPrefix_30 rfl rfl ?_
      exact mr_iretP dX10_findPrefix_31 rfl (le_t rfl) (le_t rfl) ⟨(rW (c := (-1)) (d := 9) h92 rfl), (((((((W86 z79 rfl h81) z88 q89 h90).2 h91) z94 q95 h96).2 h97) z98 q99 h100).2 h101), trivial⟩
  refine mr_lvS (lv' := [(0, .ref 6), (1, iv p1), (2, iv p2), (3, iv 0)]) (List.forall_mem_cons.mpr ⟨rfl, List.forall_mem_cons.mpr ⟨rfl, List.forall_mem_cons.mpr ⟨rfl, List.forall_mem_cons.mpr ⟨rfl, fun _ h => absurd h List.not_mem_nil⟩⟩⟩⟩) ?_
  exact L80 12 0 trivial (rW (c := 0) (d := 10) (rR (x := 0)) rfl) vc_X12_ring_27 hQ
def WP_X10_addPrefix_W (w : mW) (μ : mM) (p1 : Int) (p2 : Int) (Q : Int → mM → Prop) : Prop := ∀ f_p : Int, μ 6 14 = f_p → (0 ≤ f_p ∧ f_p ≤ 10) → ∀ μ53 : mM, mU μ 7 (f_p.toNat) p1 μ53 → mT w μ53 → ∀ μ56 : mM, mU μ53 8 (f_p.toNat) p2 μ56 → mT w μ56 → WP_X10_maskOf_W w μ56 p2 (fun z63 _ => ((-2147483648) ≤ z63 ∧ z63 ≤ 2147483647) → ∀ μ64 : mM, mU μ56 9 (f_p.toNat) z63 μ64 → mT w μ64 → ∀ μ67 : mM, mU μ64 6 (14) (f_p + 1) μ67 → mT w μ67 → Q ((f_p + 1) - 1) μ67)
theorem vc_X10_addPrefix_W_1 {f_p : Int} (h0 : f_p ≤ 9) (h1 : 0 ≤ f_p ∧ f_p ≤ 10) : 0 ≤ f_p ∧ f_p ≤ 9 := by omega
set_option maxRecDepth 4000 in
set_option maxHeartbeats 4000000 in
theorem c_X10_addPrefix_W {l : Launch} {D : va_G} {c : Nat → ClassId} {H0 : Heap} {sa : Nat × Nat × (Nat → Int32)} {w : mW} {μ : mM} (hw : mWF w) (hT : mT w μ) {p1 : Int} (hp1 : (-2147483648) ≤ p1 ∧ p1 ≤ 2147483647) {p2 : Int} (hp2 : 0 ≤ p2 ∧ p2 ≤ 32) {f_p : Int} (q_f_p : μ 6 14 = f_p) (hq0 : f_p ≤ 9) {Q : Int → mM → Prop} (hQ : WP_X10_addPrefix_W w μ p1 p2 Q) : sC (gG l D c H0 sa) mX10_addPrefix 2 0 0 [.ref 6, iv p1, iv p2] (mk w μ) (qI w [6014, 7999, 8999, 9999] μ (fun z μ1 => ((-2147483648) ≤ z ∧ z ≤ 2147483647) ∧ Q z μ1 ∧ True)) := by
  refine sC.of rfl (by decide) (le_t rfl) ?_
  have ht_f_p : (0 ≤ f_p ∧ f_p ≤ 10) := by rw [← q_f_p]; exact hT 6 6 (A_6 hw) 14
  have h1 : 0 ≤ f_p ∧ f_p ≤ 9 := (vc_X10_addPrefix_W_1 hq0 ht_f_p)
  refine mr_lvE (lv' := [(0, .ref 6), (1, iv p1), (2, iv p2)]) rfl ?_
  refine sv_aload_n (pc := 0) dX10_addPrefix_0 rfl rfl ?_
  refine gf_X10_0 (pc := 1) dX10_addPrefix_1 wF_X10_9 (A_6 hw) hT ?_
  refine sv_aload_n (pc := 4) dX10_addPrefix_4 rfl rfl ?_
  refine gk_X10_14 (pc := 5) dX10_addPrefix_5 wF_X10_60 (A_6 hw) q_f_p ?_
  refine mr_iload_n (pc := 8) (z := p1) dX10_addPrefix_8 rfl rfl ?_
  refine ss_7 (pc := 9) dX10_addPrefix_9 (A_7 hw) hT (rIx (n := 10) h1 rfl) hp1 fun μ53 u54 T55 => ?_
  refine sv_aload_n (pc := 10) dX10_addPrefix_10 rfl rfl ?_
  refine gf_X10_1 (pc := 11) dX10_addPrefix_11 wF_X10_15 (A_6 hw) T55 ?_
  refine sv_aload_n (pc := 14) dX10_addPrefix_14 rfl rfl ?_
  refine gk_X10_14 (pc := 15) dX10_addPrefix_15 wF_X10_60 (A_6 hw) (u54.f (Or.inl (mAt.ne (A_7 hw) (A_6 hw) rfl)) q_f_p) ?_
  refine mr_iload_n (pc := 18) (z := p2) dX10_addPrefix_18 rfl rfl ?_
  refine ss_8 (pc := 19) dX10_addPrefix_19 (A_8 hw) T55 (rIx (n := 10) h1 rfl) hp2 fun μ56 u57 T58 => ?_
  refine sv_aload_n (pc := 20) dX10_addPrefix_20 rfl rfl ?_
  refine gf_X10_2 (pc := 21) dX10_addPrefix_21 wF_X10_18 (A_6 hw) T58 ?_
  refine sv_aload_n (pc := 24) dX10_addPrefix_24 rfl rfl ?_
  refine gk_X10_14 (pc := 25) dX10_addPrefix_25 wF_X10_60 (A_6 hw) (u57.f (Or.inl (mAt.ne (A_8 hw) (A_6 hw) rfl)) (u54.f (Or.inl (mAt.ne (A_7 hw) (A_6 hw) rfl)) q_f_p)) ?_
  refine mr_iload_n (pc := 28) (z := p2) dX10_addPrefix_28 rfl rfl ?_
  refine mr_cSP (pc := 29) (c_X10_maskOf_W hw T58 (rW (c := (-2147483648)) (d := 2147483647) hp2 rfl) (((hQ f_p q_f_p ht_f_p) μ53 u54 T55) μ56 u57 T58)) (gOk _ _ _ _ _) dX10_addPrefix_29 (tX10_maskOf _ _ _ _ _) wS_X10_maskOf wM_X10_64 ⟨le_t rfl, le_t rfl⟩ ⟨le_t rfl, le_t rfl⟩ rfl (le_t rfl) fun z63 h62 => ?_
  refine ss_9 (pc := 32) dX10_addPrefix_32 (A_9 hw) T58 (rIx (n := 10) h1 rfl) h62.1 fun μ64 u65 T66 => ?_
  refine sv_aload_n (pc := 33) dX10_addPrefix_33 rfl rfl ?_
  refine sv_dup (pc := 34) dX10_addPrefix_34 rfl ?_
  refine gk_X10_14 (pc := 35) dX10_addPrefix_35 wF_X10_60 (A_6 hw) (u65.f (Or.inl (mAt.ne (A_9 hw) (A_6 hw) rfl)) (u57.f (Or.inl (mAt.ne (A_8 hw) (A_6 hw) rfl)) (u54.f (Or.inl (mAt.ne (A_7 hw) (A_6 hw) rfl)) q_f_p))) ?_
  refine mr_iconst (pc := 38) (z := 1) dX10_addPrefix_38 ?_
  refine mr_iadd (pc := 39) (x := f_p) (y := 1) dX10_addPrefix_39 ?_
  refine pf_X10_14 (pc := 40) dX10_addPrefix_40 wF_X10_60 (A_6 hw) T66 (rW (c := 0) (d := 10) (rAdd (e := 1) (f := 10) h1 (rR (x := 1)) rfl) rfl) fun μ67 u68 T69 => ?_
  refine sv_aload_n (pc := 43) dX10_addPrefix_43 rfl rfl ?_
  refine gk_X10_14 (pc := 44) dX10_addPrefix_44 wF_X10_60 (A_6 hw) u68.1 ?_
  refine mr_iconst (pc := 47) (z := 1) dX10_addPrefix_47 ?_
  refine mr_isub (pc := 48) (x := (f_p + 1)) (y := 1) dX10_addPrefix_48 ?_
  exact mr_iret dX10_addPrefix_49 rfl (le_t rfl) (le_t rfl) T69 (mF.up (mF.up (mF.up (mF.up mF.refl (A_7 hw) u54 rfl) (A_8 hw) u57 rfl) (A_9 hw) u65 rfl) (A_6 hw) u68 rfl) ⟨(rW (c := (-2147483648)) (d := 2147483647) (rSub (e := 0) (f := 9) (rAdd (e := 1) (f := 10) h1 (rR (x := 1)) rfl) (rR (x := 1)) rfl) rfl), (((h62.2.1 h62.1) μ64 u65 T66) μ67 u68 T69), trivial⟩
def WP_X11_prefix_W (w : mW) (μ : mM) (p1 : Int) (p2 : Int) (Q : Int → mM → Prop) : Prop := ((p2 < 0) → Q ((-1) : Int) μ) ∧ ((0 ≤ p2) → ((32 < p2) → Q ((-1) : Int) μ) ∧ ((p2 ≤ 32) → WP_X10_maskOf_W w μ p2 (fun z11 _ => ((-2147483648) ≤ z11 ∧ z11 ≤ 2147483647) → ∀ z12 : Int, bXor z11 ((-1) : Int) = z12 → ∀ z15 : Int, bAnd p1 z12 = z15 → ((z15 = 0) → WP_X10_findPrefix_W w μ p1 p2 (fun z24 _ => ((-1) ≤ z24 ∧ z24 ≤ 9) → ((z24 < 0) → ∀ z27 : Int, μ 6 14 = z27 → (0 ≤ z27 ∧ z27 ≤ 10) → ((z27 < 10) → WP_X10_addPrefix_W w μ p1 p2 (fun z36 μ32 => mT w μ32 → mF [6014, 7999, 8999, 9999] w μ μ32 → ((-2147483648) ≤ z36 ∧ z36 ≤ 2147483647) → Q z36 μ32)) ∧ ((10 ≤ z27) → Q ((-3) : Int) μ)) ∧ ((0 ≤ z24) → Q ((-2) : Int) μ))) ∧ ((¬ z15 = 0) → Q ((-1) : Int) μ))))
theorem vc_X11_prefix_W_3 {p2 : Int} (h0 : 32 < p2) (h1 : 0 ≤ p2) (h2 : 0 ≤ p2 ∧ p2 ≤ 2147483647) : 33 ≤ p2 ∧ p2 ≤ 2147483647 := by omega
theorem vc_X11_prefix_W_4 {p2 : Int} (h0 : p2 ≤ 32) (h1 : 0 ≤ p2) (h2 : 0 ≤ p2 ∧ p2 ≤ 2147483647) : 0 ≤ p2 ∧ p2 ≤ 32 := by omega
theorem vc_X11_prefix_W_8 {z27 : Int} (h0 : z27 < 10) (h1 : 0 ≤ z27 ∧ z27 ≤ 9) : z27 ≤ 9 := by omega
set_option maxRecDepth 4000 in
set_option maxHeartbeats 4000000 in
theorem c_X11_prefix_W {l : Launch} {D : va_G} {c : Nat → ClassId} {H0 : Heap} {sa : Nat × Nat × (Nat → Int32)} {w : mW} {μ : mM} (hw : mWF w) (hT : mT w μ) {p1 : Int} (hp1 : (-2147483648) ≤ p1 ∧ p1 ≤ 2147483647) {p2 : Int} (hp2 : (-2147483648) ≤ p2 ∧ p2 ≤ 2147483647) {Q : Int → mM → Prop} (hQ : WP_X11_prefix_W w μ p1 p2 Q) : sC (gG l D c H0 sa) mX11_prefix 3 0 0 [.ref 0, iv p1, iv p2] (mk w μ) (qI w [6014, 7999, 8999, 9999] μ (fun z μ1 => ((-2147483648) ≤ z ∧ z ≤ 2147483647) ∧ Q z μ1 ∧ True)) := by
  refine sC.of rfl (by decide) (le_t rfl) ?_
  refine mr_lvE (lv' := [(0, .ref 0), (1, iv p1), (2, iv p2)]) rfl ?_
  refine mr_iload_n (pc := 0) (z := p2) dX11_prefix_0 rfl rfl ?_
  refine mr_if_lt (pc := 1) (tgt := 21) dX11_prefix_1 (by decide) hp2 (fun h1 => ?_) (fun h1 => ?_)
  · have h2 : (-2147483648) ≤ p2 ∧ p2 ≤ (-1) := (vc_X12_ring_60 h1 hp2)
    refine mr_iconst (pc := 21) (z := (-1)) dX11_prefix_21 ?_
    exact mr_iret dX11_prefix_22 rfl (le_t rfl) (le_t rfl) hT mF.refl ⟨(rW (c := (-2147483648)) (d := 2147483647) (rR (x := (-1))) rfl), (hQ.1 h1), trivial⟩
  have h3 : 0 ≤ p2 ∧ p2 ≤ 2147483647 := (vc_X12_ring_1 h1 hp2)
  refine mr_iload_n (pc := 4) (z := p2) dX11_prefix_4 rfl rfl ?_
  refine mr_bipush (pc := 5) (z := 32) dX11_prefix_5 (by decide) ?_
  refine mr_icmp_gt (pc := 7) (tgt := 21) dX11_prefix_7 (by decide) (r32 h3 rfl) (r32 (rR (x := 32)) rfl) (fun h4 => ?_) (fun h4 => ?_)
  · have h5 : 33 ≤ p2 ∧ p2 ≤ 2147483647 := (vc_X11_prefix_W_3 h4 h1 h3)
    refine mr_iconst (pc := 21) (z := (-1)) dX11_prefix_21 ?_
    exact mr_iret dX11_prefix_22 rfl (le_t rfl) (le_t rfl) hT mF.refl ⟨(rW (c := (-2147483648)) (d := 2147483647) (rR (x := (-1))) rfl), ((hQ.2 h1).1 h4), trivial⟩
  have h6 : 0 ≤ p2 ∧ p2 ≤ 32 := (vc_X11_prefix_W_4 h4 h1 h3)
  refine mr_iload_n (pc := 10) (z := p1) dX11_prefix_10 rfl rfl ?_
  refine mr_iload_n (pc := 11) (z := p2) dX11_prefix_11 rfl rfl ?_
  refine mr_cSP (pc := 12) (c_X10_maskOf_W hw hT (rW (c := (-2147483648)) (d := 2147483647) h6 rfl) ((hQ.2 h1).2 h4)) (gOk _ _ _ _ _) dX11_prefix_12 (tX10_maskOf _ _ _ _ _) wS_X10_maskOf wM_X11_84 ⟨le_t rfl, le_t rfl⟩ ⟨le_t rfl, le_t rfl⟩ rfl (le_t rfl) fun z11 h10 => ?_
  refine mr_iconst (pc := 15) (z := (-1)) dX11_prefix_15 ?_
  refine mr_ixor (pc := 16) (x := z11) (y := (-1)) dX11_prefix_16 ?_
  refine mr_gen (P := fun z => (-2147483648) ≤ z ∧ z ≤ 2147483647) (r32i _) fun z12 q13 h14 => ?_
  refine mr_iand (pc := 17) (x := p1) (y := z12) dX11_prefix_17 ?_
  refine mr_gen (P := fun z => (-2147483648) ≤ z ∧ z ≤ 2147483647) (r32i _) fun z15 q16 h17 => ?_
  refine mr_if_eq (pc := 18) (tgt := 23) dX11_prefix_18 (by decide) h17 (fun h18 => ?_) (fun h18 => ?_)
  · have h19 : 0 ≤ z15 ∧ z15 ≤ 0 := (vc_X12_mask_1 h18 h17)
    refine sv_aload_n (pc := 23) dX11_prefix_23 rfl rfl ?_
    refine gf_X11_3 (pc := 24) dX11_prefix_24 wF_X11_26 (A_0 hw) hT ?_
    refine mr_iload_n (pc := 27) (z := p1) dX11_prefix_27 rfl rfl ?_
    refine mr_iload_n (pc := 28) (z := p2) dX11_prefix_28 rfl rfl ?_
    refine mr_cVP (pc := 29) (c_X10_findPrefix_W hw hT hp1 (rW (c := (-2147483648)) (d := 2147483647) h6 rfl) ((((h10.2.1 h10.1) z12 q13) z15 q16).1 h18)) (gOk _ _ _ _ _) dX11_prefix_29 (tX10_findPrefix _ _ _ _ _) ⟨wV_X10_findPrefix, wL_X10_findPrefix⟩ wM_X11_88 (gCX10 _ _ _ _ _) rfl (A_6 hw) rfl ⟨le_t rfl, le_t rfl⟩ ⟨le_t rfl, le_t rfl⟩ rfl (le_t rfl) fun z24 h23 => ?_
    refine mr_if_lt (pc := 32) (tgt := 38) dX11_prefix_32 (by decide) (r32 h23.1 rfl) (fun h25 => ?_) (fun h25 => ?_)
    · have h26 : (-1) ≤ z24 ∧ z24 ≤ (-1) := (vc_X12_isThere_3 h25 h23.1)
      refine sv_aload_n (pc := 38) dX11_prefix_38 rfl rfl ?_
      refine gf_X11_3 (pc := 39) dX11_prefix_39 wF_X11_26 (A_0 hw) hT ?_
      refine gf_X10_14 (pc := 42) dX11_prefix_42 wF_X11_92 (A_6 hw) hT fun z27 q28 h29 => ?_
      refine mr_bipush (pc := 45) (z := 10) dX11_prefix_45 (by decide) ?_
      refine mr_icmp_lt (pc := 47) (tgt := 53) dX11_prefix_47 (by decide) (r32 h29 rfl) (r32 (rR (x := 10)) rfl) (fun h30 => ?_) (fun h30 => ?_)
      · have h31 : 0 ≤ z27 ∧ z27 ≤ 9 := (vc_X12_ring_57 h30 h29)
        refine sv_aload_n (pc := 53) dX11_prefix_53 rfl rfl ?_
        refine gf_X11_3 (pc := 54) dX11_prefix_54 wF_X11_26 (A_0 hw) hT ?_
        refine mr_iload_n (pc := 57) (z := p1) dX11_prefix_57 rfl rfl ?_
        refine mr_iload_n (pc := 58) (z := p2) dX11_prefix_58 rfl rfl ?_
        refine mr_cVI (pc := 59) (c_X10_addPrefix_W hw hT hp1 h6 q28 (vc_X11_prefix_W_8 h30 h31) ((((h23.2.1 h23.1).1 h25) z27 q28 h29).1 h30)) (gOk _ _ _ _ _) dX11_prefix_59 (tX10_addPrefix _ _ _ _ _) ⟨wV_X10_addPrefix, wL_X10_addPrefix⟩ wM_X11_95 (gCX10 _ _ _ _ _) rfl (A_6 hw) rfl ⟨le_t rfl, le_t rfl⟩ ⟨le_t rfl, le_t rfl⟩ rfl (le_t rfl) fun z36 μ32 T33 F34 h35 => ?_
        exact mr_iret dX11_prefix_62 rfl (le_t rfl) (le_t rfl) T33 (mF.call mF.refl F34 rfl) ⟨h35.1, ((h35.2.1 T33 F34) h35.1), trivial⟩
      have h37 : 10 ≤ z27 ∧ z27 ≤ 10 := (vc_X12_ring_6 h30 h29)
      refine mr_bipush (pc := 50) (z := (-3)) dX11_prefix_50 (by decide) ?_
      exact mr_iret dX11_prefix_52 rfl (le_t rfl) (le_t rfl) hT mF.refl ⟨(rW (c := (-2147483648)) (d := 2147483647) (rR (x := (-3))) rfl), ((((h23.2.1 h23.1).1 h25) z27 q28 h29).2 h30), trivial⟩
    have h38 : 0 ≤ z24 ∧ z24 ≤ 9 := (vc_X12_isThere_6 h25 h23.1)
    refine mr_bipush (pc := 35) (z := (-2)) dX11_prefix_35 (by decide) ?_
    exact mr_iret dX11_prefix_37 rfl (le_t rfl) (le_t rfl) hT mF.refl ⟨(rW (c := (-2147483648)) (d := 2147483647) (rR (x := (-2))) rfl), ((h23.2.1 h23.1).2 h25), trivial⟩
  refine mr_iconst (pc := 21) (z := (-1)) dX11_prefix_21 ?_
  exact mr_iret dX11_prefix_22 rfl (le_t rfl) (le_t rfl) hT mF.refl ⟨(rW (c := (-2147483648)) (d := 2147483647) (rR (x := (-1))) rfl), ((((h10.2.1 h10.1) z12 q13) z15 q16).2 h18), trivial⟩
