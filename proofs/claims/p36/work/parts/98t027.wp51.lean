def WP_X11_write_W (w : mW) (μ : mM) (p1 : Int) (p2 : Int) (p3 : Int) (Q : Int → mM → Prop) : Prop := ∀ z1 : Int, μ 6 16 = z1 → (z1 = w.2.2.2 1 ∧ 0 ≤ z1 ∧ z1 ≤ 20) → WP_X11_isTie_W w μ p1 (fun z8 _ => (0 ≤ z8 ∧ z8 ≤ 1) → ((z8 = 0) → Q ((-1) : Int) μ) ∧ ((¬ z8 = 0) → WP_X11_isEither_W w μ p2 (fun z20 _ => (0 ≤ z20 ∧ z20 ≤ 1) → ((z20 = 0) → Q ((-1) : Int) μ) ∧ ((¬ z20 = 0) → ∀ z27 : Int, μ 6 14 = z27 → (0 ≤ z27 ∧ z27 ≤ 10) → WP_X11_isPrefix_W w μ p3 (fun z34 _ => (0 ≤ z34 ∧ z34 ≤ 1) → ((¬ z34 = 0) → ∀ b40 : Nat, μ 11 (p1.toNat) = (b40 : Int) → mAt w b40 220 → WP_X9_placeOf_W w μ p2 p3 (fun z48 _ => (0 ≤ z48 ∧ z48 ≤ 19) → ∀ b49 : Nat, μ (b40 + 3) (z48.toNat) = (b49 : Int) → mAt w b49 200 → ∀ z52 : Int, μ 7 (p3.toNat) = z52 → ((-2147483648) ≤ z52 ∧ z52 ≤ 2147483647) → ∀ z55 : Int, μ 8 (p3.toNat) = z55 → (0 ≤ z55 ∧ z55 ≤ 32) → WP_X3_putDown_W w μ b49 z52 z55 (fun z62 μ58 => mT w μ58 → mF [76015, 86999] w μ μ58 → ((-2147483648) ≤ z62 ∧ z62 ≤ 2147483647) → Q z62 μ58))) ∧ ((z34 = 0) → Q ((-1) : Int) μ))))))
set_option maxRecDepth 4000 in
set_option maxHeartbeats 4000000 in
theorem c_X11_write_W {l : Launch} {D : va_G} {c : Nat → ClassId} {H0 : Heap} {sa : Nat × Nat × (Nat → Int32)} {w : mW} {μ : mM} (hw : mWF w) (hT : mT w μ) {p1 : Int} (hp1 : (-2147483648) ≤ p1 ∧ p1 ≤ 2147483647) {p2 : Int} (hp2 : (-2147483648) ≤ p2 ∧ p2 ≤ 2147483647) {p3 : Int} (hp3 : (-2147483648) ≤ p3 ∧ p3 ≤ 2147483647) {Q : Int → mM → Prop} (hQ : WP_X11_write_W w μ p1 p2 p3 Q) : sC (gG l D c H0 sa) mX11_write 5 0 0 [.ref 0, iv p1, iv p2, iv p3] (mk w μ) (qI w [76015, 86999] μ (fun z μ1 => ((-2147483648) ≤ z ∧ z ≤ 2147483647) ∧ Q z μ1 ∧ True)) := by
  refine sC.of rfl (by decide) (le_t rfl) ?_
  refine mr_lvE (lv' := [(0, .ref 0), (1, iv p1), (2, iv p2), (3, iv p3)]) rfl ?_
  refine sv_aload_n (pc := 0) dX11_write_0 rfl rfl ?_
  refine mr_iload_n (pc := 1) (z := p1) dX11_write_1 rfl rfl ?_
  obtain ⟨z1, q2⟩ : ∃ z, μ 6 16 = z := ⟨_, rfl⟩
  have h3 : (z1 = w.2.2.2 1 ∧ 0 ≤ z1 ∧ z1 ≤ 20) := by rw [← q2]; exact hT 6 6 (A_6 hw) 16
  refine mr_cVP (pc := 2) (c_X11_isTie_W hw hT hp1 q2 (hQ z1 q2 h3)) (gOk _ _ _ _ _) dX11_write_2 (tX11_isTie _ _ _ _ _) ⟨wV_X11_isTie, wL_X11_isTie⟩ wM_X11_119 (gCX11 _ _ _ _ _) rfl (A_0 hw) rfl ⟨le_t rfl, le_t rfl⟩ ⟨le_t rfl, le_t rfl⟩ rfl (le_t rfl) fun z8 h7 => ?_
  refine mr_if_eq (pc := 5) (tgt := 23) dX11_write_5 (by decide) (r32 h7.1 rfl) (fun h9 => ?_) (fun h9 => ?_)
  · have h10 : 0 ≤ z8 ∧ z8 ≤ 0 := (vc_X11_load_1 h9 h7.2.1 h7.2.2.1 hp1 h3.2 h7.1)
    have h11 : p1 < 0 ∨ z1 ≤ p1 := (h7.2.2.1 (vc_X11_load_2 h7.2.1 h7.2.2.1 h9 h3.1 hp1 h3.2 h10))
    refine mr_iconst (pc := 23) (z := (-1)) dX11_write_23 ?_
    exact mr_iret dX11_write_24 rfl (le_t rfl) (le_t rfl) hT mF.refl ⟨(rW (c := (-2147483648)) (d := 2147483647) (rR (x := (-1))) rfl), ((h7.2.2.2.1 h7.1).1 h9), trivial⟩
  have h12 : 1 ≤ z8 ∧ z8 ≤ 1 := (vc_X11_load_3 h9 h7.2.1 h7.2.2.1 hp1 h3.2 h7.1)
  have h13 : 0 ≤ p1 ∧ p1 < z1 := (h7.2.1 (vc_X11_load_4 h7.2.1 h7.2.2.1 h9 h3.1 hp1 h3.2 h12))
  have h14 : 0 ≤ p1 ∧ p1 ≤ 19 := (vc_X11_load_5 h13 h3.1 h7.2.1 h7.2.2.1 hp1 h3.2 h12)
  have h15 : 1 ≤ z1 ∧ z1 ≤ 20 := (vc_X11_load_6 h13 h3.1 h7.2.1 h7.2.2.1 h14 h3.2 h12)
  refine mr_iload_n (pc := 8) (z := p2) dX11_write_8 rfl rfl ?_
  refine mr_cSP (pc := 9) (c_X11_isEither_W hw hT hp2 ((h7.2.2.2.1 h7.1).2 h9)) (gOk _ _ _ _ _) dX11_write_9 (tX11_isEither _ _ _ _ _) wS_X11_isEither wM_X11_271 ⟨le_t rfl, le_t rfl⟩ ⟨le_t rfl, le_t rfl⟩ rfl (le_t rfl) fun z20 h19 => ?_
  refine mr_if_eq (pc := 12) (tgt := 23) dX11_write_12 (by decide) (r32 h19.1 rfl) (fun h21 => ?_) (fun h21 => ?_)
  · have h22 : 0 ≤ z20 ∧ z20 ≤ 0 := (vc_X11_load_11 h21 h19.2.1 h19.2.2.1 hp2 h19.1)
    have h23 : p2 < 0 ∨ 1 < p2 := (h19.2.2.1 (vc_X11_load_12 h19.2.1 h19.2.2.1 h21 hp2 h22))
    refine mr_iconst (pc := 23) (z := (-1)) dX11_write_23 ?_
    exact mr_iret dX11_write_24 rfl (le_t rfl) (le_t rfl) hT mF.refl ⟨(rW (c := (-2147483648)) (d := 2147483647) (rR (x := (-1))) rfl), ((h19.2.2.2.1 h19.1).1 h21), trivial⟩
  have h24 : 1 ≤ z20 ∧ z20 ≤ 1 := (vc_X11_load_7 h21 h19.2.1 h19.2.2.1 hp2 h19.1)
  have h25 : 0 ≤ p2 ∧ p2 ≤ 1 := (h19.2.1 (vc_X11_load_8 h19.2.1 h19.2.2.1 h21 hp2 h24))
  have h26 : 0 ≤ p2 ∧ p2 ≤ 1 := (vc_X11_load_9 h25 h19.2.1 h19.2.2.1 hp2 h24)
  refine sv_aload_n (pc := 15) dX11_write_15 rfl rfl ?_
  refine mr_iload_n (pc := 16) (z := p3) dX11_write_16 rfl rfl ?_
  obtain ⟨z27, q28⟩ : ∃ z, μ 6 14 = z := ⟨_, rfl⟩
  have h29 : (0 ≤ z27 ∧ z27 ≤ 10) := by rw [← q28]; exact hT 6 6 (A_6 hw) 14
  refine mr_cVP (pc := 17) (c_X11_isPrefix_W hw hT hp3 q28 (((h19.2.2.2.1 h19.1).2 h21) z27 q28 h29)) (gOk _ _ _ _ _) dX11_write_17 (tX11_isPrefix _ _ _ _ _) ⟨wV_X11_isPrefix, wL_X11_isPrefix⟩ wM_X11_182 (gCX11 _ _ _ _ _) rfl (A_0 hw) rfl ⟨le_t rfl, le_t rfl⟩ ⟨le_t rfl, le_t rfl⟩ rfl (le_t rfl) fun z34 h33 => ?_
  refine mr_if_ne (pc := 20) (tgt := 25) dX11_write_20 (by decide) (r32 h33.1 rfl) (fun h35 => ?_) (fun h35 => ?_)
  · have h36 : 1 ≤ z34 ∧ z34 ≤ 1 := (vc_X12_demand_3 h35 h33.2.1 h33.2.2.1 hp3 h29 h33.1)
    have h37 : 0 ≤ p3 ∧ p3 < z27 := (h33.2.1 (vc_X12_demand_4 h33.2.1 h33.2.2.1 h35 hp3 h29 h36))
    have h38 : 0 ≤ p3 ∧ p3 ≤ 9 := (vc_X12_demand_5 h37 h33.2.1 h33.2.2.1 hp3 h29 h36)
    have h39 : 1 ≤ z27 ∧ z27 ≤ 10 := (vc_X12_demand_6 h37 h33.2.1 h33.2.2.1 h38 h29 h36)
    refine sv_aload_n (pc := 25) dX11_write_25 rfl rfl ?_
    refine gf_X11_3 (pc := 26) dX11_write_26 wF_X11_26 (A_0 hw) hT ?_
    refine gf_X10_4 (pc := 29) dX11_write_29 wF_X11_122 (A_6 hw) hT ?_
    refine mr_iload_n (pc := 32) (z := p1) dX11_write_32 rfl rfl ?_
    refine la_11 (pc := 33) dX11_write_33 (A_11 hw) hT (rIx (n := 20) h14 rfl) (vc_X11_load_10 h3.1 h7.2.1 h7.2.2.1 h13 h9 h14 h15 h12) fun b40 q41 A42 => ?_
    refine gf_X9_5 (pc := 34) dX11_write_34 wF_X11_327 A42 hT fun A43 => ?_
    refine mr_iload_n (pc := 37) (z := p2) dX11_write_37 rfl rfl ?_
    refine mr_iload_n (pc := 38) (z := p3) dX11_write_38 rfl rfl ?_
    refine mr_cSP (pc := 39) (c_X9_placeOf_W hw hT h26 h38 (((h33.2.2.2.1 h33.1).1 h35) b40 q41 A42)) (gOk _ _ _ _ _) dX11_write_39 (tX9_placeOf _ _ _ _ _) wS_X9_placeOf wM_X11_321 ⟨le_t rfl, le_t rfl⟩ ⟨le_t rfl, le_t rfl⟩ rfl (le_t rfl) fun z48 h47 => ?_
    refine la_223 (pc := 42) dX11_write_42 A43 hT (rIx (n := 20) h47.1 rfl) fun b49 q50 A51 => ?_
    refine mr_astore (pc := 43) (lv' := [(4, .ref b49), (0, .ref 0), (1, iv p1), (2, iv p2), (3, iv p3)]) dX11_write_43 (by decide) rfl ?_
    refine sv_aload_n (pc := 45) dX11_write_45 rfl rfl ?_
    refine gf_X11_7 (pc := 46) dX11_write_46 wF_X11_58 (A_0 hw) hT ?_
    refine sv_aload (pc := 49) dX11_write_49 rfl ?_
    refine sv_aload_n (pc := 51) dX11_write_51 rfl rfl ?_
    refine gf_X11_3 (pc := 52) dX11_write_52 wF_X11_26 (A_0 hw) hT ?_
    refine gf_X10_0 (pc := 55) dX11_write_55 wF_X11_351 (A_6 hw) hT ?_
    refine mr_iload_n (pc := 58) (z := p3) dX11_write_58 rfl rfl ?_
    refine la_7 (pc := 59) dX11_write_59 (A_7 hw) hT (rIx (n := 10) h38 rfl) fun z52 q53 h54 => ?_
    refine sv_aload_n (pc := 60) dX11_write_60 rfl rfl ?_
    refine gf_X11_3 (pc := 61) dX11_write_61 wF_X11_26 (A_0 hw) hT ?_
    refine gf_X10_1 (pc := 64) dX11_write_64 wF_X11_185 (A_6 hw) hT ?_
    refine mr_iload_n (pc := 67) (z := p3) dX11_write_67 rfl rfl ?_
    refine la_8 (pc := 68) dX11_write_68 (A_8 hw) hT (rIx (n := 10) h38 rfl) fun z55 q56 h57 => ?_
    refine mr_cVI (pc := 69) (c_X3_putDown_W hw hT A51 h54 h57 ((((h47.2.1 h47.1) b49 q50 A51) z52 q53 h54) z55 q56 h57)) (gOk _ _ _ _ _) dX11_write_69 (tX3_putDown _ _ _ _ _) ⟨wV_X3_putDown, wL_X3_putDown⟩ wM_X11_354 (gCX3 _ _ _ _ _) rfl (A_76 hw) rfl ⟨le_t rfl, le_t rfl⟩ ⟨le_t rfl, le_t rfl⟩ rfl (le_t rfl) fun z62 μ58 T59 F60 h61 => ?_
    exact mr_iret dX11_write_72 rfl (le_t rfl) (le_t rfl) T59 (mF.call mF.refl F60 rfl) ⟨h61.1, ((h61.2.1 T59 F60) h61.1), trivial⟩
  have h63 : 0 ≤ z34 ∧ z34 ≤ 0 := (vc_X12_demand_1 h35 h33.2.1 h33.2.2.1 hp3 h29 h33.1)
  have h64 : p3 < 0 ∨ z27 ≤ p3 := (h33.2.2.1 (vc_X12_demand_2 h33.2.1 h33.2.2.1 h35 hp3 h29 h63))
  refine mr_iconst (pc := 23) (z := (-1)) dX11_write_23 ?_
  exact mr_iret dX11_write_24 rfl (le_t rfl) (le_t rfl) hT mF.refl ⟨(rW (c := (-2147483648)) (d := 2147483647) (rR (x := (-1))) rfl), ((h33.2.2.2.1 h33.1).2 h35), trivial⟩
def WP_X12_octet1_W (w : mW) (μ : mM) (p1 : Int) (Q : mM → Prop) : Prop := ∀ f_w : Int, μ 106 104 = f_w → (0 ≤ f_w ∧ f_w ≤ 300) → ∀ z29 : Int, bAnd p1 (255 : Int) = z29 → ∀ μ32 : mM, mU μ 174 (f_w.toNat) z29 μ32 → mT w μ32 → ∀ μ35 : mM, mU μ32 106 (104) (f_w + 1) μ35 → mT w μ35 → Q μ35
theorem vc_X12_octet1_W_2 {f_w : Int} (h0 : f_w ≤ 299) (h1 : 0 ≤ f_w ∧ f_w ≤ 299) : (f_w + 1) = f_w + 1 := by omega
set_option maxRecDepth 4000 in
set_option maxHeartbeats 4000000 in
theorem c_X12_octet1_W {l : Launch} {D : va_G} {c : Nat → ClassId} {H0 : Heap} {sa : Nat × Nat × (Nat → Int32)} {w : mW} {μ : mM} (hw : mWF w) (hT : mT w μ) {p1 : Int} (hp1 : (-2147483648) ≤ p1 ∧ p1 ≤ 2147483647) {f_w : Int} (q_f_w : μ 106 104 = f_w) (hq0 : f_w ≤ 299) {Q : mM → Prop} (hQ : WP_X12_octet1_W w μ p1 Q) : sC (gG l D c H0 sa) mX12_octet1 1 0 0 [.ref 106, iv p1] (mk w μ) (qV w [106104, 174999] μ (fun μ1 => ∃ o_w : Int, μ1 106 104 = o_w ∧ (o_w = f_w + 1) ∧ Q μ1 ∧ True)) := by
  refine sC.of rfl (by decide) (le_t rfl) ?_
  have ht_f_w : (0 ≤ f_w ∧ f_w ≤ 300) := by rw [← q_f_w]; exact hT 106 106 (A_106 hw) 104
  have h1 : 0 ≤ f_w ∧ f_w ≤ 299 := (vc_X12_test_Wx_4 hq0 ht_f_w)
  refine mr_lvE (lv' := [(0, .ref 106), (1, iv p1)]) rfl ?_
  refine sv_aload_n (pc := 0) dX12_octet1_0 rfl rfl ?_
  refine gf_X12_103 (pc := 1) dX12_octet1_1 wF_X12_484 (A_106 hw) hT ?_
  refine sv_aload_n (pc := 4) dX12_octet1_4 rfl rfl ?_
  refine gk_X12_104 (pc := 5) dX12_octet1_5 wF_X12_671 (A_106 hw) q_f_w ?_
  refine mr_iload_n (pc := 8) (z := p1) dX12_octet1_8 rfl rfl ?_
  refine mr_sipush (pc := 9) (z := 255) dX12_octet1_9 (by decide) ?_
  refine mr_iand (pc := 12) (x := p1) (y := 255) dX12_octet1_12 ?_
  refine mr_gen (P := fun z => 0 ≤ z ∧ z ≤ 255) (rAndR (rR (x := 255)) rfl) fun z29 q30 h31 => ?_
  refine ss_174 (pc := 13) dX12_octet1_13 (A_174 hw) hT (rIx (n := 300) h1 rfl) (rW (c := (-2147483648)) (d := 2147483647) h31 rfl) fun μ32 u33 T34 => ?_
  refine sv_aload_n (pc := 14) dX12_octet1_14 rfl rfl ?_
  refine sv_dup (pc := 15) dX12_octet1_15 rfl ?_
  refine gk_X12_104 (pc := 16) dX12_octet1_16 wF_X12_671 (A_106 hw) (u33.f (Or.inl (mAt.ne (A_174 hw) (A_106 hw) rfl)) q_f_w) ?_
  refine mr_iconst (pc := 19) (z := 1) dX12_octet1_19 ?_
  refine mr_iadd (pc := 20) (x := f_w) (y := 1) dX12_octet1_20 ?_
  refine pf_X12_104 (pc := 21) dX12_octet1_21 wF_X12_671 (A_106 hw) T34 (rW (c := 0) (d := 300) (rAdd (e := 1) (f := 300) h1 (rR (x := 1)) rfl) rfl) fun μ35 u36 T37 => ?_
  exact mr_vret dX12_octet1_24 rfl (le_t rfl) (le_t rfl) T37 (mF.up (mF.up mF.refl (A_174 hw) u33 rfl) (A_106 hw) u36 rfl) ⟨(f_w + 1), u36.1, (vc_X12_octet1_W_2 hq0 h1), ((((hQ f_w q_f_w ht_f_w) z29 q30) μ32 u33 T34) μ35 u36 T37), trivial⟩
def WL_X12_prefixOut_W_1 (w : mW) (p1 : Int) (Q : mM → Prop) (z263 : Int) (μ266 : mM) (rec1 : (Int × mM) → Prop) (s : (Int × mM)) : Prop := ∀ z400 : Int, ∀ μ401 : mM, s = (z400, μ401) → (0 ≤ z400 ∧ z400 ≤ 4) → mT w μ401 → mF [106104, 174999] w μ266 μ401 → ∀ f_w : Int, μ401 106 (104) = f_w → (0 ≤ f_w ∧ f_w ≤ 300) → ∀ z414 : Int, (z263 + 7) / 8 = z414 → ((z414 ≤ z400) → Q μ401) ∧ ((z400 < z414) → ∀ z437 : Int, μ401 108 (p1.toNat) = z437 → ((-2147483648) ≤ z437 ∧ z437 ≤ 2147483647) → ∀ z440 : Int, bShr z437 (24 - (8 * z400)) = z440 → WP_X12_octet1_W w μ401 z440 (fun μ443 => mT w μ443 → mF [106104, 174999] w μ401 μ443 → ∀ z448 : Int, μ443 106 104 = z448 → rec1 ((z400 + 1), μ443)))
def WP_X12_prefixOut_W (w : mW) (μ : mM) (p1 : Int) (Q : mM → Prop) : Prop := ∀ f_w0 : Int, μ 106 104 = f_w0 → (0 ≤ f_w0 ∧ f_w0 ≤ 300) → ∀ z263 : Int, μ 109 (p1.toNat) = z263 → (0 ≤ z263 ∧ z263 ≤ 32) → WP_X12_octet1_W w μ z263 (fun μ266 => mT w μ266 → mF [106104, 174999] w μ μ266 → ∀ z270 : Int, μ266 106 104 = z270 → loopF (WL_X12_prefixOut_W_1 w p1 Q z263 μ266) False 6 ((0 : Int), μ266))
theorem vc_X12_prefixOut_W_1 {f_w0 : Int} (h0 : f_w0 ≤ 290) (h1 : 0 ≤ f_w0 ∧ f_w0 ≤ 300) : 0 ≤ f_w0 ∧ f_w0 ≤ 290 := by omega
theorem vc_X12_prefixOut_W_2 {f_w0 : Int} (h0 : f_w0 ≤ 290) (h1 : 0 ≤ f_w0 ∧ f_w0 ≤ 290) : f_w0 ≤ 299 := by omega
theorem vc_X12_prefixOut_W_3 {f_w f_w0 z270 z400 : Int} (h0 : (5 - z400) < ((0 : Nat) : Int)) (h1 : f_w = f_w0 + 1 + z400) (h2 : z400 ≤ 4) (h3 : f_w0 ≤ 290) (h4 : z270 = f_w0 + 1) (h5 : 0 ≤ f_w0 ∧ f_w0 ≤ 290) (h6 : 0 ≤ z270 ∧ z270 ≤ 300) (h7 : 0 ≤ z400 ∧ z400 ≤ 4) : False := by omega
theorem vc_X12_prefixOut_W_5 {f_w f_w0 z270 z400 z414 : Int} (h0 : f_w0 ≤ 290) (h1 : z270 = f_w0 + 1) (h2 : f_w = f_w0 + 1 + z400) (h3 : z400 ≤ 4) (h4 : z414 ≤ z400) (h5 : 0 ≤ f_w ∧ f_w ≤ 300) (h6 : 0 ≤ f_w0 ∧ f_w0 ≤ 290) (h7 : 0 ≤ z270 ∧ z270 ≤ 300) (h8 : 0 ≤ z400 ∧ z400 ≤ 4) (h9 : 0 ≤ z414 ∧ z414 ≤ 4) : f_w ≤ f_w0 + 5 := by omega
theorem vc_X12_prefixOut_W_6 {f_w f_w0 z263 z400 z414 : Int} (h0 : z400 < z414) (h1 : f_w = f_w0 + 1 + z400) (h2 : z400 ≤ 4) (h3 : (z263 + 7) / 8 = z414) (h4 : 0 ≤ f_w ∧ f_w ≤ 300) (h5 : 0 ≤ f_w0 ∧ f_w0 ≤ 290) (h6 : 0 ≤ z263 ∧ z263 ≤ 32) (h7 : 0 ≤ z400 ∧ z400 ≤ 4) (h8 : 0 ≤ z414 ∧ z414 ≤ 4) : 0 ≤ z400 ∧ z400 ≤ 3 := by omega
theorem vc_X12_prefixOut_W_7 {f_w f_w0 z263 z400 z414 : Int} (h0 : z400 < z414) (h1 : f_w = f_w0 + 1 + z400) (h2 : z400 ≤ 4) (h3 : (z263 + 7) / 8 = z414) (h4 : 0 ≤ f_w ∧ f_w ≤ 300) (h5 : 0 ≤ f_w0 ∧ f_w0 ≤ 290) (h6 : 0 ≤ z263 ∧ z263 ≤ 32) (h7 : 0 ≤ z400 ∧ z400 ≤ 3) (h8 : 0 ≤ z414 ∧ z414 ≤ 4) : 1 ≤ z414 ∧ z414 ≤ 4 := by omega
theorem vc_X12_prefixOut_W_8 {f_w f_w0 z270 z400 z414 : Int} (h0 : f_w = f_w0 + 1 + z400) (h1 : f_w0 ≤ 290) (h2 : z270 = f_w0 + 1) (h3 : z400 ≤ 4) (h4 : z400 < z414) (h5 : 0 ≤ f_w ∧ f_w ≤ 300) (h6 : 0 ≤ f_w0 ∧ f_w0 ≤ 290) (h7 : 0 ≤ z270 ∧ z270 ≤ 300) (h8 : 0 ≤ z400 ∧ z400 ≤ 3) (h9 : 1 ≤ z414 ∧ z414 ≤ 4) : f_w ≤ 299 := by omega
theorem vc_X12_prefixOut_W_9 {f_w f_w0 z263 z270 z400 z414 z448 : Int} (h0 : f_w0 ≤ 290) (h1 : z270 = f_w0 + 1) (h2 : f_w = f_w0 + 1 + z400) (h3 : z400 ≤ 4) (h4 : z400 < z414) (h5 : z448 = f_w + 1) (h6 : (z263 + 7) / 8 = z414) (h7 : 0 ≤ f_w ∧ f_w ≤ 300) (h8 : 0 ≤ f_w0 ∧ f_w0 ≤ 290) (h9 : 0 ≤ z263 ∧ z263 ≤ 32) (h10 : 0 ≤ z270 ∧ z270 ≤ 300) (h11 : 0 ≤ z400 ∧ z400 ≤ 3) (h12 : 1 ≤ z414 ∧ z414 ≤ 4) (h13 : 0 ≤ z448 ∧ z448 ≤ 300) : (f_w + 1) = f_w0 + 1 + (z400 + 1) := by omega
theorem vc_X12_prefixOut_W_10 {f_w f_w0 z263 z270 z400 z414 z448 : Int} (h0 : f_w = f_w0 + 1 + z400) (h1 : z400 ≤ 4) (h2 : z400 < z414) (h3 : f_w0 ≤ 290) (h4 : z270 = f_w0 + 1) (h5 : (z263 + 7) / 8 = z414) (h6 : z448 = f_w + 1) (h7 : 0 ≤ f_w ∧ f_w ≤ 300) (h8 : 0 ≤ f_w0 ∧ f_w0 ≤ 290) (h9 : 0 ≤ z263 ∧ z263 ≤ 32) (h10 : 0 ≤ z270 ∧ z270 ≤ 300) (h11 : 0 ≤ z400 ∧ z400 ≤ 3) (h12 : 1 ≤ z414 ∧ z414 ≤ 4) (h13 : 0 ≤ z448 ∧ z448 ≤ 300) : (z400 + 1) ≤ 4 := by omega
theorem vc_X12_prefixOut_W_11 {N f_w f_w0 z263 z270 z400 z414 z448 : Int} (h0 : (5 - z400) < N + 1) (h1 : f_w = f_w0 + 1 + z400) (h2 : z400 ≤ 4) (h3 : z400 < z414) (h4 : f_w0 ≤ 290) (h5 : z270 = f_w0 + 1) (h6 : (z263 + 7) / 8 = z414) (h7 : z448 = f_w + 1) (h8 : 0 ≤ f_w ∧ f_w ≤ 300) (h9 : 0 ≤ f_w0 ∧ f_w0 ≤ 290) (h10 : 0 ≤ z263 ∧ z263 ≤ 32) (h11 : 0 ≤ z270 ∧ z270 ≤ 300) (h12 : 0 ≤ z400 ∧ z400 ≤ 3) (h13 : 1 ≤ z414 ∧ z414 ≤ 4) (h14 : 0 ≤ z448 ∧ z448 ≤ 300) : (5 - (z400 + 1)) < N := by omega
theorem vc_X12_prefixOut_W_12 {f_w0 z270 : Int} (h0 : f_w0 ≤ 290) (h1 : z270 = f_w0 + 1) (h2 : 0 ≤ f_w0 ∧ f_w0 ≤ 290) (h3 : 0 ≤ z270 ∧ z270 ≤ 300) : (f_w0 + 1) = f_w0 + 1 + (0 : Int) := by omega
theorem vc_X12_prefixOut_W_13  : ((0 : Int) : Int) ≤ (4 : Int) := by omega
set_option maxRecDepth 4000 in
set_option maxHeartbeats 4000000 in
theorem c_X12_prefixOut_W {l : Launch} {D : va_G} {c : Nat → ClassId} {H0 : Heap} {sa : Nat × Nat × (Nat → Int32)} {w : mW} {μ : mM} (hw : mWF w) (hT : mT w μ) {p1 : Int} (hp1 : 0 ≤ p1 ∧ p1 ≤ 9) {f_w0 : Int} (q_f_w0 : μ 106 104 = f_w0) (hq0 : f_w0 ≤ 290) {Q : mM → Prop} (hQ : WP_X12_prefixOut_W w μ p1 Q) : sC (gG l D c H0 sa) mX12_prefixOut 2 0 0 [.ref 106, iv p1] (mk w μ) (qV w [106104, 174999] μ (fun μ1 => ∃ o_w : Int, μ1 106 104 = o_w ∧ (o_w ≤ f_w0 + 5) ∧ Q μ1 ∧ True)) := by
  refine sC.of rfl (by decide) (le_t rfl) ?_
  have ht_f_w0 : (0 ≤ f_w0 ∧ f_w0 ≤ 300) := by rw [← q_f_w0]; exact hT 106 106 (A_106 hw) 104
  have h1 : 0 ≤ f_w0 ∧ f_w0 ≤ 290 := (vc_X12_prefixOut_W_1 hq0 ht_f_w0)
  refine mr_lvE (lv' := [(0, .ref 106), (1, iv p1)]) rfl ?_
  refine sv_aload_n (pc := 0) dX12_prefixOut_0 rfl rfl ?_
  refine sv_aload_n (pc := 1) dX12_prefixOut_1 rfl rfl ?_
  refine gf_X12_4 (pc := 2) dX12_prefixOut_2 wF_X12_26 (A_106 hw) hT ?_
  refine mr_iload_n (pc := 5) (z := p1) dX12_prefixOut_5 rfl rfl ?_
  refine la_109 (pc := 6) dX12_prefixOut_6 (A_109 hw) hT (rIx (n := 10) hp1 rfl) fun z263 q264 h265 => ?_
  refine mr_cVV (pc := 7) (c_X12_octet1_W hw hT (rW (c := (-2147483648)) (d := 2147483647) h265 rfl) q_f_w0 (vc_X12_prefixOut_W_2 hq0 h1) ((hQ f_w0 q_f_w0 ht_f_w0) z263 q264 h265)) (gOk _ _ _ _ _) dX12_prefixOut_7 (tX12_octet1 _ _ _ _ _) ⟨wV_X12_octet1, wL_X12_octet1⟩ wM_X12_674 (gCX12 _ _ _ _ _) rfl (A_106 hw) rfl ⟨le_t rfl, le_t rfl⟩ ⟨le_t rfl, le_t rfl⟩ rfl (le_t rfl) fun μ266 T267 F268 h269 => ?_
  obtain ⟨z270, q271, h272⟩ := h269
  have h273 : (0 ≤ z270 ∧ z270 ≤ 300) := by rw [← q271]; exact T267 106 106 (A_106 hw) 104
  have q274 : μ266 106 104 = (f_w0 + 1) := q271.trans h272.1
  refine mr_iconst (pc := 10) (z := 0) dX12_prefixOut_10 ?_
  refine mr_istore_n (pc := 11) (lv' := [(2, iv 0), (0, .ref 106), (1, iv p1)]) dX12_prefixOut_11 rfl (by decide) rfl ?_
  have L402 : ∀ (nL402 : Nat) (z400 : Int) (μ401 : mM) (f_w : Int), mT w μ401 → mF [106104, 174999] w μ266 μ401 → μ401 106 (104) = f_w → (0 ≤ z400 ∧ z400 ≤ 4) → (f_w = f_w0 + 1 + z400) → (z400 ≤ 4) → (5 - z400) < (nL402 : Int) → loopF (WL_X12_prefixOut_W_1 w p1 Q z263 μ266) False nL402 (z400, μ401) → sV (gG l D c H0 sa) mX12_prefixOut (sRm 2 0 0) (sZ (gG l D c H0 sa) 0 0 (qV w [106104, 174999] μ (fun μ1 => ∃ o_w : Int, μ1 106 104 = o_w ∧ (o_w ≤ f_w0 + 5) ∧ Q μ1 ∧ True))) 12 [(0, .ref 106), (1, iv p1), (2, iv z400)] [] (mk w μ401) 0 0 := by
    intro nL402
    induction nL402 with
    | zero => intro z400 μ401 f_w T404 F405 q411 h403 h407 h408 h409 W410; exact ((vc_X12_prefixOut_W_3 h409 h407 h408 hq0 h272.1 h1 h273 h403)).elim
    | succ nL402 ih412 =>
      intro z400 μ401 f_w T404 F405 q411 h403 h407 h408 h409 W410
      have h413 : (0 ≤ f_w ∧ f_w ≤ 300) := by rw [← q411]; exact T404 106 106 (A_106 hw) (104)
      refine mr_iload_n (pc := 12) (z := z400) dX12_prefixOut_12 rfl rfl ?_
      refine sv_aload_n (pc := 13) dX12_prefixOut_13 rfl rfl ?_
      refine gf_X12_4 (pc := 14) dX12_prefixOut_14 wF_X12_26 (A_106 hw) T404 ?_
      refine mr_iload_n (pc := 17) (z := p1) dX12_prefixOut_17 rfl rfl ?_
      refine lk_109 (pc := 18) dX12_prefixOut_18 (A_109 hw) (rIx (n := 10) hp1 rfl) (F405.f (A_109 hw) rfl (F268.f (A_109 hw) rfl q264)) ?_
      refine mr_bipush (pc := 19) (z := 7) dX12_prefixOut_19 (by decide) ?_
      refine mr_iadd (pc := 21) (x := z263) (y := 7) dX12_prefixOut_21 ?_
      refine mr_bipush (pc := 22) (z := 8) dX12_prefixOut_22 (by decide) ?_
      refine mr_idiv (pc := 24) (x := (z263 + 7)) (y := 8) dX12_prefixOut_24 (rW (c := 0) (d := 2147483647) (rAdd (e := 7) (f := 39) h265 (rR (x := 7)) rfl) rfl) vc_X3_readPrefixes_W_5 ?_
      refine mr_gen (P := fun z => 0 ≤ z ∧ z ≤ 4) (rDiv (rAdd (e := 7) (f := 39) h265 (rR (x := 7)) rfl) rfl) fun z414 q415 h416 => ?_
      refine mr_icmp_ge (pc := 25) (tgt := 52) dX12_prefixOut_25 (by decide) (r32 h403 rfl) (r32 h416 rfl) (fun h434 => ?_) (fun h434 => ?_)
      · exact mr_vret dX12_prefixOut_52 rfl (le_t rfl) (le_t rfl) T404 (mF.call (mF.call mF.refl F268 rfl) F405 rfl) ⟨f_w, q411, (vc_X12_prefixOut_W_5 hq0 h272.1 h407 h408 h434 h413 h1 h273 h403 h416), ((((W410 z400 μ401 rfl h403 T404 F405) f_w q411 h413) z414 q415).1 h434), trivial⟩
      have h435 : 0 ≤ z400 ∧ z400 ≤ 3 := (vc_X12_prefixOut_W_6 h434 h407 h408 q415 h413 h1 h265 h403 h416)
      have h436 : 1 ≤ z414 ∧ z414 ≤ 4 := (vc_X12_prefixOut_W_7 h434 h407 h408 q415 h413 h1 h265 h435 h416)
      refine sv_aload_n (pc := 28) dX12_prefixOut_28 rfl rfl ?_
      refine sv_aload_n (pc := 29) dX12_prefixOut_29 rfl rfl ?_
      refine gf_X12_3 (pc := 30) dX12_prefixOut_30 wF_X12_22 (A_106 hw) T404 ?_
      refine mr_iload_n (pc := 33) (z := p1) dX12_prefixOut_33 rfl rfl ?_
      refine la_108 (pc := 34) dX12_prefixOut_34 (A_108 hw) T404 (rIx (n := 10) hp1 rfl) fun z437 q438 h439 => ?_
      refine mr_bipush (pc := 35) (z := 24) dX12_prefixOut_35 (by decide) ?_
      refine mr_bipush (pc := 37) (z := 8) dX12_prefixOut_37 (by decide) ?_
      refine mr_iload_n (pc := 39) (z := z400) dX12_prefixOut_39 rfl rfl ?_
      refine mr_imul (pc := 40) (x := 8) (y := z400) dX12_prefixOut_40 ?_
      refine mr_isub (pc := 41) (x := 24) (y := (8 * z400)) dX12_prefixOut_41 ?_
      refine mr_ishr (pc := 42) (x := z437) (y := (24 - (8 * z400))) dX12_prefixOut_42 ?_
      refine mr_gen (P := fun z => (-2147483648) ≤ z ∧ z ≤ 2147483647) (r32i _) fun z440 q441 h442 => ?_
      have W447 := ((((((W410 z400 μ401 rfl h403 T404 F405) f_w q411 h413) z414 q415).2 h434) z437 q438 h439) z440 q441)
      refine mr_cVV (pc := 43) (c_X12_octet1_W hw T404 h442 q411 (vc_X12_prefixOut_W_8 h407 hq0 h272.1 h408 h434 h413 h1 h273 h435 h436) W447) (gOk _ _ _ _ _) dX12_prefixOut_43 (tX12_octet1 _ _ _ _ _) ⟨wV_X12_octet1, wL_X12_octet1⟩ wM_X12_674 (gCX12 _ _ _ _ _) rfl (A_106 hw) rfl ⟨le_t rfl, le_t rfl⟩ ⟨le_t rfl, le_t rfl⟩ rfl (le_t rfl) fun μ443 T444 F445 h446 => ?_
      obtain ⟨z448, q449, h450⟩ := h446
      have h451 : (0 ≤ z448 ∧ z448 ≤ 300) := by rw [← q449]; exact T444 106 106 (A_106 hw) 104
      have q452 : μ443 106 104 = (f_w + 1) := q449.trans h450.1
      refine mr_iinc (pc := 46) (lv' := [(2, iv (z400 + 1)), (0, .ref 106), (1, iv p1)]) dX12_prefixOut_46 rfl (by decide) rfl ?_
      refine sv_goto (pc := 49) (tgt := 12) dX12_prefixOut_49 (by decide) ?_
      refine mr_lvS (lv' := [(0, .ref 106), (1, iv p1), (2, iv (z400 + 1))]) (List.forall_mem_cons.mpr ⟨rfl, List.forall_mem_cons.mpr ⟨rfl, List.forall_mem_cons.mpr ⟨rfl, fun _ h => absurd h List.not_mem_nil⟩⟩⟩) ?_
      exact ih412 (z400 + 1) μ443 (f_w + 1) T444 (mF.call (mF.call mF.refl F405 rfl) F445 rfl) q452 (rW (c := 0) (d := 4) (rAdd (e := 1) (f := 4) h435 (rR (x := 1)) rfl) rfl) (vc_X12_prefixOut_W_9 hq0 h272.1 h407 h408 h434 h450.1 q415 h413 h1 h265 h273 h435 h436 h451) (vc_X12_prefixOut_W_10 h407 h408 h434 hq0 h272.1 q415 h450.1 h413 h1 h265 h273 h435 h436 h451) (vc_X12_prefixOut_W_11 (nS h409) h407 h408 h434 hq0 h272.1 q415 h450.1 h413 h1 h265 h273 h435 h436 h451) ((h450.2.1 T444 F445) z448 q449)
  refine mr_lvS (lv' := [(0, .ref 106), (1, iv p1), (2, iv 0)]) (List.forall_mem_cons.mpr ⟨rfl, List.forall_mem_cons.mpr ⟨rfl, List.forall_mem_cons.mpr ⟨rfl, fun _ h => absurd h List.not_mem_nil⟩⟩⟩) ?_
  exact L402 6 0 μ266 (f_w0 + 1) T267 mF.refl q274 (rW (c := 0) (d := 4) (rR (x := 0)) rfl) (vc_X12_prefixOut_W_12 hq0 h272.1 h1 h273) vc_X12_prefixOut_W_13 vc_X12_message_W_75 ((h272.2.1 T267 F268) z270 q271)
def WL_X12_octet4_W_1 (w : mW) (μ : mM) (p1 : Int) (Q : mM → Prop) (rec1 : (Int × mM) → Prop) (s : (Int × mM)) : Prop := ∀ z310 : Int, ∀ μ311 : mM, s = (z310, μ311) → ((-8) ≤ z310 ∧ z310 ≤ 24) → mT w μ311 → mF [106104, 174999] w μ μ311 → ∀ f_w : Int, μ311 106 (104) = f_w → (0 ≤ f_w ∧ f_w ≤ 300) → ((z310 < 0) → Q μ311) ∧ ((0 ≤ z310) → ∀ z340 : Int, bShr p1 z310 = z340 → WP_X12_octet1_W w μ311 z340 (fun μ343 => mT w μ343 → mF [106104, 174999] w μ311 μ343 → ∀ z347 : Int, μ343 106 104 = z347 → rec1 ((z310 + (-8)), μ343)))
def WP_X12_octet4_W (w : mW) (μ : mM) (p1 : Int) (Q : mM → Prop) : Prop := ∀ f_w0 : Int, μ 106 104 = f_w0 → (0 ≤ f_w0 ∧ f_w0 ≤ 300) → loopF (WL_X12_octet4_W_1 w μ p1 Q) False 34 ((24 : Int), μ)
theorem vc_X12_octet4_W_1 {f_w0 : Int} (h0 : f_w0 ≤ 295) (h1 : 0 ≤ f_w0 ∧ f_w0 ≤ 300) : 0 ≤ f_w0 ∧ f_w0 ≤ 295 := by omega
theorem vc_X12_octet4_W_2 {f_w f_w0 z310 : Int} (h0 : (z310 - (-9)) < ((0 : Nat) : Int)) (h1 : 8 * f_w + z310 = 8 * f_w0 + 24) (h2 : f_w0 ≤ 295) (h3 : 0 ≤ f_w0 ∧ f_w0 ≤ 295) (h4 : (-8) ≤ z310 ∧ z310 ≤ 24) : False := by omega
theorem vc_X12_octet4_W_3 {f_w f_w0 z310 : Int} (h0 : z310 < 0) (h1 : 8 * f_w + z310 = 8 * f_w0 + 24) (h2 : 0 ≤ f_w ∧ f_w ≤ 300) (h3 : 0 ≤ f_w0 ∧ f_w0 ≤ 295) (h4 : (-8) ≤ z310 ∧ z310 ≤ 24) : (-8) ≤ z310 ∧ z310 ≤ (-1) := by omega
theorem vc_X12_octet4_W_4 {f_w f_w0 z310 : Int} (h0 : f_w0 ≤ 295) (h1 : 8 * f_w + z310 = 8 * f_w0 + 24) (h2 : z310 < 0) (h3 : 0 ≤ f_w ∧ f_w ≤ 300) (h4 : 0 ≤ f_w0 ∧ f_w0 ≤ 295) (h5 : (-8) ≤ z310 ∧ z310 ≤ (-1)) : f_w = f_w0 + 4 := by omega
theorem vc_X12_octet4_W_5 {f_w f_w0 z310 : Int} (h0 : 0 ≤ z310) (h1 : 8 * f_w + z310 = 8 * f_w0 + 24) (h2 : 0 ≤ f_w ∧ f_w ≤ 300) (h3 : 0 ≤ f_w0 ∧ f_w0 ≤ 295) (h4 : (-8) ≤ z310 ∧ z310 ≤ 24) : 0 ≤ z310 ∧ z310 ≤ 24 := by omega
theorem vc_X12_octet4_W_6 {f_w f_w0 z310 : Int} (h0 : 8 * f_w + z310 = 8 * f_w0 + 24) (h1 : f_w0 ≤ 295) (h2 : 0 ≤ z310) (h3 : 0 ≤ f_w ∧ f_w ≤ 300) (h4 : 0 ≤ f_w0 ∧ f_w0 ≤ 295) (h5 : 0 ≤ z310 ∧ z310 ≤ 24) : f_w ≤ 299 := by omega
theorem vc_X12_octet4_W_7 {f_w f_w0 z310 z347 : Int} (h0 : f_w0 ≤ 295) (h1 : 8 * f_w + z310 = 8 * f_w0 + 24) (h2 : 0 ≤ z310) (h3 : z347 = f_w + 1) (h4 : 0 ≤ f_w ∧ f_w ≤ 300) (h5 : 0 ≤ f_w0 ∧ f_w0 ≤ 295) (h6 : 0 ≤ z310 ∧ z310 ≤ 24) (h7 : 0 ≤ z347 ∧ z347 ≤ 300) : 8 * (f_w + 1) + (z310 + (-8)) = 8 * f_w0 + 24 := by omega
theorem vc_X12_octet4_W_8 {N f_w f_w0 z310 z347 : Int} (h0 : (z310 - (-9)) < N + 1) (h1 : 8 * f_w + z310 = 8 * f_w0 + 24) (h2 : 0 ≤ z310) (h3 : f_w0 ≤ 295) (h4 : z347 = f_w + 1) (h5 : 0 ≤ f_w ∧ f_w ≤ 300) (h6 : 0 ≤ f_w0 ∧ f_w0 ≤ 295) (h7 : 0 ≤ z310 ∧ z310 ≤ 24) (h8 : 0 ≤ z347 ∧ z347 ≤ 300) : ((z310 + (-8)) - (-9)) < N := by omega
theorem vc_X12_octet4_W_9 {f_w0 : Int} (h0 : f_w0 ≤ 295) (h1 : 0 ≤ f_w0 ∧ f_w0 ≤ 295) : 8 * f_w0 + (24 : Int) = 8 * f_w0 + 24 := by omega
set_option maxRecDepth 4000 in
set_option maxHeartbeats 4000000 in
theorem c_X12_octet4_W {l : Launch} {D : va_G} {c : Nat → ClassId} {H0 : Heap} {sa : Nat × Nat × (Nat → Int32)} {w : mW} {μ : mM} (hw : mWF w) (hT : mT w μ) {p1 : Int} (hp1 : (-2147483648) ≤ p1 ∧ p1 ≤ 2147483647) {f_w0 : Int} (q_f_w0 : μ 106 104 = f_w0) (hq0 : f_w0 ≤ 295) {Q : mM → Prop} (hQ : WP_X12_octet4_W w μ p1 Q) : sC (gG l D c H0 sa) mX12_octet4 2 0 0 [.ref 106, iv p1] (mk w μ) (qV w [106104, 174999] μ (fun μ1 => ∃ o_w : Int, μ1 106 104 = o_w ∧ (o_w = f_w0 + 4) ∧ Q μ1 ∧ True)) := by
  refine sC.of rfl (by decide) (le_t rfl) ?_
  have ht_f_w0 : (0 ≤ f_w0 ∧ f_w0 ≤ 300) := by rw [← q_f_w0]; exact hT 106 106 (A_106 hw) 104
  have h1 : 0 ≤ f_w0 ∧ f_w0 ≤ 295 := (vc_X12_octet4_W_1 hq0 ht_f_w0)
  refine mr_lvE (lv' := [(0, .ref 106), (1, iv p1)]) rfl ?_
  refine mr_bipush (pc := 0) (z := 24) dX12_octet4_0 (by decide) ?_
  refine mr_istore_n (pc := 2) (lv' := [(2, iv 24), (0, .ref 106), (1, iv p1)]) dX12_octet4_2 rfl (by decide) rfl ?_
  have L312 : ∀ (nL312 : Nat) (z310 : Int) (μ311 : mM) (f_w : Int), mT w μ311 → mF [106104, 174999] w μ μ311 → μ311 106 (104) = f_w → ((-8) ≤ z310 ∧ z310 ≤ 24) → (8 * f_w + z310 = 8 * f_w0 + 24) → (z310 - (-9)) < (nL312 : Int) → loopF (WL_X12_octet4_W_1 w μ p1 Q) False nL312 (z310, μ311) → sV (gG l D c H0 sa) mX12_octet4 (sRm 2 0 0) (sZ (gG l D c H0 sa) 0 0 (qV w [106104, 174999] μ (fun μ1 => ∃ o_w : Int, μ1 106 104 = o_w ∧ (o_w = f_w0 + 4) ∧ Q μ1 ∧ True))) 3 [(0, .ref 106), (1, iv p1), (2, iv z310)] [] (mk w μ311) 0 0 := by
    intro nL312
    induction nL312 with
    | zero => intro z310 μ311 f_w T314 F315 q320 h313 h317 h318 W319; exact ((vc_X12_octet4_W_2 h318 h317 hq0 h1 h313)).elim
    | succ nL312 ih321 =>
      intro z310 μ311 f_w T314 F315 q320 h313 h317 h318 W319
      have h322 : (0 ≤ f_w ∧ f_w ≤ 300) := by rw [← q320]; exact T314 106 106 (A_106 hw) (104)
      refine mr_iload_n (pc := 3) (z := z310) dX12_octet4_3 rfl rfl ?_
      refine mr_if_lt (pc := 4) (tgt := 20) dX12_octet4_4 (by decide) (r32 h313 rfl) (fun h337 => ?_) (fun h337 => ?_)
      · have h338 : (-8) ≤ z310 ∧ z310 ≤ (-1) := (vc_X12_octet4_W_3 h337 h317 h322 h1 h313)
        exact mr_vret dX12_octet4_20 rfl (le_t rfl) (le_t rfl) T314 (mF.call mF.refl F315 rfl) ⟨f_w, q320, (vc_X12_octet4_W_4 hq0 h317 h337 h322 h1 h338), (((W319 z310 μ311 rfl h313 T314 F315) f_w q320 h322).1 h337), trivial⟩
      have h339 : 0 ≤ z310 ∧ z310 ≤ 24 := (vc_X12_octet4_W_5 h337 h317 h322 h1 h313)
      refine sv_aload_n (pc := 7) dX12_octet4_7 rfl rfl ?_
      refine mr_iload_n (pc := 8) (z := p1) dX12_octet4_8 rfl rfl ?_
      refine mr_iload_n (pc := 9) (z := z310) dX12_octet4_9 rfl rfl ?_
      refine mr_ishr (pc := 10) (x := p1) (y := z310) dX12_octet4_10 ?_
      refine mr_gen (P := fun z => (-2147483648) ≤ z ∧ z ≤ 2147483647) (r32i _) fun z340 q341 h342 => ?_
      refine mr_cVV (pc := 11) (c_X12_octet1_W hw T314 h342 q320 (vc_X12_octet4_W_6 h317 hq0 h337 h322 h1 h339) ((((W319 z310 μ311 rfl h313 T314 F315) f_w q320 h322).2 h337) z340 q341)) (gOk _ _ _ _ _) dX12_octet4_11 (tX12_octet1 _ _ _ _ _) ⟨wV_X12_octet1, wL_X12_octet1⟩ wM_X12_674 (gCX12 _ _ _ _ _) rfl (A_106 hw) rfl ⟨le_t rfl, le_t rfl⟩ ⟨le_t rfl, le_t rfl⟩ rfl (le_t rfl) fun μ343 T344 F345 h346 => ?_
      obtain ⟨z347, q348, h349⟩ := h346
      have h350 : (0 ≤ z347 ∧ z347 ≤ 300) := by rw [← q348]; exact T344 106 106 (A_106 hw) 104
      have q351 : μ343 106 104 = (f_w + 1) := q348.trans h349.1
      refine mr_iinc (pc := 14) (lv' := [(2, iv (z310 + (-8))), (0, .ref 106), (1, iv p1)]) dX12_octet4_14 rfl (by decide) rfl ?_
      refine sv_goto (pc := 17) (tgt := 3) dX12_octet4_17 (by decide) ?_
      refine mr_lvS (lv' := [(0, .ref 106), (1, iv p1), (2, iv (z310 + (-8)))]) (List.forall_mem_cons.mpr ⟨rfl, List.forall_mem_cons.mpr ⟨rfl, List.forall_mem_cons.mpr ⟨rfl, fun _ h => absurd h List.not_mem_nil⟩⟩⟩) ?_
      exact ih321 (z310 + (-8)) μ343 (f_w + 1) T344 (mF.call (mF.call mF.refl F315 rfl) F345 rfl) q351 (rW (c := (-8)) (d := 24) (rAdd (e := (-8)) (f := 16) h339 (rR (x := (-8))) rfl) rfl) (vc_X12_octet4_W_7 hq0 h317 h337 h349.1 h322 h1 h339 h350) (vc_X12_octet4_W_8 (nS h318) h317 h337 hq0 h349.1 h322 h1 h339 h350) ((h349.2.1 T344 F345) z347 q348)
  refine mr_lvS (lv' := [(0, .ref 106), (1, iv p1), (2, iv 24)]) (List.forall_mem_cons.mpr ⟨rfl, List.forall_mem_cons.mpr ⟨rfl, List.forall_mem_cons.mpr ⟨rfl, fun _ h => absurd h List.not_mem_nil⟩⟩⟩) ?_
  exact L312 34 24 μ f_w0 hT mF.refl q_f_w0 (rW (c := (-8)) (d := 24) (rR (x := 24)) rfl) (vc_X12_octet4_W_9 hq0 h1) vc_X11_feedNumber_v_17 (hQ f_w0 q_f_w0 ht_f_w0)
def WL_X12_write_W_6 (w : mW) (p3 : Int) (Q : Int → mM → Prop) (z44 : Int) (z59 : Int) (μ401 : mM) (rec6 : (Int × mM) → Prop) (s : (Int × mM)) : Prop := ∀ z660 : Int, ∀ μ661 : mM, s = (z660, μ661) → (0 ≤ z660 ∧ z660 ≤ 8) → mT w μ661 → mF [106104, 174999] w μ401 μ661 → ∀ f_w : Int, μ661 106 (104) = f_w → (0 ≤ f_w ∧ f_w ≤ 300) → ((z59 ≤ z660) → WP_X12_prefixOut_W w μ661 p3 (fun μ689 => mT w μ689 → mF [106104, 174999] w μ661 μ689 → ∀ z693 : Int, μ689 106 104 = z693 → Q z693 μ689)) ∧ ((z660 < z59) → ∀ z698 : Int, μ661 126 ((((40 * (530 + z44)) + 26) + z660).toNat) = z698 → ((-2147483648 ≤ z698 ∧ z698 ≤ 2147483647) ∧ ((((40 * (530 + z44)) + 26) + z660) % 40 = 0 → -1 ≤ z698 ∧ z698 ≤ 9) ∧ ((((40 * (530 + z44)) + 26) + z660) % 40 = 4 → 0 ≤ z698 ∧ z698 ≤ 20) ∧ ((((40 * (530 + z44)) + 26) + z660) % 40 = 5 → 0 ≤ z698 ∧ z698 ≤ 8)) → WP_X12_octet4_W w μ661 z698 (fun μ701 => mT w μ701 → mF [106104, 174999] w μ661 μ701 → ∀ z705 : Int, μ701 106 104 = z705 → rec6 ((z660 + 1), μ701)))
def WJ_X12_write_W_5 (w : mW) (p3 : Int) (Q : Int → mM → Prop) (z44 : Int) (z59 : Int) (μ245 : mM) (μ295 : mM) : Prop := mT w μ295 → mF [106104, 174999] w μ245 μ295 → ∀ z302 : Int, μ295 106 104 = z302 → (0 ≤ z302 ∧ z302 ≤ 300) → ((z59 ≤ 0) → WP_X12_prefixOut_W w μ295 p3 (fun μ374 => mT w μ374 → mF [106104, 174999] w μ295 μ374 → ∀ z378 : Int, μ374 106 104 = z378 → Q z378 μ374)) ∧ ((0 < z59) → WP_X12_octet1_W w μ295 (192) (fun μ383 => mT w μ383 → mF [106104, 174999] w μ295 μ383 → ∀ z387 : Int, μ383 106 104 = z387 → WP_X12_octet1_W w μ383 (8) (fun μ392 => mT w μ392 → mF [106104, 174999] w μ383 μ392 → ∀ z396 : Int, μ392 106 104 = z396 → WP_X12_octet1_W w μ392 (4 * z59) (fun μ401 => mT w μ401 → mF [106104, 174999] w μ392 μ401 → ∀ z405 : Int, μ401 106 104 = z405 → loopF (WL_X12_write_W_6 w p3 Q z44 z59 μ401) False 10 ((0 : Int), μ401)))))
def WJ_X12_write_W_4 (w : mW) (p3 : Int) (Q : Int → mM → Prop) (z44 : Int) (z59 : Int) (z69 : Int) (μ180 : mM) (μ245 : mM) : Prop := mT w μ245 → mF [106104, 174999] w μ180 μ245 → ∀ z252 : Int, μ245 106 104 = z252 → (0 ≤ z252 ∧ z252 ≤ 300) → ((z69 ≤ 0) → (WJ_X12_write_W_5 w p3 Q z44 z59 μ245) μ245) ∧ ((0 < z69) → WP_X12_octet1_W w μ245 (128) (fun μ713 => mT w μ713 → mF [106104, 174999] w μ245 μ713 → ∀ z717 : Int, μ713 106 104 = z717 → WP_X12_octet1_W w μ713 (4) (fun μ722 => mT w μ722 → mF [106104, 174999] w μ713 μ722 → ∀ z726 : Int, μ722 106 104 = z726 → WP_X12_octet1_W w μ722 (4) (fun μ731 => mT w μ731 → mF [106104, 174999] w μ722 μ731 → ∀ z735 : Int, μ731 106 104 = z735 → WP_X12_octet4_W w μ731 z69 (fun μ740 => mT w μ740 → mF [106104, 174999] w μ731 μ740 → ∀ z744 : Int, μ740 106 104 = z744 → (WJ_X12_write_W_5 w p3 Q z44 z59 μ245) μ740)))))
def WL_X12_write_W_7 (w : mW) (p3 : Int) (Q : Int → mM → Prop) (z44 : Int) (z55 : Int) (z59 : Int) (z69 : Int) (μ180 : mM) (μ761 : mM) (rec7 : (Int × mM) → Prop) (s : (Int × mM)) : Prop := ∀ z1020 : Int, ∀ μ1021 : mM, s = (z1020, μ1021) → (0 ≤ z1020 ∧ z1020 ≤ 20) → mT w μ1021 → mF [106104, 174999] w μ761 μ1021 → ∀ f_w : Int, μ1021 106 (104) = f_w → (0 ≤ f_w ∧ f_w ≤ 300) → ((z55 ≤ z1020) → (WJ_X12_write_W_4 w p3 Q z44 z59 z69 μ180) μ1021) ∧ ((z1020 < z55) → ∀ z1036 : Int, μ1021 126 ((((40 * (530 + z44)) + 6) + z1020).toNat) = z1036 → ((-2147483648 ≤ z1036 ∧ z1036 ≤ 2147483647) ∧ ((((40 * (530 + z44)) + 6) + z1020) % 40 = 0 → -1 ≤ z1036 ∧ z1036 ≤ 9) ∧ ((((40 * (530 + z44)) + 6) + z1020) % 40 = 4 → 0 ≤ z1036 ∧ z1036 ≤ 20) ∧ ((((40 * (530 + z44)) + 6) + z1020) % 40 = 5 → 0 ≤ z1036 ∧ z1036 ≤ 8)) → WP_X12_octet4_W w μ1021 z1036 (fun μ1039 => mT w μ1039 → mF [106104, 174999] w μ1021 μ1039 → ∀ z1043 : Int, μ1039 106 104 = z1043 → rec7 ((z1020 + 1), μ1039)))
def WJ_X12_write_W_3 (w : mW) (p3 : Int) (Q : Int → mM → Prop) (z44 : Int) (μ46 : mM) (z55 : Int) (z59 : Int) (z65 : Int) (z69 : Int) (z74 : Int) (z80 : Int) : Prop := (0 ≤ z80 ∧ z80 ≤ 35) → WP_X12_octet1_W w μ46 (0) (fun μ84 => mT w μ84 → mF [106104, 174999] w μ46 μ84 → ∀ z88 : Int, μ84 106 104 = z88 → WP_X12_octet1_W w μ84 (0) (fun μ93 => mT w μ93 → mF [106104, 174999] w μ84 μ93 → ∀ z97 : Int, μ93 106 104 = z97 → ∀ z102 : Int, bShr (((7 + z65) + z74) + z80) (8 : Int) = z102 → WP_X12_octet1_W w μ93 z102 (fun μ105 => mT w μ105 → mF [106104, 174999] w μ93 μ105 → ∀ z109 : Int, μ105 106 104 = z109 → WP_X12_octet1_W w μ105 (((7 + z65) + z74) + z80) (fun μ114 => mT w μ114 → mF [106104, 174999] w μ105 μ114 → ∀ z118 : Int, μ114 106 104 = z118 → WP_X12_octet1_W w μ114 (64) (fun μ123 => mT w μ123 → mF [106104, 174999] w μ114 μ123 → ∀ z127 : Int, μ123 106 104 = z127 → WP_X12_octet1_W w μ123 (1) (fun μ132 => mT w μ132 → mF [106104, 174999] w μ123 μ132 → ∀ z136 : Int, μ132 106 104 = z136 → WP_X12_octet1_W w μ132 (1) (fun μ141 => mT w μ141 → mF [106104, 174999] w μ132 μ141 → ∀ z145 : Int, μ141 106 104 = z145 → ∀ z150 : Int, μ141 126 (((40 * (530 + z44)) + 2).toNat) = z150 → ((-2147483648 ≤ z150 ∧ z150 ≤ 2147483647) ∧ (((40 * (530 + z44)) + 2) % 40 = 0 → -1 ≤ z150 ∧ z150 ≤ 9) ∧ (((40 * (530 + z44)) + 2) % 40 = 4 → 0 ≤ z150 ∧ z150 ≤ 20) ∧ (((40 * (530 + z44)) + 2) % 40 = 5 → 0 ≤ z150 ∧ z150 ≤ 8)) → WP_X12_octet1_W w μ141 z150 (fun μ153 => mT w μ153 → mF [106104, 174999] w μ141 μ153 → ∀ z157 : Int, μ153 106 104 = z157 → WP_X12_octet1_W w μ153 (64) (fun μ162 => mT w μ162 → mF [106104, 174999] w μ153 μ162 → ∀ z166 : Int, μ162 106 104 = z166 → WP_X12_octet1_W w μ162 (2) (fun μ171 => mT w μ171 → mF [106104, 174999] w μ162 μ171 → ∀ z175 : Int, μ171 106 104 = z175 → WP_X12_octet1_W w μ171 z65 (fun μ180 => mT w μ180 → mF [106104, 174999] w μ171 μ180 → ∀ z184 : Int, μ180 106 104 = z184 → ((z55 ≤ 0) → (WJ_X12_write_W_4 w p3 Q z44 z59 z69 μ180) μ180) ∧ ((0 < z55) → WP_X12_octet1_W w μ180 (2) (fun μ752 => mT w μ752 → mF [106104, 174999] w μ180 μ752 → ∀ z756 : Int, μ752 106 104 = z756 → WP_X12_octet1_W w μ752 z55 (fun μ761 => mT w μ761 → mF [106104, 174999] w μ752 μ761 → ∀ z765 : Int, μ761 106 104 = z765 → loopF (WL_X12_write_W_7 w p3 Q z44 z55 z59 z69 μ180 μ761) False 22 ((0 : Int), μ761)))))))))))))))
def WJ_X12_write_W_2 (w : mW) (p3 : Int) (Q : Int → mM → Prop) (z44 : Int) (μ46 : mM) (z55 : Int) (z59 : Int) (z65 : Int) (z69 : Int) (z74 : Int) : Prop := (0 ≤ z74 ∧ z74 ≤ 7) → ((z59 ≤ 0) → (WJ_X12_write_W_3 w p3 Q z44 μ46 z55 z59 z65 z69 z74) (0 : Int)) ∧ ((0 < z59) → (WJ_X12_write_W_3 w p3 Q z44 μ46 z55 z59 z65 z69 z74) (3 + (4 * z59)))
def WJ_X12_write_W_1 (w : mW) (p3 : Int) (Q : Int → mM → Prop) (z44 : Int) (μ46 : mM) (z55 : Int) (z59 : Int) (z65 : Int) : Prop := (0 ≤ z65 ∧ z65 ≤ 82) → ∀ z69 : Int, μ46 126 (((40 * (530 + z44)) + 3).toNat) = z69 → ((-2147483648 ≤ z69 ∧ z69 ≤ 2147483647) ∧ (((40 * (530 + z44)) + 3) % 40 = 0 → -1 ≤ z69 ∧ z69 ≤ 9) ∧ (((40 * (530 + z44)) + 3) % 40 = 4 → 0 ≤ z69 ∧ z69 ≤ 20) ∧ (((40 * (530 + z44)) + 3) % 40 = 5 → 0 ≤ z69 ∧ z69 ≤ 8)) → ((z69 ≤ 0) → (WJ_X12_write_W_2 w p3 Q z44 μ46 z55 z59 z65 z69) (0 : Int)) ∧ ((0 < z69) → (WJ_X12_write_W_2 w p3 Q z44 μ46 z55 z59 z65 z69) (7 : Int))
def WP_X12_write_W (w : mW) (μ : mM) (p1 : Int) (p2 : Int) (p3 : Int) (Q : Int → mM → Prop) : Prop := ∀ z1 : Int, μ 106 6 = z1 → (0 ≤ z1 ∧ z1 ≤ 20) → WP_X12_isTie_W w μ p1 (fun z8 _ => (0 ≤ z8 ∧ z8 ≤ 1) → ((z8 = 0) → Q ((-1) : Int) μ) ∧ ((¬ z8 = 0) → WP_X12_in_W w μ p2 (0) (1) (fun z20 _ => (0 ≤ z20 ∧ z20 ≤ 1) → ((z20 = 0) → Q ((-1) : Int) μ) ∧ ((¬ z20 = 0) → ∀ z27 : Int, μ 106 2 = z27 → (0 ≤ z27 ∧ z27 ≤ 10) → WP_X12_isPrefix_W w μ p3 (fun z34 _ => (0 ≤ z34 ∧ z34 ≤ 1) → ((¬ z34 = 0) → WP_X12_slot_W w μ p1 p2 p3 (fun z44 _ => (0 ≤ z44 ∧ z44 ≤ 449) → ∀ μ46 : mM, mU μ 106 (104) (0 : Int) μ46 → mT w μ46 → ∀ z49 : Int, μ46 126 ((40 * (530 + z44)).toNat) = z49 → ((-2147483648 ≤ z49 ∧ z49 ≤ 2147483647) ∧ ((40 * (530 + z44)) % 40 = 0 → -1 ≤ z49 ∧ z49 ≤ 9) ∧ ((40 * (530 + z44)) % 40 = 4 → 0 ≤ z49 ∧ z49 ≤ 20) ∧ ((40 * (530 + z44)) % 40 = 5 → 0 ≤ z49 ∧ z49 ≤ 8)) → ((0 ≤ z49) → ∀ z55 : Int, μ46 126 (((40 * (530 + z44)) + 4).toNat) = z55 → ((-2147483648 ≤ z55 ∧ z55 ≤ 2147483647) ∧ (((40 * (530 + z44)) + 4) % 40 = 0 → -1 ≤ z55 ∧ z55 ≤ 9) ∧ (((40 * (530 + z44)) + 4) % 40 = 4 → 0 ≤ z55 ∧ z55 ≤ 20) ∧ (((40 * (530 + z44)) + 4) % 40 = 5 → 0 ≤ z55 ∧ z55 ≤ 8)) → ∀ z59 : Int, μ46 126 (((40 * (530 + z44)) + 5).toNat) = z59 → ((-2147483648 ≤ z59 ∧ z59 ≤ 2147483647) ∧ (((40 * (530 + z44)) + 5) % 40 = 0 → -1 ≤ z59 ∧ z59 ≤ 9) ∧ (((40 * (530 + z44)) + 5) % 40 = 4 → 0 ≤ z59 ∧ z59 ≤ 20) ∧ (((40 * (530 + z44)) + 5) % 40 = 5 → 0 ≤ z59 ∧ z59 ≤ 8)) → ((¬ z55 = 0) → (WJ_X12_write_W_1 w p3 Q z44 μ46 z55 z59) (2 + (4 * z55))) ∧ ((z55 = 0) → (WJ_X12_write_W_1 w p3 Q z44 μ46 z55 z59) (0 : Int))) ∧ ((z49 < 0) → WP_X12_octet1_W w μ46 (0) (fun μ1058 => mT w μ1058 → mF [106104, 174999] w μ46 μ1058 → ∀ z1062 : Int, μ1058 106 104 = z1062 → ∀ z1067 : Int, μ1058 109 (p3.toNat) = z1067 → (0 ≤ z1067 ∧ z1067 ≤ 32) → ∀ z1070 : Int, (z1067 + 7) / 8 = z1070 → WP_X12_octet1_W w μ1058 (1 + z1070) (fun μ1073 => mT w μ1073 → mF [106104, 174999] w μ1058 μ1073 → ∀ z1077 : Int, μ1073 106 104 = z1077 → WP_X12_prefixOut_W w μ1073 p3 (fun μ1082 => mT w μ1082 → mF [106104, 174999] w μ1073 μ1082 → ∀ z1086 : Int, μ1082 106 104 = z1086 → WP_X12_octet1_W w μ1082 (0) (fun μ1090 => mT w μ1090 → mF [106104, 174999] w μ1082 μ1090 → ∀ z1094 : Int, μ1090 106 104 = z1094 → WP_X12_octet1_W w μ1090 (0) (fun μ1099 => mT w μ1099 → mF [106104, 174999] w μ1090 μ1099 → ∀ z1103 : Int, μ1099 106 104 = z1103 → Q ((z1086 + 1) + 1) μ1099)))))))) ∧ ((z34 = 0) → Q ((-1) : Int) μ))))))
theorem vc_X12_write_W_17 {p1 p2 p3 z1 z20 z27 z34 z44 z8 : Int} (h0 : z44 = (((20 * p1) + (10 * p2)) + p3)) (h1 : (z8 = 1 → 0 ≤ p1 ∧ p1 < z1)) (h2 : (z8 = 0 → p1 < 0 ∨ z1 ≤ p1)) (h3 : 0 ≤ p1 ∧ p1 < z1) (h4 : (z20 = 1 → (0 : Int) ≤ p2 ∧ p2 ≤ (1 : Int))) (h5 : (z20 = 0 → p2 < (0 : Int) ∨ (1 : Int) < p2)) (h6 : (0 : Int) ≤ p2 ∧ p2 ≤ (1 : Int)) (h7 : (z34 = 1 → 0 ≤ p3 ∧ p3 < z27)) (h8 : (z34 = 0 → p3 < 0 ∨ z27 ≤ p3)) (h9 : 0 ≤ p3 ∧ p3 < z27) (h10 : 0 ≤ p1 ∧ p1 ≤ 19) (h11 : 0 ≤ p2 ∧ p2 ≤ 1) (h12 : 0 ≤ p3 ∧ p3 ≤ 9) (h13 : 1 ≤ z1 ∧ z1 ≤ 20) (h14 : 1 ≤ z20 ∧ z20 ≤ 1) (h15 : 1 ≤ z27 ∧ z27 ≤ 10) (h16 : 1 ≤ z34 ∧ z34 ≤ 1) (h17 : 0 ≤ z44 ∧ z44 ≤ 399) (h18 : 1 ≤ z8 ∧ z8 ≤ 1) : (40 * (530 + z44)) % 40 = 0 := by omega
theorem vc_X12_write_W_19 {p1 p2 p3 z1 z20 z27 z34 z44 z8 : Int} (h0 : z44 = (((20 * p1) + (10 * p2)) + p3)) (h1 : (z8 = 1 → 0 ≤ p1 ∧ p1 < z1)) (h2 : (z8 = 0 → p1 < 0 ∨ z1 ≤ p1)) (h3 : 0 ≤ p1 ∧ p1 < z1) (h4 : (z20 = 1 → (0 : Int) ≤ p2 ∧ p2 ≤ (1 : Int))) (h5 : (z20 = 0 → p2 < (0 : Int) ∨ (1 : Int) < p2)) (h6 : (0 : Int) ≤ p2 ∧ p2 ≤ (1 : Int)) (h7 : (z34 = 1 → 0 ≤ p3 ∧ p3 < z27)) (h8 : (z34 = 0 → p3 < 0 ∨ z27 ≤ p3)) (h9 : 0 ≤ p3 ∧ p3 < z27) (h10 : 0 ≤ p1 ∧ p1 ≤ 19) (h11 : 0 ≤ p2 ∧ p2 ≤ 1) (h12 : 0 ≤ p3 ∧ p3 ≤ 9) (h13 : 1 ≤ z1 ∧ z1 ≤ 20) (h14 : 1 ≤ z20 ∧ z20 ≤ 1) (h15 : 1 ≤ z27 ∧ z27 ≤ 10) (h16 : 1 ≤ z34 ∧ z34 ≤ 1) (h17 : 0 ≤ z44 ∧ z44 ≤ 399) (h18 : 1 ≤ z8 ∧ z8 ≤ 1) : ((40 * (530 + z44)) + 4) % 40 = 4 := by omega
theorem vc_X12_write_W_20 {p1 p2 p3 z1 z20 z27 z34 z44 z8 : Int} (h0 : z44 = (((20 * p1) + (10 * p2)) + p3)) (h1 : (z8 = 1 → 0 ≤ p1 ∧ p1 < z1)) (h2 : (z8 = 0 → p1 < 0 ∨ z1 ≤ p1)) (h3 : 0 ≤ p1 ∧ p1 < z1) (h4 : (z20 = 1 → (0 : Int) ≤ p2 ∧ p2 ≤ (1 : Int))) (h5 : (z20 = 0 → p2 < (0 : Int) ∨ (1 : Int) < p2)) (h6 : (0 : Int) ≤ p2 ∧ p2 ≤ (1 : Int)) (h7 : (z34 = 1 → 0 ≤ p3 ∧ p3 < z27)) (h8 : (z34 = 0 → p3 < 0 ∨ z27 ≤ p3)) (h9 : 0 ≤ p3 ∧ p3 < z27) (h10 : 0 ≤ p1 ∧ p1 ≤ 19) (h11 : 0 ≤ p2 ∧ p2 ≤ 1) (h12 : 0 ≤ p3 ∧ p3 ≤ 9) (h13 : 1 ≤ z1 ∧ z1 ≤ 20) (h14 : 1 ≤ z20 ∧ z20 ≤ 1) (h15 : 1 ≤ z27 ∧ z27 ≤ 10) (h16 : 1 ≤ z34 ∧ z34 ≤ 1) (h17 : 0 ≤ z44 ∧ z44 ≤ 399) (h18 : 1 ≤ z8 ∧ z8 ≤ 1) : ((40 * (530 + z44)) + 5) % 40 = 5 := by omega
theorem vc_X12_write_W_21  : ((0 : Int) : Int) ≤ (299 : Int) := by omega
theorem vc_X12_write_W_22  : (((0 : Int) + (1 : Int)) : Int) ≤ (299 : Int) := by omega
theorem vc_X12_write_W_23  : ((((0 : Int) + (1 : Int)) + (1 : Int)) : Int) ≤ (299 : Int) := by omega
theorem vc_X12_write_W_24  : (((((0 : Int) + (1 : Int)) + (1 : Int)) + (1 : Int)) : Int) ≤ (299 : Int) := by omega
theorem vc_X12_write_W_25  : ((((((0 : Int) + (1 : Int)) + (1 : Int)) + (1 : Int)) + (1 : Int)) : Int) ≤ (299 : Int) := by omega
theorem vc_X12_write_W_26  : (((((((0 : Int) + (1 : Int)) + (1 : Int)) + (1 : Int)) + (1 : Int)) + (1 : Int)) : Int) ≤ (299 : Int) := by omega
theorem vc_X12_write_W_27  : ((((((((0 : Int) + (1 : Int)) + (1 : Int)) + (1 : Int)) + (1 : Int)) + (1 : Int)) + (1 : Int)) : Int) ≤ (299 : Int) := by omega
theorem vc_X12_write_W_28  : (((((((((0 : Int) + (1 : Int)) + (1 : Int)) + (1 : Int)) + (1 : Int)) + (1 : Int)) + (1 : Int)) + (1 : Int)) : Int) ≤ (299 : Int) := by omega
theorem vc_X12_write_W_29  : ((((((((((0 : Int) + (1 : Int)) + (1 : Int)) + (1 : Int)) + (1 : Int)) + (1 : Int)) + (1 : Int)) + (1 : Int)) + (1 : Int)) : Int) ≤ (299 : Int) := by omega
theorem vc_X12_write_W_30  : (((((((((((0 : Int) + (1 : Int)) + (1 : Int)) + (1 : Int)) + (1 : Int)) + (1 : Int)) + (1 : Int)) + (1 : Int)) + (1 : Int)) + (1 : Int)) : Int) ≤ (299 : Int) := by omega
theorem vc_X12_write_W_31  : ((((((((((((0 : Int) + (1 : Int)) + (1 : Int)) + (1 : Int)) + (1 : Int)) + (1 : Int)) + (1 : Int)) + (1 : Int)) + (1 : Int)) + (1 : Int)) + (1 : Int)) : Int) ≤ (299 : Int) := by omega
theorem vc_X12_write_W_32 {z252 : Int} (h0 : z252 ≤ 100) (h1 : 0 ≤ z252 ∧ z252 ≤ 300) : 0 ≤ z252 ∧ z252 ≤ 100 := by omega
theorem vc_X12_write_W_33 {z302 : Int} (h0 : z302 ≤ 107) (h1 : 0 ≤ z302 ∧ z302 ≤ 300) : 0 ≤ z302 ∧ z302 ≤ 107 := by omega
theorem vc_X12_write_W_35 {z302 : Int} (h0 : z302 ≤ 107) (h1 : 0 ≤ z302 ∧ z302 ≤ 107) : z302 ≤ 290 := by omega
theorem vc_X12_write_W_37 {z302 : Int} (h0 : z302 ≤ 107) (h1 : 0 ≤ z302 ∧ z302 ≤ 107) : z302 ≤ 299 := by omega
theorem vc_X12_write_W_38 {z302 z387 : Int} (h0 : z302 ≤ 107) (h1 : z387 = z302 + 1) (h2 : 0 ≤ z302 ∧ z302 ≤ 107) (h3 : 0 ≤ z387 ∧ z387 ≤ 300) : (z302 + 1) ≤ 299 := by omega
theorem vc_X12_write_W_39 {z302 z387 z396 : Int} (h0 : z302 ≤ 107) (h1 : z387 = z302 + 1) (h2 : z396 = (z302 + 1) + 1) (h3 : 0 ≤ z302 ∧ z302 ≤ 107) (h4 : 0 ≤ z387 ∧ z387 ≤ 300) (h5 : 0 ≤ z396 ∧ z396 ≤ 300) : ((z302 + 1) + 1) ≤ 299 := by omega
theorem vc_X12_write_W_40 {f_w z660 : Int} (h0 : (9 - z660) < ((0 : Nat) : Int)) (h1 : f_w ≤ 120 + 4 * z660) (h2 : 0 ≤ z660 ∧ z660 ≤ 8) : False := by omega
theorem vc_X12_write_W_41 {f_w z59 z660 : Int} (h0 : z59 ≤ z660) (h1 : 0 < z59) (h2 : f_w ≤ 120 + 4 * z660) (h3 : 0 ≤ f_w ∧ f_w ≤ 300) (h4 : 1 ≤ z59 ∧ z59 ≤ 8) (h5 : 0 ≤ z660 ∧ z660 ≤ 8) : 1 ≤ z660 ∧ z660 ≤ 8 := by omega
theorem vc_X12_write_W_42 {f_w z59 z660 : Int} (h0 : f_w ≤ 120 + 4 * z660) (h1 : z59 ≤ z660) (h2 : 0 ≤ f_w ∧ f_w ≤ 300) (h3 : 1 ≤ z59 ∧ z59 ≤ 8) (h4 : 1 ≤ z660 ∧ z660 ≤ 8) : f_w ≤ 290 := by omega
theorem vc_X12_write_W_43 {f_w z59 z660 : Int} (h0 : z660 < z59) (h1 : 0 < z59) (h2 : f_w ≤ 120 + 4 * z660) (h3 : 0 ≤ f_w ∧ f_w ≤ 300) (h4 : 1 ≤ z59 ∧ z59 ≤ 8) (h5 : 0 ≤ z660 ∧ z660 ≤ 8) : 0 ≤ z660 ∧ z660 ≤ 7 := by omega
theorem vc_X12_write_W_44 {f_w z44 z59 z660 z698 : Int} (h0 : f_w ≤ 120 + 4 * z660) (h1 : z660 < z59) (h2 : ((((40 * (530 + z44)) + 26) + z660) % 40 = 0 → -1 ≤ z698 ∧ z698 ≤ 9)) (h3 : ((((40 * (530 + z44)) + 26) + z660) % 40 = 4 → 0 ≤ z698 ∧ z698 ≤ 20)) (h4 : ((((40 * (530 + z44)) + 26) + z660) % 40 = 5 → 0 ≤ z698 ∧ z698 ≤ 8)) (h5 : 0 ≤ f_w ∧ f_w ≤ 300) (h6 : 0 ≤ z44 ∧ z44 ≤ 399) (h7 : 1 ≤ z59 ∧ z59 ≤ 8) (h8 : 0 ≤ z660 ∧ z660 ≤ 7) (h9 : (-2147483648) ≤ z698 ∧ z698 ≤ 2147483647) : f_w ≤ 295 := by omega
theorem vc_X12_write_W_45 {f_w p1 p2 p3 z44 z59 z660 z698 z705 : Int} (h0 : f_w ≤ 120 + 4 * z660) (h1 : z660 < z59) (h2 : ((((40 * (530 + z44)) + 26) + z660) % 40 = 0 → -1 ≤ z698 ∧ z698 ≤ 9)) (h3 : ((((40 * (530 + z44)) + 26) + z660) % 40 = 4 → 0 ≤ z698 ∧ z698 ≤ 20)) (h4 : ((((40 * (530 + z44)) + 26) + z660) % 40 = 5 → 0 ≤ z698 ∧ z698 ≤ 8)) (h5 : z705 = f_w + 4) (h6 : z44 = (((20 * p1) + (10 * p2)) + p3)) (h7 : 0 < z59) (h8 : 0 ≤ f_w ∧ f_w ≤ 300) (h9 : 0 ≤ p1 ∧ p1 ≤ 19) (h10 : 0 ≤ p2 ∧ p2 ≤ 1) (h11 : 0 ≤ p3 ∧ p3 ≤ 9) (h12 : 0 ≤ z44 ∧ z44 ≤ 399) (h13 : 1 ≤ z59 ∧ z59 ≤ 8) (h14 : 0 ≤ z660 ∧ z660 ≤ 7) (h15 : (-2147483648) ≤ z698 ∧ z698 ≤ 2147483647) (h16 : 0 ≤ z705 ∧ z705 ≤ 300) : (f_w + 4) ≤ 120 + 4 * (z660 + 1) := by omega
theorem vc_X12_write_W_46 {N f_w p1 p2 p3 z44 z59 z660 z698 z705 : Int} (h0 : (9 - z660) < N + 1) (h1 : f_w ≤ 120 + 4 * z660) (h2 : z660 < z59) (h3 : ((((40 * (530 + z44)) + 26) + z660) % 40 = 0 → -1 ≤ z698 ∧ z698 ≤ 9)) (h4 : ((((40 * (530 + z44)) + 26) + z660) % 40 = 4 → 0 ≤ z698 ∧ z698 ≤ 20)) (h5 : ((((40 * (530 + z44)) + 26) + z660) % 40 = 5 → 0 ≤ z698 ∧ z698 ≤ 8)) (h6 : z44 = (((20 * p1) + (10 * p2)) + p3)) (h7 : 0 < z59) (h8 : z705 = f_w + 4) (h9 : 0 ≤ f_w ∧ f_w ≤ 300) (h10 : 0 ≤ p1 ∧ p1 ≤ 19) (h11 : 0 ≤ p2 ∧ p2 ≤ 1) (h12 : 0 ≤ p3 ∧ p3 ≤ 9) (h13 : 0 ≤ z44 ∧ z44 ≤ 399) (h14 : 1 ≤ z59 ∧ z59 ≤ 8) (h15 : 0 ≤ z660 ∧ z660 ≤ 7) (h16 : (-2147483648) ≤ z698 ∧ z698 ≤ 2147483647) (h17 : 0 ≤ z705 ∧ z705 ≤ 300) : (9 - (z660 + 1)) < N := by omega
theorem vc_X12_write_W_47 {z302 z387 z396 z405 : Int} (h0 : z302 ≤ 107) (h1 : z387 = z302 + 1) (h2 : z396 = (z302 + 1) + 1) (h3 : z405 = ((z302 + 1) + 1) + 1) (h4 : 0 ≤ z302 ∧ z302 ≤ 107) (h5 : 0 ≤ z387 ∧ z387 ≤ 300) (h6 : 0 ≤ z396 ∧ z396 ≤ 300) (h7 : 0 ≤ z405 ∧ z405 ≤ 300) : (((z302 + 1) + 1) + 1) ≤ 120 + 4 * (0 : Int) := by omega
theorem vc_X12_write_W_49 {z69 : Int} (h0 : z69 ≤ 0) (h1 : (-2147483648) ≤ z69 ∧ z69 ≤ 2147483647) : (-2147483648) ≤ z69 ∧ z69 ≤ 0 := by omega
theorem vc_X12_write_W_50 {z252 : Int} (h0 : z252 ≤ 100) (h1 : 0 ≤ z252 ∧ z252 ≤ 100) : z252 ≤ 107 := by omega
theorem vc_X12_write_W_51 {z69 : Int} (h0 : 0 < z69) (h1 : (-2147483648) ≤ z69 ∧ z69 ≤ 2147483647) : 1 ≤ z69 ∧ z69 ≤ 2147483647 := by omega
theorem vc_X12_write_W_52 {z252 : Int} (h0 : z252 ≤ 100) (h1 : 0 ≤ z252 ∧ z252 ≤ 100) : z252 ≤ 299 := by omega
theorem vc_X12_write_W_53 {z252 z717 : Int} (h0 : z252 ≤ 100) (h1 : z717 = z252 + 1) (h2 : 0 ≤ z252 ∧ z252 ≤ 100) (h3 : 0 ≤ z717 ∧ z717 ≤ 300) : (z252 + 1) ≤ 299 := by omega
theorem vc_X12_write_W_54 {z252 z717 z726 : Int} (h0 : z252 ≤ 100) (h1 : z717 = z252 + 1) (h2 : z726 = (z252 + 1) + 1) (h3 : 0 ≤ z252 ∧ z252 ≤ 100) (h4 : 0 ≤ z717 ∧ z717 ≤ 300) (h5 : 0 ≤ z726 ∧ z726 ≤ 300) : ((z252 + 1) + 1) ≤ 299 := by omega
theorem vc_X12_write_W_55 {z252 z717 z726 z735 : Int} (h0 : z252 ≤ 100) (h1 : z717 = z252 + 1) (h2 : z726 = (z252 + 1) + 1) (h3 : z735 = ((z252 + 1) + 1) + 1) (h4 : 0 ≤ z252 ∧ z252 ≤ 100) (h5 : 0 ≤ z717 ∧ z717 ≤ 300) (h6 : 0 ≤ z726 ∧ z726 ≤ 300) (h7 : 0 ≤ z735 ∧ z735 ≤ 300) : (((z252 + 1) + 1) + 1) ≤ 295 := by omega
theorem vc_X12_write_W_56 {z252 z717 z726 z735 z744 : Int} (h0 : z252 ≤ 100) (h1 : z717 = z252 + 1) (h2 : z726 = (z252 + 1) + 1) (h3 : z735 = ((z252 + 1) + 1) + 1) (h4 : z744 = (((z252 + 1) + 1) + 1) + 4) (h5 : 0 ≤ z252 ∧ z252 ≤ 100) (h6 : 0 ≤ z717 ∧ z717 ≤ 300) (h7 : 0 ≤ z726 ∧ z726 ≤ 300) (h8 : 0 ≤ z735 ∧ z735 ≤ 300) (h9 : 0 ≤ z744 ∧ z744 ≤ 300) : ((((z252 + 1) + 1) + 1) + 4) ≤ 107 := by omega
theorem vc_X12_write_W_58  : (((((((((((((0 : Int) + (1 : Int)) + (1 : Int)) + (1 : Int)) + (1 : Int)) + (1 : Int)) + (1 : Int)) + (1 : Int)) + (1 : Int)) + (1 : Int)) + (1 : Int)) + (1 : Int)) : Int) ≤ (100 : Int) := by omega
theorem vc_X12_write_W_60  : (((((((((((((0 : Int) + (1 : Int)) + (1 : Int)) + (1 : Int)) + (1 : Int)) + (1 : Int)) + (1 : Int)) + (1 : Int)) + (1 : Int)) + (1 : Int)) + (1 : Int)) + (1 : Int)) : Int) ≤ (299 : Int) := by omega
theorem vc_X12_write_W_61  : ((((((((((((((0 : Int) + (1 : Int)) + (1 : Int)) + (1 : Int)) + (1 : Int)) + (1 : Int)) + (1 : Int)) + (1 : Int)) + (1 : Int)) + (1 : Int)) + (1 : Int)) + (1 : Int)) + (1 : Int)) : Int) ≤ (299 : Int) := by omega
theorem vc_X12_write_W_62 {f_w z1020 : Int} (h0 : (21 - z1020) < ((0 : Nat) : Int)) (h1 : f_w ≤ 20 + 4 * z1020) (h2 : 0 ≤ z1020 ∧ z1020 ≤ 20) : False := by omega
theorem vc_X12_write_W_63 {f_w z1020 z55 : Int} (h0 : z55 ≤ z1020) (h1 : 0 < z55) (h2 : f_w ≤ 20 + 4 * z1020) (h3 : 0 ≤ f_w ∧ f_w ≤ 300) (h4 : 0 ≤ z1020 ∧ z1020 ≤ 20) (h5 : 1 ≤ z55 ∧ z55 ≤ 20) : 1 ≤ z1020 ∧ z1020 ≤ 20 := by omega
theorem vc_X12_write_W_64 {f_w z1020 z55 : Int} (h0 : f_w ≤ 20 + 4 * z1020) (h1 : z55 ≤ z1020) (h2 : 0 ≤ f_w ∧ f_w ≤ 300) (h3 : 1 ≤ z1020 ∧ z1020 ≤ 20) (h4 : 1 ≤ z55 ∧ z55 ≤ 20) : f_w ≤ 100 := by omega
theorem vc_X12_write_W_65 {f_w z1020 z55 : Int} (h0 : z1020 < z55) (h1 : 0 < z55) (h2 : f_w ≤ 20 + 4 * z1020) (h3 : 0 ≤ f_w ∧ f_w ≤ 300) (h4 : 0 ≤ z1020 ∧ z1020 ≤ 20) (h5 : 1 ≤ z55 ∧ z55 ≤ 20) : 0 ≤ z1020 ∧ z1020 ≤ 19 := by omega
theorem vc_X12_write_W_66 {f_w z1020 z1036 z44 z55 : Int} (h0 : f_w ≤ 20 + 4 * z1020) (h1 : z1020 < z55) (h2 : ((((40 * (530 + z44)) + 6) + z1020) % 40 = 0 → -1 ≤ z1036 ∧ z1036 ≤ 9)) (h3 : ((((40 * (530 + z44)) + 6) + z1020) % 40 = 4 → 0 ≤ z1036 ∧ z1036 ≤ 20)) (h4 : ((((40 * (530 + z44)) + 6) + z1020) % 40 = 5 → 0 ≤ z1036 ∧ z1036 ≤ 8)) (h5 : 0 ≤ f_w ∧ f_w ≤ 300) (h6 : 0 ≤ z1020 ∧ z1020 ≤ 19) (h7 : (-2147483648) ≤ z1036 ∧ z1036 ≤ 2147483647) (h8 : 0 ≤ z44 ∧ z44 ≤ 399) (h9 : 1 ≤ z55 ∧ z55 ≤ 20) : f_w ≤ 295 := by omega
theorem vc_X12_write_W_67 {f_w p1 p2 p3 z1020 z1036 z1043 z44 z55 : Int} (h0 : f_w ≤ 20 + 4 * z1020) (h1 : z1020 < z55) (h2 : ((((40 * (530 + z44)) + 6) + z1020) % 40 = 0 → -1 ≤ z1036 ∧ z1036 ≤ 9)) (h3 : ((((40 * (530 + z44)) + 6) + z1020) % 40 = 4 → 0 ≤ z1036 ∧ z1036 ≤ 20)) (h4 : ((((40 * (530 + z44)) + 6) + z1020) % 40 = 5 → 0 ≤ z1036 ∧ z1036 ≤ 8)) (h5 : z1043 = f_w + 4) (h6 : z44 = (((20 * p1) + (10 * p2)) + p3)) (h7 : 0 < z55) (h8 : 0 ≤ f_w ∧ f_w ≤ 300) (h9 : 0 ≤ p1 ∧ p1 ≤ 19) (h10 : 0 ≤ p2 ∧ p2 ≤ 1) (h11 : 0 ≤ p3 ∧ p3 ≤ 9) (h12 : 0 ≤ z1020 ∧ z1020 ≤ 19) (h13 : (-2147483648) ≤ z1036 ∧ z1036 ≤ 2147483647) (h14 : 0 ≤ z1043 ∧ z1043 ≤ 300) (h15 : 0 ≤ z44 ∧ z44 ≤ 399) (h16 : 1 ≤ z55 ∧ z55 ≤ 20) : (f_w + 4) ≤ 20 + 4 * (z1020 + 1) := by omega
theorem vc_X12_write_W_68 {N f_w p1 p2 p3 z1020 z1036 z1043 z44 z55 : Int} (h0 : (21 - z1020) < N + 1) (h1 : f_w ≤ 20 + 4 * z1020) (h2 : z1020 < z55) (h3 : ((((40 * (530 + z44)) + 6) + z1020) % 40 = 0 → -1 ≤ z1036 ∧ z1036 ≤ 9)) (h4 : ((((40 * (530 + z44)) + 6) + z1020) % 40 = 4 → 0 ≤ z1036 ∧ z1036 ≤ 20)) (h5 : ((((40 * (530 + z44)) + 6) + z1020) % 40 = 5 → 0 ≤ z1036 ∧ z1036 ≤ 8)) (h6 : z44 = (((20 * p1) + (10 * p2)) + p3)) (h7 : 0 < z55) (h8 : z1043 = f_w + 4) (h9 : 0 ≤ f_w ∧ f_w ≤ 300) (h10 : 0 ≤ p1 ∧ p1 ≤ 19) (h11 : 0 ≤ p2 ∧ p2 ≤ 1) (h12 : 0 ≤ p3 ∧ p3 ≤ 9) (h13 : 0 ≤ z1020 ∧ z1020 ≤ 19) (h14 : (-2147483648) ≤ z1036 ∧ z1036 ≤ 2147483647) (h15 : 0 ≤ z1043 ∧ z1043 ≤ 300) (h16 : 0 ≤ z44 ∧ z44 ≤ 399) (h17 : 1 ≤ z55 ∧ z55 ≤ 20) : (21 - (z1020 + 1)) < N := by omega
theorem vc_X12_write_W_69  : (((((((((((((((0 : Int) + (1 : Int)) + (1 : Int)) + (1 : Int)) + (1 : Int)) + (1 : Int)) + (1 : Int)) + (1 : Int)) + (1 : Int)) + (1 : Int)) + (1 : Int)) + (1 : Int)) + (1 : Int)) + (1 : Int)) : Int) ≤ (20 : Int) + (4 : Int) * ((0 : Int) : Int) := by omega
theorem vc_X12_write_W_75  : ((((0 : Int) + (1 : Int)) + (1 : Int)) : Int) ≤ (290 : Int) := by omega
theorem vc_X12_write_W_76 {z1086 : Int} (h0 : z1086 ≤ (((0 + 1) + 1) : Int) + 5) (h1 : 0 ≤ z1086 ∧ z1086 ≤ 300) : z1086 ≤ 299 := by omega
theorem vc_X12_write_W_77 {z1086 z1094 : Int} (h0 : z1086 ≤ (((0 + 1) + 1) : Int) + 5) (h1 : z1094 = z1086 + 1) (h2 : 0 ≤ z1086 ∧ z1086 ≤ 300) (h3 : 0 ≤ z1094 ∧ z1094 ≤ 300) : (z1086 + 1) ≤ 299 := by omega
set_option maxRecDepth 4000 in
set_option maxHeartbeats 4000000 in
theorem c_X12_write_W {l : Launch} {D : va_G} {c : Nat → ClassId} {H0 : Heap} {sa : Nat × Nat × (Nat → Int32)} {w : mW} {μ : mM} (hw : mWF w) (hT : mT w μ) {p1 : Int} (hp1 : (-2147483648) ≤ p1 ∧ p1 ≤ 2147483647) {p2 : Int} (hp2 : (-2147483648) ≤ p2 ∧ p2 ≤ 2147483647) {p3 : Int} (hp3 : (-2147483648) ≤ p3 ∧ p3 ≤ 2147483647) {Q : Int → mM → Prop} (hQ : WP_X12_write_W w μ p1 p2 p3 Q) : sC (gG l D c H0 sa) mX12_write 3 0 0 [.ref 106, iv p1, iv p2, iv p3] (mk w μ) (qI w [106104, 174999] μ (fun z μ1 => ((-2147483648) ≤ z ∧ z ≤ 2147483647) ∧ Q z μ1 ∧ True)) := by
  refine sC.of rfl (by decide) (le_t rfl) ?_
  refine mr_lvE (lv' := [(0, .ref 106), (1, iv p1), (2, iv p2), (3, iv p3)]) rfl ?_
  refine sv_aload_n (pc := 0) dX12_write_0 rfl rfl ?_
  refine mr_iload_n (pc := 1) (z := p1) dX12_write_1 rfl rfl ?_
  obtain ⟨z1, q2⟩ : ∃ z, μ 106 6 = z := ⟨_, rfl⟩
  have h3 : (0 ≤ z1 ∧ z1 ≤ 20) := by rw [← q2]; exact hT 106 106 (A_106 hw) 6
  refine mr_cVP (pc := 2) (c_X12_isTie_W hw hT hp1 q2 (hQ z1 q2 h3)) (gOk _ _ _ _ _) dX12_write_2 (tX12_isTie _ _ _ _ _) ⟨wV_X12_isTie, wL_X12_isTie⟩ wM_X12_66 (gCX12 _ _ _ _ _) rfl (A_106 hw) rfl ⟨le_t rfl, le_t rfl⟩ ⟨le_t rfl, le_t rfl⟩ rfl (le_t rfl) fun z8 h7 => ?_
  refine mr_if_eq (pc := 5) (tgt := 25) dX12_write_5 (by decide) (r32 h7.1 rfl) (fun h9 => ?_) (fun h9 => ?_)
  · have h10 : 0 ≤ z8 ∧ z8 ≤ 0 := (vc_X11_load_1 h9 h7.2.1 h7.2.2.1 hp1 h3 h7.1)
    have h11 : p1 < 0 ∨ z1 ≤ p1 := (h7.2.2.1 (vc_X12_load_2 h7.2.1 h7.2.2.1 h9 hp1 h3 h10))
    refine mr_iconst (pc := 25) (z := (-1)) dX12_write_25 ?_
    exact mr_iret dX12_write_26 rfl (le_t rfl) (le_t rfl) hT mF.refl ⟨(rW (c := (-2147483648)) (d := 2147483647) (rR (x := (-1))) rfl), ((h7.2.2.2.1 h7.1).1 h9), trivial⟩
  have h12 : 1 ≤ z8 ∧ z8 ≤ 1 := (vc_X11_load_3 h9 h7.2.1 h7.2.2.1 hp1 h3 h7.1)
  have h13 : 0 ≤ p1 ∧ p1 < z1 := (h7.2.1 (vc_X12_load_4 h7.2.1 h7.2.2.1 h9 hp1 h3 h12))
  have h14 : 0 ≤ p1 ∧ p1 ≤ 19 := (vc_X12_load_5 h13 h7.2.1 h7.2.2.1 hp1 h3 h12)
  have h15 : 1 ≤ z1 ∧ z1 ≤ 20 := (vc_X12_load_6 h13 h7.2.1 h7.2.2.1 h14 h3 h12)
  refine mr_iload_n (pc := 8) (z := p2) dX12_write_8 rfl rfl ?_
  refine mr_iconst (pc := 9) (z := 0) dX12_write_9 ?_
  refine mr_iconst (pc := 10) (z := 1) dX12_write_10 ?_
  refine mr_cSP (pc := 11) (c_X12_in_W hw hT hp2 (rW (c := (-2147483648)) (d := 2147483647) (rR (x := 0)) rfl) (rW (c := (-2147483648)) (d := 2147483647) (rR (x := 1)) rfl) ((h7.2.2.2.1 h7.1).2 h9)) (gOk _ _ _ _ _) dX12_write_11 (tX12_in _ _ _ _ _) wS_X12_in wM_X12_18 ⟨le_t rfl, le_t rfl⟩ ⟨le_t rfl, le_t rfl⟩ rfl (le_t rfl) fun z20 h19 => ?_
  refine mr_if_eq (pc := 14) (tgt := 25) dX12_write_14 (by decide) (r32 h19.1 rfl) (fun h21 => ?_) (fun h21 => ?_)
  · have h22 : 0 ≤ z20 ∧ z20 ≤ 0 := (vc_X12_load_20 h21 h19.2.1 h19.2.2.1 hp2 h19.1)
    have h23 : p2 < (0 : Int) ∨ (1 : Int) < p2 := (h19.2.2.1 (vc_X12_load_21 h19.2.1 h19.2.2.1 h21 hp2 h22))
    refine mr_iconst (pc := 25) (z := (-1)) dX12_write_25 ?_
    exact mr_iret dX12_write_26 rfl (le_t rfl) (le_t rfl) hT mF.refl ⟨(rW (c := (-2147483648)) (d := 2147483647) (rR (x := (-1))) rfl), ((h19.2.2.2.1 h19.1).1 h21), trivial⟩
  have h24 : 1 ≤ z20 ∧ z20 ≤ 1 := (vc_X12_load_7 h21 h19.2.1 h19.2.2.1 hp2 h19.1)
  have h25 : (0 : Int) ≤ p2 ∧ p2 ≤ (1 : Int) := (h19.2.1 (vc_X12_load_8 h19.2.1 h19.2.2.1 h21 hp2 h24))
  have h26 : 0 ≤ p2 ∧ p2 ≤ 1 := (vc_X12_load_9 h25 h19.2.1 h19.2.2.1 hp2 h24)
  refine sv_aload_n (pc := 17) dX12_write_17 rfl rfl ?_
  refine mr_iload_n (pc := 18) (z := p3) dX12_write_18 rfl rfl ?_
  obtain ⟨z27, q28⟩ : ∃ z, μ 106 2 = z := ⟨_, rfl⟩
  have h29 : (0 ≤ z27 ∧ z27 ≤ 10) := by rw [← q28]; exact hT 106 106 (A_106 hw) 2
  refine mr_cVP (pc := 19) (c_X12_isPrefix_W hw hT hp3 q28 (((h19.2.2.2.1 h19.1).2 h21) z27 q28 h29)) (gOk _ _ _ _ _) dX12_write_19 (tX12_isPrefix _ _ _ _ _) ⟨wV_X12_isPrefix, wL_X12_isPrefix⟩ wM_X12_92 (gCX12 _ _ _ _ _) rfl (A_106 hw) rfl ⟨le_t rfl, le_t rfl⟩ ⟨le_t rfl, le_t rfl⟩ rfl (le_t rfl) fun z34 h33 => ?_
  refine mr_if_ne (pc := 22) (tgt := 27) dX12_write_22 (by decide) (r32 h33.1 rfl) (fun h35 => ?_) (fun h35 => ?_)
  · have h36 : 1 ≤ z34 ∧ z34 ≤ 1 := (vc_X12_demand_3 h35 h33.2.1 h33.2.2.1 hp3 h29 h33.1)
    have h37 : 0 ≤ p3 ∧ p3 < z27 := (h33.2.1 (vc_X12_demand_4 h33.2.1 h33.2.2.1 h35 hp3 h29 h36))
    have h38 : 0 ≤ p3 ∧ p3 ≤ 9 := (vc_X12_demand_5 h37 h33.2.1 h33.2.2.1 hp3 h29 h36)
    have h39 : 1 ≤ z27 ∧ z27 ≤ 10 := (vc_X12_demand_6 h37 h33.2.1 h33.2.2.1 h38 h29 h36)
    refine mr_bipush (pc := 27) (z := 40) dX12_write_27 (by decide) ?_
    refine mr_sipush (pc := 29) (z := 530) dX12_write_29 (by decide) ?_
    refine mr_iload_n (pc := 32) (z := p1) dX12_write_32 rfl rfl ?_
    refine mr_iload_n (pc := 33) (z := p2) dX12_write_33 rfl rfl ?_
    refine mr_iload_n (pc := 34) (z := p3) dX12_write_34 rfl rfl ?_
    refine mr_cSP (pc := 35) (c_X12_slot_W hw hT (rW (c := 0) (d := 20) h14 rfl) (rW (c := 0) (d := 2) h26 rfl) h38 ((h33.2.2.2.1 h33.1).1 h35)) (gOk _ _ _ _ _) dX12_write_35 (tX12_slot _ _ _ _ _) wS_X12_slot wM_X12_545 ⟨le_t rfl, le_t rfl⟩ ⟨le_t rfl, le_t rfl⟩ rfl (le_t rfl) fun z44 h43 => ?_
    have h45 : 0 ≤ z44 ∧ z44 ≤ 399 := (vc_X12_heard_W_21 h43.2.1 h13 h19.2.1 h19.2.2.1 h25 h33.2.1 h33.2.2.1 h37 h14 h26 h38 h15 h24 h39 h36 h43.1)
    refine mr_iadd (pc := 38) (x := 530) (y := z44) dX12_write_38 ?_
    refine mr_imul (pc := 39) (x := 40) (y := (530 + z44)) dX12_write_39 ?_
    refine mr_istore (pc := 40) (lv' := [(4, iv (40 * (530 + z44))), (0, .ref 106), (1, iv p1), (2, iv p2), (3, iv p3)]) dX12_write_40 (by decide) rfl ?_
    refine sv_aload_n (pc := 42) dX12_write_42 rfl rfl ?_
    refine mr_iconst (pc := 43) (z := 0) dX12_write_43 ?_
    refine pf_X12_104 (pc := 44) dX12_write_44 wF_X12_671 (A_106 hw) hT (rW (c := 0) (d := 300) (rR (x := 0)) rfl) fun μ46 u47 T48 => ?_
    refine sv_aload_n (pc := 47) dX12_write_47 rfl rfl ?_
    refine gf_X12_32 (pc := 48) dX12_write_48 wF_X12_148 (A_106 hw) T48 ?_
    refine mr_iload (pc := 51) (z := (40 * (530 + z44))) dX12_write_51 rfl ?_
    refine la_126 (pc := 53) dX12_write_53 (A_126 hw) T48 (rIx (n := 84000) (rMulL (n := 40) (e := 21200) (f := 37160) (rAdd (e := 530) (f := 929) (rR (x := 530)) h45 rfl) rfl) rfl) fun z49 q50 h51 => ?_
    have h52 : (-1) ≤ z49 ∧ z49 ≤ 9 := h51.2.1 (vc_X12_write_W_17 h43.2.1 h7.2.1 h7.2.2.1 h13 h19.2.1 h19.2.2.1 h25 h33.2.1 h33.2.2.1 h37 h14 h26 h38 h15 h24 h39 h36 h45 h12)
    refine mr_if_ge (pc := 54) (tgt := 100) dX12_write_54 (by decide) (r32 h52 rfl) (fun h53 => ?_) (fun h53 => ?_)
    · have h54 : 0 ≤ z49 ∧ z49 ≤ 9 := (vc_X12_isThere_6 h53 h52)
      refine sv_aload_n (pc := 100) dX12_write_100 rfl rfl ?_
      refine gf_X12_32 (pc := 101) dX12_write_101 wF_X12_148 (A_106 hw) T48 ?_
      refine mr_iload (pc := 104) (z := (40 * (530 + z44))) dX12_write_104 rfl ?_
      refine mr_iconst (pc := 106) (z := 4) dX12_write_106 ?_
      refine mr_iadd (pc := 107) (x := (40 * (530 + z44))) (y := 4) dX12_write_107 ?_
      refine la_126 (pc := 108) dX12_write_108 (A_126 hw) T48 (rIx (n := 84000) (rAdd (e := 21204) (f := 37164) (rMulL (n := 40) (e := 21200) (f := 37160) (rAdd (e := 530) (f := 929) (rR (x := 530)) h45 rfl) rfl) (rR (x := 4)) rfl) rfl) fun z55 q56 h57 => ?_
      have h58 : 0 ≤ z55 ∧ z55 ≤ 20 := h57.2.2.1 (vc_X12_write_W_19 h43.2.1 h7.2.1 h7.2.2.1 h13 h19.2.1 h19.2.2.1 h25 h33.2.1 h33.2.2.1 h37 h14 h26 h38 h15 h24 h39 h36 h45 h12)
      refine mr_istore (pc := 109) (lv' := [(5, iv z55), (4, iv (40 * (530 + z44))), (0, .ref 106), (1, iv p1), (2, iv p2), (3, iv p3)]) dX12_write_109 (by decide) rfl ?_
      refine sv_aload_n (pc := 111) dX12_write_111 rfl rfl ?_
      refine gf_X12_32 (pc := 112) dX12_write_112 wF_X12_148 (A_106 hw) T48 ?_
      refine mr_iload (pc := 115) (z := (40 * (530 + z44))) dX12_write_115 rfl ?_
      refine mr_iconst (pc := 117) (z := 5) dX12_write_117 ?_
      refine mr_iadd (pc := 118) (x := (40 * (530 + z44))) (y := 5) dX12_write_118 ?_
      refine la_126 (pc := 119) dX12_write_119 (A_126 hw) T48 (rIx (n := 84000) (rAdd (e := 21205) (f := 37165) (rMulL (n := 40) (e := 21200) (f := 37160) (rAdd (e := 530) (f := 929) (rR (x := 530)) h45 rfl) rfl) (rR (x := 5)) rfl) rfl) fun z59 q60 h61 => ?_
      have h62 : 0 ≤ z59 ∧ z59 ≤ 8 := h61.2.2.2 (vc_X12_write_W_20 h43.2.1 h7.2.1 h7.2.2.1 h13 h19.2.1 h19.2.2.1 h25 h33.2.1 h33.2.2.1 h37 h14 h26 h38 h15 h24 h39 h36 h45 h12)
      refine mr_istore (pc := 120) (lv' := [(6, iv z59), (5, iv z55), (4, iv (40 * (530 + z44))), (0, .ref 106), (1, iv p1), (2, iv p2), (3, iv p3)]) dX12_write_120 (by decide) rfl ?_
      refine mr_iload (pc := 122) (z := z55) dX12_write_122 rfl ?_
      have J67 : ∀ (z65 : Int), ((0 ≤ z65 ∧ z65 ≤ 82)) → ((WJ_X12_write_W_1 w p3 Q z44 μ46 z55 z59) z65) → sV (gG l D c H0 sa) mX12_write (sRm 3 0 0) (sZ (gG l D c H0 sa) 0 0 (qI w [106104, 174999] μ (fun z μ1 => ((-2147483648) ≤ z ∧ z ≤ 2147483647) ∧ Q z μ1 ∧ True))) 137 [(0, .ref 106), (3, iv p3), (4, iv (40 * (530 + z44))), (5, iv z55), (6, iv z59)] [iv z65] (mk w μ46) 0 0 := by
        intro z65 h66 W68
        refine mr_istore (pc := 137) (lv' := [(7, iv z65), (0, .ref 106), (3, iv p3), (4, iv (40 * (530 + z44))), (5, iv z55), (6, iv z59)]) dX12_write_137 (by decide) rfl ?_
        refine mr_bipush (pc := 139) (z := 7) dX12_write_139 (by decide) ?_
        refine mr_iload (pc := 141) (z := z65) dX12_write_141 rfl ?_
        refine mr_iadd (pc := 143) (x := 7) (y := z65) dX12_write_143 ?_
        refine sv_aload_n (pc := 144) dX12_write_144 rfl rfl ?_
        refine gf_X12_32 (pc := 145) dX12_write_145 wF_X12_148 (A_106 hw) T48 ?_
        refine mr_iload (pc := 148) (z := (40 * (530 + z44))) dX12_write_148 rfl ?_
        refine mr_iconst (pc := 150) (z := 3) dX12_write_150 ?_
        refine mr_iadd (pc := 151) (x := (40 * (530 + z44))) (y := 3) dX12_write_151 ?_
        refine la_126 (pc := 152) dX12_write_152 (A_126 hw) T48 (rIx (n := 84000) (rAdd (e := 21203) (f := 37163) (rMulL (n := 40) (e := 21200) (f := 37160) (rAdd (e := 530) (f := 929) (rR (x := 530)) h45 rfl) rfl) (rR (x := 3)) rfl) rfl) fun z69 q70 h71 => ?_
        have J76 : ∀ (z74 : Int), ((0 ≤ z74 ∧ z74 ≤ 7)) → ((WJ_X12_write_W_2 w p3 Q z44 μ46 z55 z59 z65 z69) z74) → sV (gG l D c H0 sa) mX12_write (sRm 3 0 0) (sZ (gG l D c H0 sa) 0 0 (qI w [106104, 174999] μ (fun z μ1 => ((-2147483648) ≤ z ∧ z ≤ 2147483647) ∧ Q z μ1 ∧ True))) 162 [(0, .ref 106), (3, iv p3), (4, iv (40 * (530 + z44))), (5, iv z55), (6, iv z59), (7, iv z65)] [iv z74, iv (7 + z65)] (mk w μ46) 0 0 := by
          intro z74 h75 W77
          refine mr_iadd (pc := 162) (x := (7 + z65)) (y := z74) dX12_write_162 ?_
          refine mr_iload (pc := 163) (z := z59) dX12_write_163 rfl ?_
          have J82 : ∀ (z80 : Int), ((0 ≤ z80 ∧ z80 ≤ 35)) → ((WJ_X12_write_W_3 w p3 Q z44 μ46 z55 z59 z65 z69 z74) z80) → sV (gG l D c H0 sa) mX12_write (sRm 3 0 0) (sZ (gG l D c H0 sa) 0 0 (qI w [106104, 174999] μ (fun z μ1 => ((-2147483648) ≤ z ∧ z ≤ 2147483647) ∧ Q z μ1 ∧ True))) 178 [(0, .ref 106), (3, iv p3), (4, iv (40 * (530 + z44))), (5, iv z55), (6, iv z59), (7, iv z65)] [iv z80, iv ((7 + z65) + z74)] (mk w μ46) 0 0 := by
            intro z80 h81 W83
            refine mr_iadd (pc := 178) (x := ((7 + z65) + z74)) (y := z80) dX12_write_178 ?_
            refine mr_istore (pc := 179) (lv' := [(8, iv (((7 + z65) + z74) + z80)), (0, .ref 106), (3, iv p3), (4, iv (40 * (530 + z44))), (5, iv z55), (6, iv z59), (7, iv z65)]) dX12_write_179 (by decide) rfl ?_
            refine sv_aload_n (pc := 181) dX12_write_181 rfl rfl ?_
            refine mr_iconst (pc := 182) (z := 0) dX12_write_182 ?_
            refine mr_cVV (pc := 183) (c_X12_octet1_W hw T48 (rW (c := (-2147483648)) (d := 2147483647) (rR (x := 0)) rfl) u47.1 vc_X12_write_W_21 (W83 h81)) (gOk _ _ _ _ _) dX12_write_183 (tX12_octet1 _ _ _ _ _) ⟨wV_X12_octet1, wL_X12_octet1⟩ wM_X12_674 (gCX12 _ _ _ _ _) rfl (A_106 hw) rfl ⟨le_t rfl, le_t rfl⟩ ⟨le_t rfl, le_t rfl⟩ rfl (le_t rfl) fun μ84 T85 F86 h87 => ?_
            obtain ⟨z88, q89, h90⟩ := h87
            have h91 : (0 ≤ z88 ∧ z88 ≤ 300) := by rw [← q89]; exact T85 106 106 (A_106 hw) 104
            have q92 : μ84 106 104 = (0 + 1) := q89.trans h90.1
            refine sv_aload_n (pc := 186) dX12_write_186 rfl rfl ?_
            refine mr_iconst (pc := 187) (z := 0) dX12_write_187 ?_
            refine mr_cVV (pc := 188) (c_X12_octet1_W hw T85 (rW (c := (-2147483648)) (d := 2147483647) (rR (x := 0)) rfl) q92 vc_X12_write_W_22 ((h90.2.1 T85 F86) z88 q89)) (gOk _ _ _ _ _) dX12_write_188 (tX12_octet1 _ _ _ _ _) ⟨wV_X12_octet1, wL_X12_octet1⟩ wM_X12_674 (gCX12 _ _ _ _ _) rfl (A_106 hw) rfl ⟨le_t rfl, le_t rfl⟩ ⟨le_t rfl, le_t rfl⟩ rfl (le_t rfl) fun μ93 T94 F95 h96 => ?_
            obtain ⟨z97, q98, h99⟩ := h96
            have h100 : (0 ≤ z97 ∧ z97 ≤ 300) := by rw [← q98]; exact T94 106 106 (A_106 hw) 104
            have q101 : μ93 106 104 = ((0 + 1) + 1) := q98.trans h99.1
            refine sv_aload_n (pc := 191) dX12_write_191 rfl rfl ?_
            refine mr_iload (pc := 192) (z := (((7 + z65) + z74) + z80)) dX12_write_192 rfl ?_
            refine mr_bipush (pc := 194) (z := 8) dX12_write_194 (by decide) ?_
            refine mr_ishr (pc := 196) (x := (((7 + z65) + z74) + z80)) (y := 8) dX12_write_196 ?_
            refine mr_gen (P := fun z => (-2147483648) ≤ z ∧ z ≤ 2147483647) (r32i _) fun z102 q103 h104 => ?_
            refine mr_cVV (pc := 197) (c_X12_octet1_W hw T94 h104 q101 vc_X12_write_W_23 (((h99.2.1 T94 F95) z97 q98) z102 q103)) (gOk _ _ _ _ _) dX12_write_197 (tX12_octet1 _ _ _ _ _) ⟨wV_X12_octet1, wL_X12_octet1⟩ wM_X12_674 (gCX12 _ _ _ _ _) rfl (A_106 hw) rfl ⟨le_t rfl, le_t rfl⟩ ⟨le_t rfl, le_t rfl⟩ rfl (le_t rfl) fun μ105 T106 F107 h108 => ?_
            obtain ⟨z109, q110, h111⟩ := h108
            have h112 : (0 ≤ z109 ∧ z109 ≤ 300) := by rw [← q110]; exact T106 106 106 (A_106 hw) 104
            have q113 : μ105 106 104 = (((0 + 1) + 1) + 1) := q110.trans h111.1
            refine sv_aload_n (pc := 200) dX12_write_200 rfl rfl ?_
            refine mr_iload (pc := 201) (z := (((7 + z65) + z74) + z80)) dX12_write_201 rfl ?_
            refine mr_cVV (pc := 203) (c_X12_octet1_W hw T106 (rW (c := (-2147483648)) (d := 2147483647) (rAdd (e := 7) (f := 131) (rAdd (e := 7) (f := 96) (rAdd (e := 7) (f := 89) (rR (x := 7)) h66 rfl) h75 rfl) h81 rfl) rfl) q113 vc_X12_write_W_24 ((h111.2.1 T106 F107) z109 q110)) (gOk _ _ _ _ _) dX12_write_203 (tX12_octet1 _ _ _ _ _) ⟨wV_X12_octet1, wL_X12_octet1⟩ wM_X12_674 (gCX12 _ _ _ _ _) rfl (A_106 hw) rfl ⟨le_t rfl, le_t rfl⟩ ⟨le_t rfl, le_t rfl⟩ rfl (le_t rfl) fun μ114 T115 F116 h117 => ?_
            obtain ⟨z118, q119, h120⟩ := h117
            have h121 : (0 ≤ z118 ∧ z118 ≤ 300) := by rw [← q119]; exact T115 106 106 (A_106 hw) 104
            have q122 : μ114 106 104 = ((((0 + 1) + 1) + 1) + 1) := q119.trans h120.1
            refine sv_aload_n (pc := 206) dX12_write_206 rfl rfl ?_
            refine mr_bipush (pc := 207) (z := 64) dX12_write_207 (by decide) ?_
            refine mr_cVV (pc := 209) (c_X12_octet1_W hw T115 (rW (c := (-2147483648)) (d := 2147483647) (rR (x := 64)) rfl) q122 vc_X12_write_W_25 ((h120.2.1 T115 F116) z118 q119)) (gOk _ _ _ _ _) dX12_write_209 (tX12_octet1 _ _ _ _ _) ⟨wV_X12_octet1, wL_X12_octet1⟩ wM_X12_674 (gCX12 _ _ _ _ _) rfl (A_106 hw) rfl ⟨le_t rfl, le_t rfl⟩ ⟨le_t rfl, le_t rfl⟩ rfl (le_t rfl) fun μ123 T124 F125 h126 => ?_
            obtain ⟨z127, q128, h129⟩ := h126
            have h130 : (0 ≤ z127 ∧ z127 ≤ 300) := by rw [← q128]; exact T124 106 106 (A_106 hw) 104
            have q131 : μ123 106 104 = (((((0 + 1) + 1) + 1) + 1) + 1) := q128.trans h129.1
            refine sv_aload_n (pc := 212) dX12_write_212 rfl rfl ?_
            refine mr_iconst (pc := 213) (z := 1) dX12_write_213 ?_
            refine mr_cVV (pc := 214) (c_X12_octet1_W hw T124 (rW (c := (-2147483648)) (d := 2147483647) (rR (x := 1)) rfl) q131 vc_X12_write_W_26 ((h129.2.1 T124 F125) z127 q128)) (gOk _ _ _ _ _) dX12_write_214 (tX12_octet1 _ _ _ _ _) ⟨wV_X12_octet1, wL_X12_octet1⟩ wM_X12_674 (gCX12 _ _ _ _ _) rfl (A_106 hw) rfl ⟨le_t rfl, le_t rfl⟩ ⟨le_t rfl, le_t rfl⟩ rfl (le_t rfl) fun μ132 T133 F134 h135 => ?_
            obtain ⟨z136, q137, h138⟩ := h135
            have h139 : (0 ≤ z136 ∧ z136 ≤ 300) := by rw [← q137]; exact T133 106 106 (A_106 hw) 104
            have q140 : μ132 106 104 = ((((((0 + 1) + 1) + 1) + 1) + 1) + 1) := q137.trans h138.1
            refine sv_aload_n (pc := 217) dX12_write_217 rfl rfl ?_
            refine mr_iconst (pc := 218) (z := 1) dX12_write_218 ?_
            refine mr_cVV (pc := 219) (c_X12_octet1_W hw T133 (rW (c := (-2147483648)) (d := 2147483647) (rR (x := 1)) rfl) q140 vc_X12_write_W_27 ((h138.2.1 T133 F134) z136 q137)) (gOk _ _ _ _ _) dX12_write_219 (tX12_octet1 _ _ _ _ _) ⟨wV_X12_octet1, wL_X12_octet1⟩ wM_X12_674 (gCX12 _ _ _ _ _) rfl (A_106 hw) rfl ⟨le_t rfl, le_t rfl⟩ ⟨le_t rfl, le_t rfl⟩ rfl (le_t rfl) fun μ141 T142 F143 h144 => ?_
            obtain ⟨z145, q146, h147⟩ := h144
            have h148 : (0 ≤ z145 ∧ z145 ≤ 300) := by rw [← q146]; exact T142 106 106 (A_106 hw) 104
            have q149 : μ141 106 104 = (((((((0 + 1) + 1) + 1) + 1) + 1) + 1) + 1) := q146.trans h147.1
            refine sv_aload_n (pc := 222) dX12_write_222 rfl rfl ?_
            refine sv_aload_n (pc := 223) dX12_write_223 rfl rfl ?_
            refine gf_X12_32 (pc := 224) dX12_write_224 wF_X12_148 (A_106 hw) T142 ?_
            refine mr_iload (pc := 227) (z := (40 * (530 + z44))) dX12_write_227 rfl ?_
            refine mr_iconst (pc := 229) (z := 2) dX12_write_229 ?_
            refine mr_iadd (pc := 230) (x := (40 * (530 + z44))) (y := 2) dX12_write_230 ?_
            refine la_126 (pc := 231) dX12_write_231 (A_126 hw) T142 (rIx (n := 84000) (rAdd (e := 21202) (f := 37162) (rMulL (n := 40) (e := 21200) (f := 37160) (rAdd (e := 530) (f := 929) (rR (x := 530)) h45 rfl) rfl) (rR (x := 2)) rfl) rfl) fun z150 q151 h152 => ?_
            refine mr_cVV (pc := 232) (c_X12_octet1_W hw T142 h152.1 q149 vc_X12_write_W_28 (((h147.2.1 T142 F143) z145 q146) z150 q151 h152)) (gOk _ _ _ _ _) dX12_write_232 (tX12_octet1 _ _ _ _ _) ⟨wV_X12_octet1, wL_X12_octet1⟩ wM_X12_674 (gCX12 _ _ _ _ _) rfl (A_106 hw) rfl ⟨le_t rfl, le_t rfl⟩ ⟨le_t rfl, le_t rfl⟩ rfl (le_t rfl) fun μ153 T154 F155 h156 => ?_
            obtain ⟨z157, q158, h159⟩ := h156
            have h160 : (0 ≤ z157 ∧ z157 ≤ 300) := by rw [← q158]; exact T154 106 106 (A_106 hw) 104
            have q161 : μ153 106 104 = ((((((((0 + 1) + 1) + 1) + 1) + 1) + 1) + 1) + 1) := q158.trans h159.1
            refine sv_aload_n (pc := 235) dX12_write_235 rfl rfl ?_
            refine mr_bipush (pc := 236) (z := 64) dX12_write_236 (by decide) ?_
            refine mr_cVV (pc := 238) (c_X12_octet1_W hw T154 (rW (c := (-2147483648)) (d := 2147483647) (rR (x := 64)) rfl) q161 vc_X12_write_W_29 ((h159.2.1 T154 F155) z157 q158)) (gOk _ _ _ _ _) dX12_write_238 (tX12_octet1 _ _ _ _ _) ⟨wV_X12_octet1, wL_X12_octet1⟩ wM_X12_674 (gCX12 _ _ _ _ _) rfl (A_106 hw) rfl ⟨le_t rfl, le_t rfl⟩ ⟨le_t rfl, le_t rfl⟩ rfl (le_t rfl) fun μ162 T163 F164 h165 => ?_
            obtain ⟨z166, q167, h168⟩ := h165
            have h169 : (0 ≤ z166 ∧ z166 ≤ 300) := by rw [← q167]; exact T163 106 106 (A_106 hw) 104
            have q170 : μ162 106 104 = (((((((((0 + 1) + 1) + 1) + 1) + 1) + 1) + 1) + 1) + 1) := q167.trans h168.1
            refine sv_aload_n (pc := 241) dX12_write_241 rfl rfl ?_
            refine mr_iconst (pc := 242) (z := 2) dX12_write_242 ?_
            refine mr_cVV (pc := 243) (c_X12_octet1_W hw T163 (rW (c := (-2147483648)) (d := 2147483647) (rR (x := 2)) rfl) q170 vc_X12_write_W_30 ((h168.2.1 T163 F164) z166 q167)) (gOk _ _ _ _ _) dX12_write_243 (tX12_octet1 _ _ _ _ _) ⟨wV_X12_octet1, wL_X12_octet1⟩ wM_X12_674 (gCX12 _ _ _ _ _) rfl (A_106 hw) rfl ⟨le_t rfl, le_t rfl⟩ ⟨le_t rfl, le_t rfl⟩ rfl (le_t rfl) fun μ171 T172 F173 h174 => ?_
            obtain ⟨z175, q176, h177⟩ := h174
            have h178 : (0 ≤ z175 ∧ z175 ≤ 300) := by rw [← q176]; exact T172 106 106 (A_106 hw) 104
            have q179 : μ171 106 104 = ((((((((((0 + 1) + 1) + 1) + 1) + 1) + 1) + 1) + 1) + 1) + 1) := q176.trans h177.1
            refine sv_aload_n (pc := 246) dX12_write_246 rfl rfl ?_
            refine mr_iload (pc := 247) (z := z65) dX12_write_247 rfl ?_
            refine mr_cVV (pc := 249) (c_X12_octet1_W hw T172 (rW (c := (-2147483648)) (d := 2147483647) h66 rfl) q179 vc_X12_write_W_31 ((h177.2.1 T172 F173) z175 q176)) (gOk _ _ _ _ _) dX12_write_249 (tX12_octet1 _ _ _ _ _) ⟨wV_X12_octet1, wL_X12_octet1⟩ wM_X12_674 (gCX12 _ _ _ _ _) rfl (A_106 hw) rfl ⟨le_t rfl, le_t rfl⟩ ⟨le_t rfl, le_t rfl⟩ rfl (le_t rfl) fun μ180 T181 F182 h183 => ?_
            obtain ⟨z184, q185, h186⟩ := h183
            have h187 : (0 ≤ z184 ∧ z184 ≤ 300) := by rw [← q185]; exact T181 106 106 (A_106 hw) 104
            have q188 : μ180 106 104 = (((((((((((0 + 1) + 1) + 1) + 1) + 1) + 1) + 1) + 1) + 1) + 1) + 1) := q185.trans h186.1
            refine mr_iload (pc := 252) (z := z55) dX12_write_252 rfl ?_
            have J250 : ∀ (μ245 : mM), (mT w μ245) → (mF [106104, 174999] w μ180 μ245) → (μ245 106 104 ≤ 100) → ((WJ_X12_write_W_4 w p3 Q z44 z59 z69 μ180) μ245) → sV (gG l D c H0 sa) mX12_write (sRm 3 0 0) (sZ (gG l D c H0 sa) 0 0 (qI w [106104, 174999] μ (fun z μ1 => ((-2147483648) ≤ z ∧ z ≤ 2147483647) ∧ Q z μ1 ∧ True))) 301 [(0, .ref 106), (3, iv p3), (4, iv (40 * (530 + z44))), (6, iv z59)] [] (mk w μ245) 0 0 := by
              intro μ245 T246 F247 h249 W251
              obtain ⟨z252, q253⟩ : ∃ z, μ245 106 104 = z := ⟨_, rfl⟩
              have h254 : (0 ≤ z252 ∧ z252 ≤ 300) := by rw [← q253]; exact T246 106 106 (A_106 hw) 104
              have h255 : z252 ≤ 100 := q253 ▸ h249
              have h256 : 0 ≤ z252 ∧ z252 ≤ 100 := (vc_X12_write_W_32 h255 h254)
              refine sv_aload_n (pc := 301) dX12_write_301 rfl rfl ?_
              refine gf_X12_32 (pc := 302) dX12_write_302 wF_X12_148 (A_106 hw) T246 ?_
              refine mr_iload (pc := 305) (z := (40 * (530 + z44))) dX12_write_305 rfl ?_
              refine mr_iconst (pc := 307) (z := 3) dX12_write_307 ?_
              refine mr_iadd (pc := 308) (x := (40 * (530 + z44))) (y := 3) dX12_write_308 ?_
              refine lk_126 (pc := 309) dX12_write_309 (A_126 hw) (rIx (n := 84000) (rAdd (e := 21203) (f := 37163) (rMulL (n := 40) (e := 21200) (f := 37160) (rAdd (e := 530) (f := 929) (rR (x := 530)) h45 rfl) rfl) (rR (x := 3)) rfl) rfl) (F247.f (A_126 hw) rfl (F182.f (A_126 hw) rfl (F173.f (A_126 hw) rfl (F164.f (A_126 hw) rfl (F155.f (A_126 hw) rfl (F143.f (A_126 hw) rfl (F134.f (A_126 hw) rfl (F125.f (A_126 hw) rfl (F116.f (A_126 hw) rfl (F107.f (A_126 hw) rfl (F95.f (A_126 hw) rfl (F86.f (A_126 hw) rfl q70)))))))))))) ?_
              have J300 : ∀ (μ295 : mM), (mT w μ295) → (mF [106104, 174999] w μ245 μ295) → (μ295 106 104 ≤ 107) → ((WJ_X12_write_W_5 w p3 Q z44 z59 μ245) μ295) → sV (gG l D c H0 sa) mX12_write (sRm 3 0 0) (sZ (gG l D c H0 sa) 0 0 (qI w [106104, 174999] μ (fun z μ1 => ((-2147483648) ≤ z ∧ z ≤ 2147483647) ∧ Q z μ1 ∧ True))) 343 [(0, .ref 106), (3, iv p3), (4, iv (40 * (530 + z44))), (6, iv z59)] [] (mk w μ295) 0 0 := by
                intro μ295 T296 F297 h299 W301
                obtain ⟨z302, q303⟩ : ∃ z, μ295 106 104 = z := ⟨_, rfl⟩
                have h304 : (0 ≤ z302 ∧ z302 ≤ 300) := by rw [← q303]; exact T296 106 106 (A_106 hw) 104
                have h305 : z302 ≤ 107 := q303 ▸ h299
                have h306 : 0 ≤ z302 ∧ z302 ≤ 107 := (vc_X12_write_W_33 h305 h304)
                refine mr_iload (pc := 343) (z := z59) dX12_write_343 rfl ?_
                refine mr_if_le (pc := 345) (tgt := 402) dX12_write_345 (by decide) (r32 h62 rfl) (fun h372 => ?_) (fun h372 => ?_)
                · have h373 : 0 ≤ z59 ∧ z59 ≤ 0 := (vc_X3_putAttributes_W_7 h372 h62)
                  refine sv_aload_n (pc := 402) dX12_write_402 rfl rfl ?_
                  refine mr_iload_n (pc := 403) (z := p3) dX12_write_403 rfl rfl ?_
                  refine mr_cVV (pc := 404) (c_X12_prefixOut_W hw T296 h38 q303 (vc_X12_write_W_35 h305 h306) (((W301 T296 F297) z302 q303 h304).1 h372)) (gOk _ _ _ _ _) dX12_write_404 (tX12_prefixOut _ _ _ _ _) ⟨wV_X12_prefixOut, wL_X12_prefixOut⟩ wM_X12_677 (gCX12 _ _ _ _ _) rfl (A_106 hw) rfl ⟨le_t rfl, le_t rfl⟩ ⟨le_t rfl, le_t rfl⟩ rfl (le_t rfl) fun μ374 T375 F376 h377 => ?_
                  obtain ⟨z378, q379, h380⟩ := h377
                  have h381 : (0 ≤ z378 ∧ z378 ≤ 300) := by rw [← q379]; exact T375 106 106 (A_106 hw) 104
                  refine sv_aload_n (pc := 407) dX12_write_407 rfl rfl ?_
                  refine gk_X12_104 (pc := 408) dX12_write_408 wF_X12_671 (A_106 hw) q379 ?_
                  exact mr_iret dX12_write_411 rfl (le_t rfl) (le_t rfl) T375 (mF.call (mF.call (mF.call (mF.call (mF.call (mF.call (mF.call (mF.call (mF.call (mF.call (mF.call (mF.call (mF.call (mF.call (mF.up mF.refl (A_106 hw) u47 rfl) F86 rfl) F95 rfl) F107 rfl) F116 rfl) F125 rfl) F134 rfl) F143 rfl) F155 rfl) F164 rfl) F173 rfl) F182 rfl) F247 rfl) F297 rfl) F376 rfl) ⟨(rW (c := (-2147483648)) (d := 2147483647) h381 rfl), ((h380.2.1 T375 F376) z378 q379), trivial⟩
                have h382 : 1 ≤ z59 ∧ z59 ≤ 8 := (vc_X3_putAttributes_W_8 h372 h62)
                refine sv_aload_n (pc := 348) dX12_write_348 rfl rfl ?_
                refine mr_sipush (pc := 349) (z := 192) dX12_write_349 (by decide) ?_
                refine mr_cVV (pc := 352) (c_X12_octet1_W hw T296 (rW (c := (-2147483648)) (d := 2147483647) (rR (x := 192)) rfl) q303 (vc_X12_write_W_37 h305 h306) (((W301 T296 F297) z302 q303 h304).2 h372)) (gOk _ _ _ _ _) dX12_write_352 (tX12_octet1 _ _ _ _ _) ⟨wV_X12_octet1, wL_X12_octet1⟩ wM_X12_674 (gCX12 _ _ _ _ _) rfl (A_106 hw) rfl ⟨le_t rfl, le_t rfl⟩ ⟨le_t rfl, le_t rfl⟩ rfl (le_t rfl) fun μ383 T384 F385 h386 => ?_
                obtain ⟨z387, q388, h389⟩ := h386
                have h390 : (0 ≤ z387 ∧ z387 ≤ 300) := by rw [← q388]; exact T384 106 106 (A_106 hw) 104
                have q391 : μ383 106 104 = (z302 + 1) := q388.trans h389.1
                refine sv_aload_n (pc := 355) dX12_write_355 rfl rfl ?_
                refine mr_bipush (pc := 356) (z := 8) dX12_write_356 (by decide) ?_
                refine mr_cVV (pc := 358) (c_X12_octet1_W hw T384 (rW (c := (-2147483648)) (d := 2147483647) (rR (x := 8)) rfl) q391 (vc_X12_write_W_38 h305 h389.1 h306 h390) ((h389.2.1 T384 F385) z387 q388)) (gOk _ _ _ _ _) dX12_write_358 (tX12_octet1 _ _ _ _ _) ⟨wV_X12_octet1, wL_X12_octet1⟩ wM_X12_674 (gCX12 _ _ _ _ _) rfl (A_106 hw) rfl ⟨le_t rfl, le_t rfl⟩ ⟨le_t rfl, le_t rfl⟩ rfl (le_t rfl) fun μ392 T393 F394 h395 => ?_
                obtain ⟨z396, q397, h398⟩ := h395
                have h399 : (0 ≤ z396 ∧ z396 ≤ 300) := by rw [← q397]; exact T393 106 106 (A_106 hw) 104
                have q400 : μ392 106 104 = ((z302 + 1) + 1) := q397.trans h398.1
                refine sv_aload_n (pc := 361) dX12_write_361 rfl rfl ?_
                refine mr_iconst (pc := 362) (z := 4) dX12_write_362 ?_
                refine mr_iload (pc := 363) (z := z59) dX12_write_363 rfl ?_
                refine mr_imul (pc := 365) (x := 4) (y := z59) dX12_write_365 ?_
                refine mr_cVV (pc := 366) (c_X12_octet1_W hw T393 (rW (c := (-2147483648)) (d := 2147483647) (rMulL (n := 4) (e := 4) (f := 32) h382 rfl) rfl) q400 (vc_X12_write_W_39 h305 h389.1 h398.1 h306 h390 h399) ((h398.2.1 T393 F394) z396 q397)) (gOk _ _ _ _ _) dX12_write_366 (tX12_octet1 _ _ _ _ _) ⟨wV_X12_octet1, wL_X12_octet1⟩ wM_X12_674 (gCX12 _ _ _ _ _) rfl (A_106 hw) rfl ⟨le_t rfl, le_t rfl⟩ ⟨le_t rfl, le_t rfl⟩ rfl (le_t rfl) fun μ401 T402 F403 h404 => ?_
                obtain ⟨z405, q406, h407⟩ := h404
                have h408 : (0 ≤ z405 ∧ z405 ≤ 300) := by rw [← q406]; exact T402 106 106 (A_106 hw) 104
                have q409 : μ401 106 104 = (((z302 + 1) + 1) + 1) := q406.trans h407.1
                refine mr_iconst (pc := 369) (z := 0) dX12_write_369 ?_
                refine mr_istore (pc := 370) (lv' := [(9, iv 0), (0, .ref 106), (3, iv p3), (4, iv (40 * (530 + z44))), (6, iv z59)]) dX12_write_370 (by decide) rfl ?_
                have L662 : ∀ (nL662 : Nat) (z660 : Int) (μ661 : mM) (f_w : Int), mT w μ661 → mF [106104, 174999] w μ401 μ661 → μ661 106 (104) = f_w → (0 ≤ z660 ∧ z660 ≤ 8) → (f_w ≤ 120 + 4 * z660) → (9 - z660) < (nL662 : Int) → loopF (WL_X12_write_W_6 w p3 Q z44 z59 μ401) False nL662 (z660, μ661) → sV (gG l D c H0 sa) mX12_write (sRm 3 0 0) (sZ (gG l D c H0 sa) 0 0 (qI w [106104, 174999] μ (fun z μ1 => ((-2147483648) ≤ z ∧ z ≤ 2147483647) ∧ Q z μ1 ∧ True))) 372 [(0, .ref 106), (3, iv p3), (4, iv (40 * (530 + z44))), (6, iv z59), (9, iv z660)] [] (mk w μ661) 0 0 := by
                  intro nL662
                  induction nL662 with
                  | zero => intro z660 μ661 f_w T664 F665 q670 h663 h667 h668 W669; exact ((vc_X12_write_W_40 h668 h667 h663)).elim
                  | succ nL662 ih671 =>
                    intro z660 μ661 f_w T664 F665 q670 h663 h667 h668 W669
                    have h672 : (0 ≤ f_w ∧ f_w ≤ 300) := by rw [← q670]; exact T664 106 106 (A_106 hw) (104)
                    refine mr_iload (pc := 372) (z := z660) dX12_write_372 rfl ?_
                    refine mr_iload (pc := 374) (z := z59) dX12_write_374 rfl ?_
                    refine mr_icmp_ge (pc := 376) (tgt := 402) dX12_write_376 (by decide) (r32 h663 rfl) (r32 h382 rfl) (fun h687 => ?_) (fun h687 => ?_)
                    · have h688 : 1 ≤ z660 ∧ z660 ≤ 8 := (vc_X12_write_W_41 h687 h372 h667 h672 h382 h663)
                      refine sv_aload_n (pc := 402) dX12_write_402 rfl rfl ?_
                      refine mr_iload_n (pc := 403) (z := p3) dX12_write_403 rfl rfl ?_
                      refine mr_cVV (pc := 404) (c_X12_prefixOut_W hw T664 h38 q670 (vc_X12_write_W_42 h667 h687 h672 h382 h688) (((W669 z660 μ661 rfl h663 T664 F665) f_w q670 h672).1 h687)) (gOk _ _ _ _ _) dX12_write_404 (tX12_prefixOut _ _ _ _ _) ⟨wV_X12_prefixOut, wL_X12_prefixOut⟩ wM_X12_677 (gCX12 _ _ _ _ _) rfl (A_106 hw) rfl ⟨le_t rfl, le_t rfl⟩ ⟨le_t rfl, le_t rfl⟩ rfl (le_t rfl) fun μ689 T690 F691 h692 => ?_
                      obtain ⟨z693, q694, h695⟩ := h692
                      have h696 : (0 ≤ z693 ∧ z693 ≤ 300) := by rw [← q694]; exact T690 106 106 (A_106 hw) 104
                      refine sv_aload_n (pc := 407) dX12_write_407 rfl rfl ?_
                      refine gk_X12_104 (pc := 408) dX12_write_408 wF_X12_671 (A_106 hw) q694 ?_
                      exact mr_iret dX12_write_411 rfl (le_t rfl) (le_t rfl) T690 (mF.call (mF.call (mF.call (mF.call (mF.call (mF.call (mF.call (mF.call (mF.call (mF.call (mF.call (mF.call (mF.call (mF.call (mF.call (mF.call (mF.call (mF.call (mF.up mF.refl (A_106 hw) u47 rfl) F86 rfl) F95 rfl) F107 rfl) F116 rfl) F125 rfl) F134 rfl) F143 rfl) F155 rfl) F164 rfl) F173 rfl) F182 rfl) F247 rfl) F297 rfl) F385 rfl) F394 rfl) F403 rfl) F665 rfl) F691 rfl) ⟨(rW (c := (-2147483648)) (d := 2147483647) h696 rfl), ((h695.2.1 T690 F691) z693 q694), trivial⟩
                    have h697 : 0 ≤ z660 ∧ z660 ≤ 7 := (vc_X12_write_W_43 h687 h372 h667 h672 h382 h663)
                    refine sv_aload_n (pc := 379) dX12_write_379 rfl rfl ?_
                    refine sv_aload_n (pc := 380) dX12_write_380 rfl rfl ?_
                    refine gf_X12_32 (pc := 381) dX12_write_381 wF_X12_148 (A_106 hw) T664 ?_
                    refine mr_iload (pc := 384) (z := (40 * (530 + z44))) dX12_write_384 rfl ?_
                    refine mr_bipush (pc := 386) (z := 26) dX12_write_386 (by decide) ?_
                    refine mr_iadd (pc := 388) (x := (40 * (530 + z44))) (y := 26) dX12_write_388 ?_
                    refine mr_iload (pc := 389) (z := z660) dX12_write_389 rfl ?_
                    refine mr_iadd (pc := 391) (x := ((40 * (530 + z44)) + 26)) (y := z660) dX12_write_391 ?_
                    refine la_126 (pc := 392) dX12_write_392 (A_126 hw) T664 (rIx (n := 84000) (rAdd (e := 21226) (f := 37193) (rAdd (e := 21226) (f := 37186) (rMulL (n := 40) (e := 21200) (f := 37160) (rAdd (e := 530) (f := 929) (rR (x := 530)) h45 rfl) rfl) (rR (x := 26)) rfl) h697 rfl) rfl) fun z698 q699 h700 => ?_
                    refine mr_cVV (pc := 393) (c_X12_octet4_W hw T664 h700.1 q670 (vc_X12_write_W_44 h667 h687 h700.2.1 h700.2.2.1 h700.2.2.2 h672 h45 h382 h697 h700.1) ((((W669 z660 μ661 rfl h663 T664 F665) f_w q670 h672).2 h687) z698 q699 h700)) (gOk _ _ _ _ _) dX12_write_393 (tX12_octet4 _ _ _ _ _) ⟨wV_X12_octet4, wL_X12_octet4⟩ wM_X12_680 (gCX12 _ _ _ _ _) rfl (A_106 hw) rfl ⟨le_t rfl, le_t rfl⟩ ⟨le_t rfl, le_t rfl⟩ rfl (le_t rfl) fun μ701 T702 F703 h704 => ?_
                    obtain ⟨z705, q706, h707⟩ := h704
                    have h708 : (0 ≤ z705 ∧ z705 ≤ 300) := by rw [← q706]; exact T702 106 106 (A_106 hw) 104
                    have q709 : μ701 106 104 = (f_w + 4) := q706.trans h707.1
                    refine mr_iinc (pc := 396) (lv' := [(9, iv (z660 + 1)), (0, .ref 106), (3, iv p3), (4, iv (40 * (530 + z44))), (6, iv z59)]) dX12_write_396 rfl (by decide) rfl ?_
                    refine sv_goto (pc := 399) (tgt := 372) dX12_write_399 (by decide) ?_
                    refine mr_lvS (lv' := [(0, .ref 106), (3, iv p3), (4, iv (40 * (530 + z44))), (6, iv z59), (9, iv (z660 + 1))]) (List.forall_mem_cons.mpr ⟨rfl, List.forall_mem_cons.mpr ⟨rfl, List.forall_mem_cons.mpr ⟨rfl, List.forall_mem_cons.mpr ⟨rfl, List.forall_mem_cons.mpr ⟨rfl, fun _ h => absurd h List.not_mem_nil⟩⟩⟩⟩⟩) ?_
                    exact ih671 (z660 + 1) μ701 (f_w + 4) T702 (mF.call (mF.call mF.refl F665 rfl) F703 rfl) q709 (rW (c := 0) (d := 8) (rAdd (e := 1) (f := 8) h697 (rR (x := 1)) rfl) rfl) (vc_X12_write_W_45 h667 h687 h700.2.1 h700.2.2.1 h700.2.2.2 h707.1 h43.2.1 h372 h672 h14 h26 h38 h45 h382 h697 h700.1 h708) (vc_X12_write_W_46 (nS h668) h667 h687 h700.2.1 h700.2.2.1 h700.2.2.2 h43.2.1 h372 h707.1 h672 h14 h26 h38 h45 h382 h697 h700.1 h708) ((h707.2.1 T702 F703) z705 q706)
                refine mr_lvS (lv' := [(0, .ref 106), (3, iv p3), (4, iv (40 * (530 + z44))), (6, iv z59), (9, iv 0)]) (List.forall_mem_cons.mpr ⟨rfl, List.forall_mem_cons.mpr ⟨rfl, List.forall_mem_cons.mpr ⟨rfl, List.forall_mem_cons.mpr ⟨rfl, List.forall_mem_cons.mpr ⟨rfl, fun _ h => absurd h List.not_mem_nil⟩⟩⟩⟩⟩) ?_
                exact L662 10 0 μ401 (((z302 + 1) + 1) + 1) T402 mF.refl q409 (rW (c := 0) (d := 8) (rR (x := 0)) rfl) (vc_X12_write_W_47 h305 h389.1 h398.1 h407.1 h306 h390 h399 h408) vc_X12_marked_10 ((h407.2.1 T402 F403) z405 q406)
              refine mr_if_le (pc := 310) (tgt := 343) dX12_write_310 (by decide) h71.1 (fun h710 => ?_) (fun h710 => ?_)
              · have h711 : (-2147483648) ≤ z69 ∧ z69 ≤ 0 := (vc_X12_write_W_49 h710 h71.1)
                exact J300 μ245 T246 mF.refl (by rw [q253]; exact (vc_X12_write_W_50 h255 h256)) (((W251 T246 F247) z252 q253 h254).1 h710)
              have h712 : 1 ≤ z69 ∧ z69 ≤ 2147483647 := (vc_X12_write_W_51 h710 h71.1)
              refine sv_aload_n (pc := 313) dX12_write_313 rfl rfl ?_
              refine mr_sipush (pc := 314) (z := 128) dX12_write_314 (by decide) ?_
              refine mr_cVV (pc := 317) (c_X12_octet1_W hw T246 (rW (c := (-2147483648)) (d := 2147483647) (rR (x := 128)) rfl) q253 (vc_X12_write_W_52 h255 h256) (((W251 T246 F247) z252 q253 h254).2 h710)) (gOk _ _ _ _ _) dX12_write_317 (tX12_octet1 _ _ _ _ _) ⟨wV_X12_octet1, wL_X12_octet1⟩ wM_X12_674 (gCX12 _ _ _ _ _) rfl (A_106 hw) rfl ⟨le_t rfl, le_t rfl⟩ ⟨le_t rfl, le_t rfl⟩ rfl (le_t rfl) fun μ713 T714 F715 h716 => ?_
              obtain ⟨z717, q718, h719⟩ := h716
              have h720 : (0 ≤ z717 ∧ z717 ≤ 300) := by rw [← q718]; exact T714 106 106 (A_106 hw) 104
              have q721 : μ713 106 104 = (z252 + 1) := q718.trans h719.1
              refine sv_aload_n (pc := 320) dX12_write_320 rfl rfl ?_
              refine mr_iconst (pc := 321) (z := 4) dX12_write_321 ?_
              refine mr_cVV (pc := 322) (c_X12_octet1_W hw T714 (rW (c := (-2147483648)) (d := 2147483647) (rR (x := 4)) rfl) q721 (vc_X12_write_W_53 h255 h719.1 h256 h720) ((h719.2.1 T714 F715) z717 q718)) (gOk _ _ _ _ _) dX12_write_322 (tX12_octet1 _ _ _ _ _) ⟨wV_X12_octet1, wL_X12_octet1⟩ wM_X12_674 (gCX12 _ _ _ _ _) rfl (A_106 hw) rfl ⟨le_t rfl, le_t rfl⟩ ⟨le_t rfl, le_t rfl⟩ rfl (le_t rfl) fun μ722 T723 F724 h725 => ?_
              obtain ⟨z726, q727, h728⟩ := h725
              have h729 : (0 ≤ z726 ∧ z726 ≤ 300) := by rw [← q727]; exact T723 106 106 (A_106 hw) 104
              have q730 : μ722 106 104 = ((z252 + 1) + 1) := q727.trans h728.1
              refine sv_aload_n (pc := 325) dX12_write_325 rfl rfl ?_
              refine mr_iconst (pc := 326) (z := 4) dX12_write_326 ?_
              refine mr_cVV (pc := 327) (c_X12_octet1_W hw T723 (rW (c := (-2147483648)) (d := 2147483647) (rR (x := 4)) rfl) q730 (vc_X12_write_W_54 h255 h719.1 h728.1 h256 h720 h729) ((h728.2.1 T723 F724) z726 q727)) (gOk _ _ _ _ _) dX12_write_327 (tX12_octet1 _ _ _ _ _) ⟨wV_X12_octet1, wL_X12_octet1⟩ wM_X12_674 (gCX12 _ _ _ _ _) rfl (A_106 hw) rfl ⟨le_t rfl, le_t rfl⟩ ⟨le_t rfl, le_t rfl⟩ rfl (le_t rfl) fun μ731 T732 F733 h734 => ?_
              obtain ⟨z735, q736, h737⟩ := h734
              have h738 : (0 ≤ z735 ∧ z735 ≤ 300) := by rw [← q736]; exact T732 106 106 (A_106 hw) 104
              have q739 : μ731 106 104 = (((z252 + 1) + 1) + 1) := q736.trans h737.1
              refine sv_aload_n (pc := 330) dX12_write_330 rfl rfl ?_
              refine sv_aload_n (pc := 331) dX12_write_331 rfl rfl ?_
              refine gf_X12_32 (pc := 332) dX12_write_332 wF_X12_148 (A_106 hw) T732 ?_
              refine mr_iload (pc := 335) (z := (40 * (530 + z44))) dX12_write_335 rfl ?_
              refine mr_iconst (pc := 337) (z := 3) dX12_write_337 ?_
              refine mr_iadd (pc := 338) (x := (40 * (530 + z44))) (y := 3) dX12_write_338 ?_
              refine lk_126 (pc := 339) dX12_write_339 (A_126 hw) (rIx (n := 84000) (rAdd (e := 21203) (f := 37163) (rMulL (n := 40) (e := 21200) (f := 37160) (rAdd (e := 530) (f := 929) (rR (x := 530)) h45 rfl) rfl) (rR (x := 3)) rfl) rfl) (F733.f (A_126 hw) rfl (F724.f (A_126 hw) rfl (F715.f (A_126 hw) rfl (F247.f (A_126 hw) rfl (F182.f (A_126 hw) rfl (F173.f (A_126 hw) rfl (F164.f (A_126 hw) rfl (F155.f (A_126 hw) rfl (F143.f (A_126 hw) rfl (F134.f (A_126 hw) rfl (F125.f (A_126 hw) rfl (F116.f (A_126 hw) rfl (F107.f (A_126 hw) rfl (F95.f (A_126 hw) rfl (F86.f (A_126 hw) rfl q70))))))))))))))) ?_
              refine mr_cVV (pc := 340) (c_X12_octet4_W hw T732 (rW (c := (-2147483648)) (d := 2147483647) h712 rfl) q739 (vc_X12_write_W_55 h255 h719.1 h728.1 h737.1 h256 h720 h729 h738) ((h737.2.1 T732 F733) z735 q736)) (gOk _ _ _ _ _) dX12_write_340 (tX12_octet4 _ _ _ _ _) ⟨wV_X12_octet4, wL_X12_octet4⟩ wM_X12_680 (gCX12 _ _ _ _ _) rfl (A_106 hw) rfl ⟨le_t rfl, le_t rfl⟩ ⟨le_t rfl, le_t rfl⟩ rfl (le_t rfl) fun μ740 T741 F742 h743 => ?_
              obtain ⟨z744, q745, h746⟩ := h743
              have h747 : (0 ≤ z744 ∧ z744 ≤ 300) := by rw [← q745]; exact T741 106 106 (A_106 hw) 104
              have q748 : μ740 106 104 = ((((z252 + 1) + 1) + 1) + 4) := q745.trans h746.1
              exact J300 μ740 T741 (mF.call (mF.call (mF.call (mF.call mF.refl F715 rfl) F724 rfl) F733 rfl) F742 rfl) (by rw [q748]; exact (vc_X12_write_W_56 h255 h719.1 h728.1 h737.1 h746.1 h256 h720 h729 h738 h747)) ((h746.2.1 T741 F742) z744 q745)
            refine mr_if_le (pc := 254) (tgt := 301) dX12_write_254 (by decide) (r32 h58 rfl) (fun h749 => ?_) (fun h749 => ?_)
            · have h750 : 0 ≤ z55 ∧ z55 ≤ 0 := (vc_X12_through_83 h749 h58)
              refine mr_lvS (lv' := [(0, .ref 106), (3, iv p3), (4, iv (40 * (530 + z44))), (6, iv z59)]) (List.forall_mem_cons.mpr ⟨rfl, List.forall_mem_cons.mpr ⟨rfl, List.forall_mem_cons.mpr ⟨rfl, List.forall_mem_cons.mpr ⟨rfl, fun _ h => absurd h List.not_mem_nil⟩⟩⟩⟩) ?_
              exact J250 μ180 T181 mF.refl (by rw [q188]; exact vc_X12_write_W_58) (((h186.2.1 T181 F182) z184 q185).1 h749)
            have h751 : 1 ≤ z55 ∧ z55 ≤ 20 := (vc_X12_through_85 h749 h58)
            refine sv_aload_n (pc := 257) dX12_write_257 rfl rfl ?_
            refine mr_iconst (pc := 258) (z := 2) dX12_write_258 ?_
            refine mr_cVV (pc := 259) (c_X12_octet1_W hw T181 (rW (c := (-2147483648)) (d := 2147483647) (rR (x := 2)) rfl) q188 vc_X12_write_W_60 (((h186.2.1 T181 F182) z184 q185).2 h749)) (gOk _ _ _ _ _) dX12_write_259 (tX12_octet1 _ _ _ _ _) ⟨wV_X12_octet1, wL_X12_octet1⟩ wM_X12_674 (gCX12 _ _ _ _ _) rfl (A_106 hw) rfl ⟨le_t rfl, le_t rfl⟩ ⟨le_t rfl, le_t rfl⟩ rfl (le_t rfl) fun μ752 T753 F754 h755 => ?_
            obtain ⟨z756, q757, h758⟩ := h755
            have h759 : (0 ≤ z756 ∧ z756 ≤ 300) := by rw [← q757]; exact T753 106 106 (A_106 hw) 104
            have q760 : μ752 106 104 = ((((((((((((0 + 1) + 1) + 1) + 1) + 1) + 1) + 1) + 1) + 1) + 1) + 1) + 1) := q757.trans h758.1
            refine sv_aload_n (pc := 262) dX12_write_262 rfl rfl ?_
            refine mr_iload (pc := 263) (z := z55) dX12_write_263 rfl ?_
            refine mr_cVV (pc := 265) (c_X12_octet1_W hw T753 (rW (c := (-2147483648)) (d := 2147483647) h751 rfl) q760 vc_X12_write_W_61 ((h758.2.1 T753 F754) z756 q757)) (gOk _ _ _ _ _) dX12_write_265 (tX12_octet1 _ _ _ _ _) ⟨wV_X12_octet1, wL_X12_octet1⟩ wM_X12_674 (gCX12 _ _ _ _ _) rfl (A_106 hw) rfl ⟨le_t rfl, le_t rfl⟩ ⟨le_t rfl, le_t rfl⟩ rfl (le_t rfl) fun μ761 T762 F763 h764 => ?_
            obtain ⟨z765, q766, h767⟩ := h764
            have h768 : (0 ≤ z765 ∧ z765 ≤ 300) := by rw [← q766]; exact T762 106 106 (A_106 hw) 104
            have q769 : μ761 106 104 = (((((((((((((0 + 1) + 1) + 1) + 1) + 1) + 1) + 1) + 1) + 1) + 1) + 1) + 1) + 1) := q766.trans h767.1
            refine mr_iconst (pc := 268) (z := 0) dX12_write_268 ?_
            refine mr_istore (pc := 269) (lv' := [(9, iv 0), (8, iv (((7 + z65) + z74) + z80)), (0, .ref 106), (3, iv p3), (4, iv (40 * (530 + z44))), (5, iv z55), (6, iv z59), (7, iv z65)]) dX12_write_269 (by decide) rfl ?_
            have L1022 : ∀ (nL1022 : Nat) (z1020 : Int) (μ1021 : mM) (f_w : Int), mT w μ1021 → mF [106104, 174999] w μ761 μ1021 → μ1021 106 (104) = f_w → (0 ≤ z1020 ∧ z1020 ≤ 20) → (f_w ≤ 20 + 4 * z1020) → (21 - z1020) < (nL1022 : Int) → loopF (WL_X12_write_W_7 w p3 Q z44 z55 z59 z69 μ180 μ761) False nL1022 (z1020, μ1021) → sV (gG l D c H0 sa) mX12_write (sRm 3 0 0) (sZ (gG l D c H0 sa) 0 0 (qI w [106104, 174999] μ (fun z μ1 => ((-2147483648) ≤ z ∧ z ≤ 2147483647) ∧ Q z μ1 ∧ True))) 271 [(0, .ref 106), (3, iv p3), (4, iv (40 * (530 + z44))), (5, iv z55), (6, iv z59), (9, iv z1020)] [] (mk w μ1021) 0 0 := by
              intro nL1022
              induction nL1022 with
              | zero => intro z1020 μ1021 f_w T1024 F1025 q1030 h1023 h1027 h1028 W1029; exact ((vc_X12_write_W_62 h1028 h1027 h1023)).elim
              | succ nL1022 ih1031 =>
                intro z1020 μ1021 f_w T1024 F1025 q1030 h1023 h1027 h1028 W1029
                have h1032 : (0 ≤ f_w ∧ f_w ≤ 300) := by rw [← q1030]; exact T1024 106 106 (A_106 hw) (104)
                refine mr_iload (pc := 271) (z := z1020) dX12_write_271 rfl ?_
                refine mr_iload (pc := 273) (z := z55) dX12_write_273 rfl ?_
                refine mr_icmp_ge (pc := 275) (tgt := 301) dX12_write_275 (by decide) (r32 h1023 rfl) (r32 h751 rfl) (fun h1033 => ?_) (fun h1033 => ?_)
                · have h1034 : 1 ≤ z1020 ∧ z1020 ≤ 20 := (vc_X12_write_W_63 h1033 h749 h1027 h1032 h1023 h751)
                  refine mr_lvS (lv' := [(0, .ref 106), (3, iv p3), (4, iv (40 * (530 + z44))), (6, iv z59)]) (List.forall_mem_cons.mpr ⟨rfl, List.forall_mem_cons.mpr ⟨rfl, List.forall_mem_cons.mpr ⟨rfl, List.forall_mem_cons.mpr ⟨rfl, fun _ h => absurd h List.not_mem_nil⟩⟩⟩⟩) ?_
                  exact J250 μ1021 T1024 (mF.call (mF.call (mF.call mF.refl F754 rfl) F763 rfl) F1025 rfl) (by rw [q1030]; exact (vc_X12_write_W_64 h1027 h1033 h1032 h1034 h751)) (((W1029 z1020 μ1021 rfl h1023 T1024 F1025) f_w q1030 h1032).1 h1033)
                have h1035 : 0 ≤ z1020 ∧ z1020 ≤ 19 := (vc_X12_write_W_65 h1033 h749 h1027 h1032 h1023 h751)
                refine sv_aload_n (pc := 278) dX12_write_278 rfl rfl ?_
                refine sv_aload_n (pc := 279) dX12_write_279 rfl rfl ?_
                refine gf_X12_32 (pc := 280) dX12_write_280 wF_X12_148 (A_106 hw) T1024 ?_
                refine mr_iload (pc := 283) (z := (40 * (530 + z44))) dX12_write_283 rfl ?_
                refine mr_bipush (pc := 285) (z := 6) dX12_write_285 (by decide) ?_
                refine mr_iadd (pc := 287) (x := (40 * (530 + z44))) (y := 6) dX12_write_287 ?_
                refine mr_iload (pc := 288) (z := z1020) dX12_write_288 rfl ?_
                refine mr_iadd (pc := 290) (x := ((40 * (530 + z44)) + 6)) (y := z1020) dX12_write_290 ?_
                refine la_126 (pc := 291) dX12_write_291 (A_126 hw) T1024 (rIx (n := 84000) (rAdd (e := 21206) (f := 37185) (rAdd (e := 21206) (f := 37166) (rMulL (n := 40) (e := 21200) (f := 37160) (rAdd (e := 530) (f := 929) (rR (x := 530)) h45 rfl) rfl) (rR (x := 6)) rfl) h1035 rfl) rfl) fun z1036 q1037 h1038 => ?_
                refine mr_cVV (pc := 292) (c_X12_octet4_W hw T1024 h1038.1 q1030 (vc_X12_write_W_66 h1027 h1033 h1038.2.1 h1038.2.2.1 h1038.2.2.2 h1032 h1035 h1038.1 h45 h751) ((((W1029 z1020 μ1021 rfl h1023 T1024 F1025) f_w q1030 h1032).2 h1033) z1036 q1037 h1038)) (gOk _ _ _ _ _) dX12_write_292 (tX12_octet4 _ _ _ _ _) ⟨wV_X12_octet4, wL_X12_octet4⟩ wM_X12_680 (gCX12 _ _ _ _ _) rfl (A_106 hw) rfl ⟨le_t rfl, le_t rfl⟩ ⟨le_t rfl, le_t rfl⟩ rfl (le_t rfl) fun μ1039 T1040 F1041 h1042 => ?_
                obtain ⟨z1043, q1044, h1045⟩ := h1042
                have h1046 : (0 ≤ z1043 ∧ z1043 ≤ 300) := by rw [← q1044]; exact T1040 106 106 (A_106 hw) 104
                have q1047 : μ1039 106 104 = (f_w + 4) := q1044.trans h1045.1
                refine mr_iinc (pc := 295) (lv' := [(9, iv (z1020 + 1)), (0, .ref 106), (3, iv p3), (4, iv (40 * (530 + z44))), (5, iv z55), (6, iv z59)]) dX12_write_295 rfl (by decide) rfl ?_
                refine sv_goto (pc := 298) (tgt := 271) dX12_write_298 (by decide) ?_
                refine mr_lvS (lv' := [(0, .ref 106), (3, iv p3), (4, iv (40 * (530 + z44))), (5, iv z55), (6, iv z59), (9, iv (z1020 + 1))]) (List.forall_mem_cons.mpr ⟨rfl, List.forall_mem_cons.mpr ⟨rfl, List.forall_mem_cons.mpr ⟨rfl, List.forall_mem_cons.mpr ⟨rfl, List.forall_mem_cons.mpr ⟨rfl, List.forall_mem_cons.mpr ⟨rfl, fun _ h => absurd h List.not_mem_nil⟩⟩⟩⟩⟩⟩) ?_
                exact ih1031 (z1020 + 1) μ1039 (f_w + 4) T1040 (mF.call (mF.call mF.refl F1025 rfl) F1041 rfl) q1047 (rW (c := 0) (d := 20) (rAdd (e := 1) (f := 20) h1035 (rR (x := 1)) rfl) rfl) (vc_X12_write_W_67 h1027 h1033 h1038.2.1 h1038.2.2.1 h1038.2.2.2 h1045.1 h43.2.1 h749 h1032 h14 h26 h38 h1035 h1038.1 h1046 h45 h751) (vc_X12_write_W_68 (nS h1028) h1027 h1033 h1038.2.1 h1038.2.2.1 h1038.2.2.2 h43.2.1 h749 h1045.1 h1032 h14 h26 h38 h1035 h1038.1 h1046 h45 h751) ((h1045.2.1 T1040 F1041) z1043 q1044)
            refine mr_lvS (lv' := [(0, .ref 106), (3, iv p3), (4, iv (40 * (530 + z44))), (5, iv z55), (6, iv z59), (9, iv 0)]) (List.forall_mem_cons.mpr ⟨rfl, List.forall_mem_cons.mpr ⟨rfl, List.forall_mem_cons.mpr ⟨rfl, List.forall_mem_cons.mpr ⟨rfl, List.forall_mem_cons.mpr ⟨rfl, List.forall_mem_cons.mpr ⟨rfl, fun _ h => absurd h List.not_mem_nil⟩⟩⟩⟩⟩⟩) ?_
            exact L1022 22 0 μ761 (((((((((((((0 + 1) + 1) + 1) + 1) + 1) + 1) + 1) + 1) + 1) + 1) + 1) + 1) + 1) T762 mF.refl q769 (rW (c := 0) (d := 20) (rR (x := 0)) rfl) vc_X12_write_W_69 vc_X12_tieOf_12 ((h767.2.1 T762 F763) z765 q766)
          refine mr_if_le (pc := 165) (tgt := 177) dX12_write_165 (by decide) (r32 h62 rfl) (fun h1048 => ?_) (fun h1048 => ?_)
          · have h1049 : 0 ≤ z59 ∧ z59 ≤ 0 := (vc_X3_putAttributes_W_7 h1048 h62)
            refine mr_iconst (pc := 177) (z := 0) dX12_write_177 ?_
            exact J82 0 (rW (c := 0) (d := 35) (rR (x := 0)) rfl) ((W77 h75).1 h1048)
          have h1050 : 1 ≤ z59 ∧ z59 ≤ 8 := (vc_X3_putAttributes_W_8 h1048 h62)
          refine mr_iconst (pc := 168) (z := 3) dX12_write_168 ?_
          refine mr_iconst (pc := 169) (z := 4) dX12_write_169 ?_
          refine mr_iload (pc := 170) (z := z59) dX12_write_170 rfl ?_
          refine mr_imul (pc := 172) (x := 4) (y := z59) dX12_write_172 ?_
          refine mr_iadd (pc := 173) (x := 3) (y := (4 * z59)) dX12_write_173 ?_
          refine sv_goto (pc := 174) (tgt := 178) dX12_write_174 (by decide) ?_
          exact J82 (3 + (4 * z59)) (rW (c := 0) (d := 35) (rAdd (e := 7) (f := 35) (rR (x := 3)) (rMulL (n := 4) (e := 4) (f := 32) h1050 rfl) rfl) rfl) ((W77 h75).2 h1048)
        refine mr_if_le (pc := 153) (tgt := 161) dX12_write_153 (by decide) h71.1 (fun h1051 => ?_) (fun h1051 => ?_)
        · have h1052 : (-2147483648) ≤ z69 ∧ z69 ≤ 0 := (vc_X12_write_W_49 h1051 h71.1)
          refine mr_iconst (pc := 161) (z := 0) dX12_write_161 ?_
          refine mr_lvS (lv' := [(0, .ref 106), (3, iv p3), (4, iv (40 * (530 + z44))), (5, iv z55), (6, iv z59), (7, iv z65)]) (List.forall_mem_cons.mpr ⟨rfl, List.forall_mem_cons.mpr ⟨rfl, List.forall_mem_cons.mpr ⟨rfl, List.forall_mem_cons.mpr ⟨rfl, List.forall_mem_cons.mpr ⟨rfl, List.forall_mem_cons.mpr ⟨rfl, fun _ h => absurd h List.not_mem_nil⟩⟩⟩⟩⟩⟩) ?_
          exact J76 0 (rW (c := 0) (d := 7) (rR (x := 0)) rfl) (((W68 h66) z69 q70 h71).1 h1051)
        have h1053 : 1 ≤ z69 ∧ z69 ≤ 2147483647 := (vc_X12_write_W_51 h1051 h71.1)
        refine mr_bipush (pc := 156) (z := 7) dX12_write_156 (by decide) ?_
        refine sv_goto (pc := 158) (tgt := 162) dX12_write_158 (by decide) ?_
        refine mr_lvS (lv' := [(0, .ref 106), (3, iv p3), (4, iv (40 * (530 + z44))), (5, iv z55), (6, iv z59), (7, iv z65)]) (List.forall_mem_cons.mpr ⟨rfl, List.forall_mem_cons.mpr ⟨rfl, List.forall_mem_cons.mpr ⟨rfl, List.forall_mem_cons.mpr ⟨rfl, List.forall_mem_cons.mpr ⟨rfl, List.forall_mem_cons.mpr ⟨rfl, fun _ h => absurd h List.not_mem_nil⟩⟩⟩⟩⟩⟩) ?_
        exact J76 7 (rW (c := 0) (d := 7) (rR (x := 7)) rfl) (((W68 h66) z69 q70 h71).2 h1051)
      refine mr_if_ne (pc := 124) (tgt := 131) dX12_write_124 (by decide) (r32 h58 rfl) (fun h1054 => ?_) (fun h1054 => ?_)
      · have h1055 : 1 ≤ z55 ∧ z55 ≤ 20 := (vc_X12_waysMatch_2 h1054 h58)
        refine mr_iconst (pc := 131) (z := 2) dX12_write_131 ?_
        refine mr_iconst (pc := 132) (z := 4) dX12_write_132 ?_
        refine mr_iload (pc := 133) (z := z55) dX12_write_133 rfl ?_
        refine mr_imul (pc := 135) (x := 4) (y := z55) dX12_write_135 ?_
        refine mr_iadd (pc := 136) (x := 2) (y := (4 * z55)) dX12_write_136 ?_
        refine mr_lvS (lv' := [(0, .ref 106), (3, iv p3), (4, iv (40 * (530 + z44))), (5, iv z55), (6, iv z59)]) (List.forall_mem_cons.mpr ⟨rfl, List.forall_mem_cons.mpr ⟨rfl, List.forall_mem_cons.mpr ⟨rfl, List.forall_mem_cons.mpr ⟨rfl, List.forall_mem_cons.mpr ⟨rfl, fun _ h => absurd h List.not_mem_nil⟩⟩⟩⟩⟩) ?_
        exact J67 (2 + (4 * z55)) (rW (c := 0) (d := 82) (rAdd (e := 6) (f := 82) (rR (x := 2)) (rMulL (n := 4) (e := 4) (f := 80) h1055 rfl) rfl) rfl) (((((((h43.2.2.1 h43.1) μ46 u47 T48) z49 q50 h51).1 h53) z55 q56 h57) z59 q60 h61).1 h1054)
      have h1056 : 0 ≤ z55 ∧ z55 ≤ 0 := (vc_X12_waysMatch_23 h1054 h58)
      refine mr_iconst (pc := 127) (z := 0) dX12_write_127 ?_
      refine sv_goto (pc := 128) (tgt := 137) dX12_write_128 (by decide) ?_
      refine mr_lvS (lv' := [(0, .ref 106), (3, iv p3), (4, iv (40 * (530 + z44))), (5, iv z55), (6, iv z59)]) (List.forall_mem_cons.mpr ⟨rfl, List.forall_mem_cons.mpr ⟨rfl, List.forall_mem_cons.mpr ⟨rfl, List.forall_mem_cons.mpr ⟨rfl, List.forall_mem_cons.mpr ⟨rfl, fun _ h => absurd h List.not_mem_nil⟩⟩⟩⟩⟩) ?_
      exact J67 0 (rW (c := 0) (d := 82) (rR (x := 0)) rfl) (((((((h43.2.2.1 h43.1) μ46 u47 T48) z49 q50 h51).1 h53) z55 q56 h57) z59 q60 h61).2 h1054)
    have h1057 : (-1) ≤ z49 ∧ z49 ≤ (-1) := (vc_X12_isThere_3 h53 h52)
    refine sv_aload_n (pc := 57) dX12_write_57 rfl rfl ?_
    refine mr_iconst (pc := 58) (z := 0) dX12_write_58 ?_
    refine mr_cVV (pc := 59) (c_X12_octet1_W hw T48 (rW (c := (-2147483648)) (d := 2147483647) (rR (x := 0)) rfl) u47.1 vc_X12_write_W_21 ((((h43.2.2.1 h43.1) μ46 u47 T48) z49 q50 h51).2 h53)) (gOk _ _ _ _ _) dX12_write_59 (tX12_octet1 _ _ _ _ _) ⟨wV_X12_octet1, wL_X12_octet1⟩ wM_X12_674 (gCX12 _ _ _ _ _) rfl (A_106 hw) rfl ⟨le_t rfl, le_t rfl⟩ ⟨le_t rfl, le_t rfl⟩ rfl (le_t rfl) fun μ1058 T1059 F1060 h1061 => ?_
    obtain ⟨z1062, q1063, h1064⟩ := h1061
    have h1065 : (0 ≤ z1062 ∧ z1062 ≤ 300) := by rw [← q1063]; exact T1059 106 106 (A_106 hw) 104
    have q1066 : μ1058 106 104 = (0 + 1) := q1063.trans h1064.1
    refine sv_aload_n (pc := 62) dX12_write_62 rfl rfl ?_
    refine mr_iconst (pc := 63) (z := 1) dX12_write_63 ?_
    refine sv_aload_n (pc := 64) dX12_write_64 rfl rfl ?_
    refine gf_X12_4 (pc := 65) dX12_write_65 wF_X12_26 (A_106 hw) T1059 ?_
    refine mr_iload_n (pc := 68) (z := p3) dX12_write_68 rfl rfl ?_
    refine la_109 (pc := 69) dX12_write_69 (A_109 hw) T1059 (rIx (n := 10) h38 rfl) fun z1067 q1068 h1069 => ?_
    refine mr_bipush (pc := 70) (z := 7) dX12_write_70 (by decide) ?_
    refine mr_iadd (pc := 72) (x := z1067) (y := 7) dX12_write_72 ?_
    refine mr_bipush (pc := 73) (z := 8) dX12_write_73 (by decide) ?_
    refine mr_idiv (pc := 75) (x := (z1067 + 7)) (y := 8) dX12_write_75 (rW (c := 0) (d := 2147483647) (rAdd (e := 7) (f := 39) h1069 (rR (x := 7)) rfl) rfl) vc_X3_readPrefixes_W_5 ?_
    refine mr_gen (P := fun z => 0 ≤ z ∧ z ≤ 4) (rDiv (rAdd (e := 7) (f := 39) h1069 (rR (x := 7)) rfl) rfl) fun z1070 q1071 h1072 => ?_
    refine mr_iadd (pc := 76) (x := 1) (y := z1070) dX12_write_76 ?_
    refine mr_cVV (pc := 77) (c_X12_octet1_W hw T1059 (rW (c := (-2147483648)) (d := 2147483647) (rAdd (e := 1) (f := 5) (rR (x := 1)) h1072 rfl) rfl) q1066 vc_X12_write_W_22 ((((h1064.2.1 T1059 F1060) z1062 q1063) z1067 q1068 h1069) z1070 q1071)) (gOk _ _ _ _ _) dX12_write_77 (tX12_octet1 _ _ _ _ _) ⟨wV_X12_octet1, wL_X12_octet1⟩ wM_X12_674 (gCX12 _ _ _ _ _) rfl (A_106 hw) rfl ⟨le_t rfl, le_t rfl⟩ ⟨le_t rfl, le_t rfl⟩ rfl (le_t rfl) fun μ1073 T1074 F1075 h1076 => ?_
    obtain ⟨z1077, q1078, h1079⟩ := h1076
    have h1080 : (0 ≤ z1077 ∧ z1077 ≤ 300) := by rw [← q1078]; exact T1074 106 106 (A_106 hw) 104
    have q1081 : μ1073 106 104 = ((0 + 1) + 1) := q1078.trans h1079.1
    refine sv_aload_n (pc := 80) dX12_write_80 rfl rfl ?_
    refine mr_iload_n (pc := 81) (z := p3) dX12_write_81 rfl rfl ?_
    refine mr_cVV (pc := 82) (c_X12_prefixOut_W hw T1074 h38 q1081 vc_X12_write_W_75 ((h1079.2.1 T1074 F1075) z1077 q1078)) (gOk _ _ _ _ _) dX12_write_82 (tX12_prefixOut _ _ _ _ _) ⟨wV_X12_prefixOut, wL_X12_prefixOut⟩ wM_X12_677 (gCX12 _ _ _ _ _) rfl (A_106 hw) rfl ⟨le_t rfl, le_t rfl⟩ ⟨le_t rfl, le_t rfl⟩ rfl (le_t rfl) fun μ1082 T1083 F1084 h1085 => ?_
    obtain ⟨z1086, q1087, h1088⟩ := h1085
    have h1089 : (0 ≤ z1086 ∧ z1086 ≤ 300) := by rw [← q1087]; exact T1083 106 106 (A_106 hw) 104
    refine sv_aload_n (pc := 85) dX12_write_85 rfl rfl ?_
    refine mr_iconst (pc := 86) (z := 0) dX12_write_86 ?_
    refine mr_cVV (pc := 87) (c_X12_octet1_W hw T1083 (rW (c := (-2147483648)) (d := 2147483647) (rR (x := 0)) rfl) q1087 (vc_X12_write_W_76 h1088.1 h1089) ((h1088.2.1 T1083 F1084) z1086 q1087)) (gOk _ _ _ _ _) dX12_write_87 (tX12_octet1 _ _ _ _ _) ⟨wV_X12_octet1, wL_X12_octet1⟩ wM_X12_674 (gCX12 _ _ _ _ _) rfl (A_106 hw) rfl ⟨le_t rfl, le_t rfl⟩ ⟨le_t rfl, le_t rfl⟩ rfl (le_t rfl) fun μ1090 T1091 F1092 h1093 => ?_
    obtain ⟨z1094, q1095, h1096⟩ := h1093
    have h1097 : (0 ≤ z1094 ∧ z1094 ≤ 300) := by rw [← q1095]; exact T1091 106 106 (A_106 hw) 104
    have q1098 : μ1090 106 104 = (z1086 + 1) := q1095.trans h1096.1
    refine sv_aload_n (pc := 90) dX12_write_90 rfl rfl ?_
    refine mr_iconst (pc := 91) (z := 0) dX12_write_91 ?_
    refine mr_cVV (pc := 92) (c_X12_octet1_W hw T1091 (rW (c := (-2147483648)) (d := 2147483647) (rR (x := 0)) rfl) q1098 (vc_X12_write_W_77 h1088.1 h1096.1 h1089 h1097) ((h1096.2.1 T1091 F1092) z1094 q1095)) (gOk _ _ _ _ _) dX12_write_92 (tX12_octet1 _ _ _ _ _) ⟨wV_X12_octet1, wL_X12_octet1⟩ wM_X12_674 (gCX12 _ _ _ _ _) rfl (A_106 hw) rfl ⟨le_t rfl, le_t rfl⟩ ⟨le_t rfl, le_t rfl⟩ rfl (le_t rfl) fun μ1099 T1100 F1101 h1102 => ?_
    obtain ⟨z1103, q1104, h1105⟩ := h1102
    have h1106 : (0 ≤ z1103 ∧ z1103 ≤ 300) := by rw [← q1104]; exact T1100 106 106 (A_106 hw) 104
    have q1107 : μ1099 106 104 = ((z1086 + 1) + 1) := q1104.trans h1105.1
    refine sv_aload_n (pc := 95) dX12_write_95 rfl rfl ?_
    refine gk_X12_104 (pc := 96) dX12_write_96 wF_X12_671 (A_106 hw) q1107 ?_
    exact mr_iret dX12_write_99 rfl (le_t rfl) (le_t rfl) T1100 (mF.call (mF.call (mF.call (mF.call (mF.call (mF.up mF.refl (A_106 hw) u47 rfl) F1060 rfl) F1075 rfl) F1084 rfl) F1092 rfl) F1101 rfl) ⟨(rW (c := (-2147483648)) (d := 2147483647) (rAdd (e := 2) (f := 302) (rAdd (e := 1) (f := 301) h1089 (rR (x := 1)) rfl) (rR (x := 1)) rfl) rfl), ((h1105.2.1 T1100 F1101) z1103 q1104), trivial⟩
  have h1108 : 0 ≤ z34 ∧ z34 ≤ 0 := (vc_X12_demand_1 h35 h33.2.1 h33.2.2.1 hp3 h29 h33.1)
  have h1109 : p3 < 0 ∨ z27 ≤ p3 := (h33.2.2.1 (vc_X12_demand_2 h33.2.1 h33.2.2.1 h35 hp3 h29 h1108))
  refine mr_iconst (pc := 25) (z := (-1)) dX12_write_25 ?_
  exact mr_iret dX12_write_26 rfl (le_t rfl) (le_t rfl) hT mF.refl ⟨(rW (c := (-2147483648)) (d := 2147483647) (rR (x := (-1))) rfl), ((h33.2.2.2.1 h33.1).2 h35), trivial⟩
def WP_X11_octet_W (w : mW) (μ : mM) (p1 : Int) (Q : Int → mM → Prop) : Prop := ((p1 < 0) → Q ((-99999999) : Int) μ) ∧ ((0 ≤ p1) → ∀ z14 : Int, μ 76 15 = z14 → (0 ≤ z14 ∧ z14 ≤ 256) → ((p1 < z14) → ∀ z25 : Int, μ 86 (p1.toNat) = z25 → ((-2147483648) ≤ z25 ∧ z25 ≤ 2147483647) → Q z25 μ) ∧ ((z14 ≤ p1) → Q ((-99999999) : Int) μ))
theorem vc_X11_octet_W_3 {p1 z14 : Int} (h0 : p1 < z14) (h1 : 0 ≤ p1) (h2 : 0 ≤ p1 ∧ p1 ≤ 2147483647) (h3 : 0 ≤ z14 ∧ z14 ≤ 256) : 0 ≤ p1 ∧ p1 ≤ 255 := by omega
theorem vc_X11_octet_W_4 {p1 z14 : Int} (h0 : p1 < z14) (h1 : 0 ≤ p1) (h2 : 0 ≤ p1 ∧ p1 ≤ 255) (h3 : 0 ≤ z14 ∧ z14 ≤ 256) : 1 ≤ z14 ∧ z14 ≤ 256 := by omega
set_option maxRecDepth 4000 in
set_option maxHeartbeats 4000000 in
theorem c_X11_octet_W {l : Launch} {D : va_G} {c : Nat → ClassId} {H0 : Heap} {sa : Nat × Nat × (Nat → Int32)} {w : mW} {μ : mM} (hw : mWF w) (hT : mT w μ) {p1 : Int} (hp1 : (-2147483648) ≤ p1 ∧ p1 ≤ 2147483647) {Q : Int → mM → Prop} (hQ : WP_X11_octet_W w μ p1 Q) : sC (gG l D c H0 sa) mX11_octet 1 0 0 [.ref 0, iv p1] (mk w μ) (qP w μ (fun z => ((-2147483648) ≤ z ∧ z ≤ 2147483647) ∧ Q z μ ∧ True)) := by
  refine sC.of rfl (by decide) (le_t rfl) ?_
  refine mr_lvE (lv' := [(0, .ref 0), (1, iv p1)]) rfl ?_
  refine mr_iload_n (pc := 0) (z := p1) dX11_octet_0 rfl rfl ?_
  refine mr_if_lt (pc := 1) (tgt := 15) dX11_octet_1 (by decide) hp1 (fun h11 => ?_) (fun h11 => ?_)
  · have h12 : (-2147483648) ≤ p1 ∧ p1 ≤ (-1) := (vc_X12_ring_60 h11 hp1)
    refine mr_ldc (pc := 15) (z := (-99999999)) dX11_octet_15 wG_X11_165 (by decide) ?_
    refine sv_goto (pc := 17) (tgt := 29) dX11_octet_17 (by decide) ?_
    exact mr_iretP dX11_octet_29 rfl (le_t rfl) (le_t rfl) ⟨(rW (c := (-2147483648)) (d := 2147483647) (rR (x := (-99999999))) rfl), (hQ.1 h11), trivial⟩
  have h13 : 0 ≤ p1 ∧ p1 ≤ 2147483647 := (vc_X12_ring_1 h11 hp1)
  refine mr_iload_n (pc := 4) (z := p1) dX11_octet_4 rfl rfl ?_
  refine sv_aload_n (pc := 5) dX11_octet_5 rfl rfl ?_
  refine gf_X11_7 (pc := 6) dX11_octet_6 wF_X11_58 (A_0 hw) hT ?_
  refine gf_X3_15 (pc := 9) dX11_octet_9 wF_X11_358 (A_76 hw) hT fun z14 q15 h16 => ?_
  refine mr_icmp_lt (pc := 12) (tgt := 20) dX11_octet_12 (by decide) (r32 h13 rfl) (r32 h16 rfl) (fun h22 => ?_) (fun h22 => ?_)
  · have h23 : 0 ≤ p1 ∧ p1 ≤ 255 := (vc_X11_octet_W_3 h22 h11 h13 h16)
    have h24 : 1 ≤ z14 ∧ z14 ≤ 256 := (vc_X11_octet_W_4 h22 h11 h23 h16)
    refine sv_aload_n (pc := 20) dX11_octet_20 rfl rfl ?_
    refine gf_X11_7 (pc := 21) dX11_octet_21 wF_X11_58 (A_0 hw) hT ?_
    refine gf_X3_12 (pc := 24) dX11_octet_24 wF_X11_361 (A_76 hw) hT ?_
    refine mr_iload_n (pc := 27) (z := p1) dX11_octet_27 rfl rfl ?_
    refine la_86 (pc := 28) dX11_octet_28 (A_86 hw) hT (rIx (n := 256) h23 rfl) fun z25 q26 h27 => ?_
    exact mr_iretP dX11_octet_29 rfl (le_t rfl) (le_t rfl) ⟨h27, ((((hQ.2 h11) z14 q15 h16).1 h22) z25 q26 h27), trivial⟩
  refine mr_ldc (pc := 15) (z := (-99999999)) dX11_octet_15 wG_X11_165 (by decide) ?_
  refine sv_goto (pc := 17) (tgt := 29) dX11_octet_17 (by decide) ?_
  exact mr_iretP dX11_octet_29 rfl (le_t rfl) (le_t rfl) ⟨(rW (c := (-2147483648)) (d := 2147483647) (rR (x := (-99999999))) rfl), (((hQ.2 h11) z14 q15 h16).2 h22), trivial⟩
def WP_X12_octet_W (w : mW) (μ : mM) (p1 : Int) (Q : Int → mM → Prop) : Prop := ∀ z1 : Int, μ 106 104 = z1 → (0 ≤ z1 ∧ z1 ≤ 300) → WP_X12_in_W w μ p1 (0) (z1 - 1) (fun z8 _ => (0 ≤ z8 ∧ z8 ≤ 1) → ((z8 = 0) → Q ((-99999999) : Int) μ) ∧ ((¬ z8 = 0) → ∀ z23 : Int, μ 174 (p1.toNat) = z23 → ((-2147483648) ≤ z23 ∧ z23 ≤ 2147483647) → Q z23 μ))
theorem vc_X12_octet_W_1 {p1 z1 z8 : Int} (h0 : z8 = 0) (h1 : (z8 = 1 → (0 : Int) ≤ p1 ∧ p1 ≤ (z1 - 1))) (h2 : (z8 = 0 → p1 < (0 : Int) ∨ (z1 - 1) < p1)) (h3 : (-2147483648) ≤ p1 ∧ p1 ≤ 2147483647) (h4 : 0 ≤ z1 ∧ z1 ≤ 300) (h5 : 0 ≤ z8 ∧ z8 ≤ 1) : 0 ≤ z8 ∧ z8 ≤ 0 := by omega
theorem vc_X12_octet_W_2 {p1 z1 z8 : Int} (h0 : (z8 = 1 → (0 : Int) ≤ p1 ∧ p1 ≤ (z1 - 1))) (h1 : (z8 = 0 → p1 < (0 : Int) ∨ (z1 - 1) < p1)) (h2 : z8 = 0) (h3 : (-2147483648) ≤ p1 ∧ p1 ≤ 2147483647) (h4 : 0 ≤ z1 ∧ z1 ≤ 300) (h5 : 0 ≤ z8 ∧ z8 ≤ 0) : z8 = 0 := by omega
theorem vc_X12_octet_W_3 {p1 z1 z8 : Int} (h0 : ¬ z8 = 0) (h1 : (z8 = 1 → (0 : Int) ≤ p1 ∧ p1 ≤ (z1 - 1))) (h2 : (z8 = 0 → p1 < (0 : Int) ∨ (z1 - 1) < p1)) (h3 : (-2147483648) ≤ p1 ∧ p1 ≤ 2147483647) (h4 : 0 ≤ z1 ∧ z1 ≤ 300) (h5 : 0 ≤ z8 ∧ z8 ≤ 1) : 1 ≤ z8 ∧ z8 ≤ 1 := by omega
theorem vc_X12_octet_W_4 {p1 z1 z8 : Int} (h0 : (z8 = 1 → (0 : Int) ≤ p1 ∧ p1 ≤ (z1 - 1))) (h1 : (z8 = 0 → p1 < (0 : Int) ∨ (z1 - 1) < p1)) (h2 : ¬ z8 = 0) (h3 : (-2147483648) ≤ p1 ∧ p1 ≤ 2147483647) (h4 : 0 ≤ z1 ∧ z1 ≤ 300) (h5 : 1 ≤ z8 ∧ z8 ≤ 1) : z8 = 1 := by omega
theorem vc_X12_octet_W_5 {p1 z1 z8 : Int} (h0 : (0 : Int) ≤ p1 ∧ p1 ≤ (z1 - 1)) (h1 : (z8 = 1 → (0 : Int) ≤ p1 ∧ p1 ≤ (z1 - 1))) (h2 : (z8 = 0 → p1 < (0 : Int) ∨ (z1 - 1) < p1)) (h3 : (-2147483648) ≤ p1 ∧ p1 ≤ 2147483647) (h4 : 0 ≤ z1 ∧ z1 ≤ 300) (h5 : 1 ≤ z8 ∧ z8 ≤ 1) : 0 ≤ p1 ∧ p1 ≤ 2147483647 := by omega
theorem vc_X12_octet_W_6 {p1 z1 z8 : Int} (h0 : (z8 = 1 → (0 : Int) ≤ p1 ∧ p1 ≤ (z1 - 1))) (h1 : (z8 = 0 → p1 < (0 : Int) ∨ (z1 - 1) < p1)) (h2 : (0 : Int) ≤ p1 ∧ p1 ≤ (z1 - 1)) (h3 : ¬ z8 = 0) (h4 : 0 ≤ p1 ∧ p1 ≤ 2147483647) (h5 : 0 ≤ z1 ∧ z1 ≤ 300) (h6 : 1 ≤ z8 ∧ z8 ≤ 1) : 0 ≤ p1 ∧ p1 < 300 := by omega
set_option maxRecDepth 4000 in
set_option maxHeartbeats 4000000 in
theorem c_X12_octet_W {l : Launch} {D : va_G} {c : Nat → ClassId} {H0 : Heap} {sa : Nat × Nat × (Nat → Int32)} {w : mW} {μ : mM} (hw : mWF w) (hT : mT w μ) {p1 : Int} (hp1 : (-2147483648) ≤ p1 ∧ p1 ≤ 2147483647) {Q : Int → mM → Prop} (hQ : WP_X12_octet_W w μ p1 Q) : sC (gG l D c H0 sa) mX12_octet 2 0 0 [.ref 106, iv p1] (mk w μ) (qP w μ (fun z => ((-2147483648) ≤ z ∧ z ≤ 2147483647) ∧ Q z μ ∧ True)) := by
  refine sC.of rfl (by decide) (le_t rfl) ?_
  refine mr_lvE (lv' := [(0, .ref 106), (1, iv p1)]) rfl ?_
  refine mr_iload_n (pc := 0) (z := p1) dX12_octet_0 rfl rfl ?_
  refine mr_iconst (pc := 1) (z := 0) dX12_octet_1 ?_
  refine sv_aload_n (pc := 2) dX12_octet_2 rfl rfl ?_
  refine gf_X12_104 (pc := 3) dX12_octet_3 wF_X12_671 (A_106 hw) hT fun z1 q2 h3 => ?_
  refine mr_iconst (pc := 6) (z := 1) dX12_octet_6 ?_
  refine mr_isub (pc := 7) (x := z1) (y := 1) dX12_octet_7 ?_
  refine mr_cSP (pc := 8) (c_X12_in_W hw hT hp1 (rW (c := (-2147483648)) (d := 2147483647) (rR (x := 0)) rfl) (rW (c := (-2147483648)) (d := 2147483647) (rSub (e := (-1)) (f := 299) h3 (rR (x := 1)) rfl) rfl) (hQ z1 q2 h3)) (gOk _ _ _ _ _) dX12_octet_8 (tX12_in _ _ _ _ _) wS_X12_in wM_X12_18 ⟨le_t rfl, le_t rfl⟩ ⟨le_t rfl, le_t rfl⟩ rfl (le_t rfl) fun z8 h7 => ?_
  refine mr_if_eq (pc := 11) (tgt := 23) dX12_octet_11 (by decide) (r32 h7.1 rfl) (fun h17 => ?_) (fun h17 => ?_)
  · have h18 : 0 ≤ z8 ∧ z8 ≤ 0 := (vc_X12_octet_W_1 h17 h7.2.1 h7.2.2.1 hp1 h3 h7.1)
    have h19 : p1 < (0 : Int) ∨ (z1 - 1) < p1 := (h7.2.2.1 (vc_X12_octet_W_2 h7.2.1 h7.2.2.1 h17 hp1 h3 h18))
    refine mr_ldc (pc := 23) (z := (-99999999)) dX12_octet_23 wG_X12_29 (by decide) ?_
    exact mr_iretP dX12_octet_25 rfl (le_t rfl) (le_t rfl) ⟨(rW (c := (-2147483648)) (d := 2147483647) (rR (x := (-99999999))) rfl), ((h7.2.2.2.1 h7.1).1 h17), trivial⟩
  have h20 : 1 ≤ z8 ∧ z8 ≤ 1 := (vc_X12_octet_W_3 h17 h7.2.1 h7.2.2.1 hp1 h3 h7.1)
  have h21 : (0 : Int) ≤ p1 ∧ p1 ≤ (z1 - 1) := (h7.2.1 (vc_X12_octet_W_4 h7.2.1 h7.2.2.1 h17 hp1 h3 h20))
  have h22 : 0 ≤ p1 ∧ p1 ≤ 2147483647 := (vc_X12_octet_W_5 h21 h7.2.1 h7.2.2.1 hp1 h3 h20)
  refine sv_aload_n (pc := 14) dX12_octet_14 rfl rfl ?_
  refine gf_X12_103 (pc := 15) dX12_octet_15 wF_X12_484 (A_106 hw) hT ?_
  refine mr_iload_n (pc := 18) (z := p1) dX12_octet_18 rfl rfl ?_
  refine la_174 (pc := 19) dX12_octet_19 (A_174 hw) hT (vc_X12_octet_W_6 h7.2.1 h7.2.2.1 h21 h17 h22 h3 h20) fun z23 q24 h25 => ?_
  refine sv_goto (pc := 20) (tgt := 25) dX12_octet_20 (by decide) ?_
  exact mr_iretP dX12_octet_25 rfl (le_t rfl) (le_t rfl) ⟨h25, (((h7.2.2.2.1 h7.1).2 h17) z23 q24 h25), trivial⟩
def WL_X2_insertBorder_W_1 (w : mW) (μ : mM) (p1 : Int) (Q : mM → Prop) (rec1 : (Int × mM) → Prop) (s : (Int × mM)) : Prop := ∀ z43 : Int, ∀ μ44 : mM, s = (z43, μ44) → (0 ≤ z43 ∧ z43 ≤ 19) → mT w μ44 → mF [93999] w μ μ44 → ((z43 ≤ 0) → ∀ μ68 : mM, mU μ44 93 (z43.toNat) p1 μ68 → mT w μ68 → Q μ68) ∧ ((0 < z43) → ∀ z72 : Int, μ44 93 ((z43 - 1).toNat) = z72 → ((-9223372036854775808) ≤ z72 ∧ z72 ≤ 9223372036854775807) → ∀ z75 : Int, lCmp z72 p1 = z75 → ((z75 ≤ 0) → ∀ μ85 : mM, mU μ44 93 (z43.toNat) p1 μ85 → mT w μ85 → Q μ85) ∧ ((0 < z75) → ∀ μ89 : mM, mU μ44 93 (z43.toNat) z72 μ89 → mT w μ89 → rec1 ((z43 + (-1)), μ89)))
def WP_X2_insertBorder_W (w : mW) (μ : mM) (p1 : Int) (p2 : Int) (Q : mM → Prop) : Prop := loopF (WL_X2_insertBorder_W_1 w μ p1 Q) False 21 (p2, μ)
def WL_X2_layBorders_W_1 (w : mW) (μ : mM) (Q : Int → mM → Prop) (rec1 : (Int × Int × mM) → Prop) (s : (Int × Int × mM)) : Prop := ∀ z247 : Int, ∀ z246 : Int, ∀ μ248 : mM, s = (z247, z246, μ248) → (0 ≤ z247 ∧ z247 ≤ 20) → (0 ≤ z246 ∧ z246 ≤ 10) → mT w μ248 → mF [93999] w μ μ248 → ∀ z259 : Int, μ248 6 14 = z259 → (0 ≤ z259 ∧ z259 ≤ 10) → ((z259 ≤ z246) → Q z247 μ248) ∧ ((z246 < z259) → ∀ z293 : Int, μ248 7 (z246.toNat) = z293 → ((-2147483648) ≤ z293 ∧ z293 ≤ 2147483647) → ∀ z296 : Int, z293 = z296 → ∀ z299 : Int, lAnd z296 (4294967295 : Int) = z299 → WP_X2_insertBorder_W w μ248 z299 z247 (fun μ302 => mT w μ302 → mF [93999] w μ248 μ302 → ∀ z307 : Int, μ302 8 (z246.toNat) = z307 → (0 ≤ z307 ∧ z307 ≤ 32) → ∀ z310 : Int, lShl (1 : Int) (32 - z307) = z310 → ∀ z313 : Int, lAdd z299 z310 = z313 → WP_X2_insertBorder_W w μ302 z313 (z247 + 1) (fun μ316 => mT w μ316 → mF [93999] w μ302 μ316 → rec1 ((z247 + 2), (z246 + 1), μ316))))
def WP_X2_layBorders_W (w : mW) (μ : mM) (Q : Int → mM → Prop) : Prop := loopF (WL_X2_layBorders_W_1 w μ Q) False 22 ((0 : Int), (0 : Int), μ)
def WL_X2_unlikeAddresses_W_1 (w : mW) (p1 : Int) (p2 : Int) (Q : Int → mM → Prop) (z5 : Int) (μ1 : mM) (rec1 : (Int × Int) → Prop) (s : (Int × Int)) : Prop := ∀ z239 : Int, ∀ z238 : Int, s = (z239, z238) → ((-9223372036854775808) ≤ z239 ∧ z239 ≤ 9223372036854775807) → (0 ≤ z238 ∧ z238 ≤ 19) → ((z5 ≤ (z238 + 1)) → Q z239 μ1) ∧ (((z238 + 1) < z5) → ∀ z279 : Int, μ1 93 (z238.toNat) = z279 → ((-9223372036854775808) ≤ z279 ∧ z279 ≤ 9223372036854775807) → ∀ z282 : Int, lInt z279 = z282 → WP_X2_partnerFor_W w μ1 p1 z282 (fun z289 _ => ((-99999999) ≤ z289 ∧ z289 ≤ 9) → WP_X2_partnerFor_W w μ1 p2 z282 (fun z294 _ => ((-99999999) ≤ z294 ∧ z294 ≤ 9) → ((z289 = z294) → rec1 (z239, (z238 + 1))) ∧ ((¬ z289 = z294) → ∀ z305 : Int, μ1 93 ((z238 + 1).toNat) = z305 → ((-9223372036854775808) ≤ z305 ∧ z305 ≤ 9223372036854775807) → ∀ z308 : Int, lSub z305 z279 = z308 → ∀ z311 : Int, lAdd z239 z308 = z311 → rec1 (z311, (z238 + 1))))))
def WP_X2_unlikeAddresses_W (w : mW) (μ : mM) (p1 : Int) (p2 : Int) (Q : Int → mM → Prop) : Prop := WP_X2_layBorders_W w μ  (fun z5 μ1 => mT w μ1 → mF [93999] w μ μ1 → (0 ≤ z5 ∧ z5 ≤ 20) → loopF (WL_X2_unlikeAddresses_W_1 w p1 p2 Q z5 μ1) False 21 ((0 : Int), (0 : Int)))
def WP_X11_differ_W (w : mW) (μ : mM) (p1 : Int) (p2 : Int) (Q : Int → mM → Prop) : Prop := ∀ z1 : Int, μ 6 15 = z1 → (z1 = w.2.2.2 0 ∧ 0 ≤ z1 ∧ z1 ≤ 10) → WP_X11_isDomain_W w μ p1 (fun z8 _ => (0 ≤ z8 ∧ z8 ≤ 1) → ((z8 = 0) → Q ((-1) : Int) μ) ∧ ((¬ z8 = 0) → WP_X11_isDomain_W w μ p2 (fun z41 _ => (0 ≤ z41 ∧ z41 ≤ 1) → ((z41 = 0) → Q ((-1) : Int) μ) ∧ ((¬ z41 = 0) → WP_X2_unlikeAddresses_W w μ p1 p2 (fun z62 μ58 => mT w μ58 → mF [93999] w μ μ58 → ((-9223372036854775808) ≤ z62 ∧ z62 ≤ 9223372036854775807) → Q z62 μ58)))))
def WJ_X12_differ_W_4 (rec3 : (Int × Int) → Prop) (z7712 : Int) (z7711 : Int) (z7778 : Int) (z7781 : Int) (z7862 : Int) : Prop := (0 ≤ z7862 ∧ z7862 ≤ 1) → ((¬ z7862 = 0) → rec3 (z7712, (z7711 + 1))) ∧ ((z7862 = 0) → ∀ z7877 : Int, lSub z7781 z7778 = z7877 → ∀ z7880 : Int, lAdd z7712 z7877 = z7880 → rec3 (z7880, (z7711 + 1)))
def WL_X12_differ_W_3 (w : mW) (p1 : Int) (p2 : Int) (Q : Int → mM → Prop) (z5067 : Int) (μ7053 : mM) (rec3 : (Int × Int) → Prop) (s : (Int × Int)) : Prop := ∀ z7712 : Int, ∀ z7711 : Int, s = (z7712, z7711) → ((-9223372036854775808) ≤ z7712 ∧ z7712 ≤ 9223372036854775807) → (0 ≤ z7711 ∧ z7711 ≤ 21) → ((z5067 ≤ (z7711 + 1)) → Q z7712 μ7053) ∧ (((z7711 + 1) < z5067) → ∀ z7778 : Int, μ7053 183 (z7711.toNat) = z7778 → ((-9223372036854775808) ≤ z7778 ∧ z7778 ≤ 9223372036854775807) → ∀ z7781 : Int, μ7053 183 ((z7711 + 1).toNat) = z7781 → ((-9223372036854775808) ≤ z7781 ∧ z7781 ≤ 9223372036854775807) → ∀ z7784 : Int, lCmp z7778 z7781 = z7784 → ((¬ z7784 = 0) → ∀ z7830 : Int, lInt z7778 = z7830 → WP_X12_sends_W w μ7053 p1 z7830 (fun z7837 _ => ((-99999999) ≤ z7837 ∧ z7837 ≤ 19) → ∀ z7839 : Int, lInt z7778 = z7839 → WP_X12_sends_W w μ7053 p2 z7839 (fun z7846 _ => ((-99999999) ≤ z7846 ∧ z7846 ≤ 19) → ((z7837 < 0) → ((¬ z7837 = z7846) → (WJ_X12_differ_W_4 rec3 z7712 z7711 z7778 z7781) (0 : Int)) ∧ ((z7837 = z7846) → (WJ_X12_differ_W_4 rec3 z7712 z7711 z7778 z7781) (1 : Int))) ∧ ((0 ≤ z7837) → ((0 ≤ z7846) → WP_X12_partnerOf_W w μ7053 z7837 p1 (fun z7894 _ => (0 ≤ z7894 ∧ z7894 ≤ 9) → WP_X12_partnerOf_W w μ7053 z7846 p2 (fun z7899 _ => (0 ≤ z7899 ∧ z7899 ≤ 9) → ((¬ z7894 = z7899) → (WJ_X12_differ_W_4 rec3 z7712 z7711 z7778 z7781) (0 : Int)) ∧ ((z7894 = z7899) → (WJ_X12_differ_W_4 rec3 z7712 z7711 z7778 z7781) (1 : Int))))) ∧ ((z7846 < 0) → (WJ_X12_differ_W_4 rec3 z7712 z7711 z7778 z7781) (0 : Int)))))) ∧ ((z7784 = 0) → rec3 (z7712, (z7711 + 1))))
def WL_X12_differ_W_5 (w : mW) (rec2 : (Int × mM) → Prop) (z7052 : Int) (μ7053 : mM) (rec5 : (Int × mM) → Prop) (s : (Int × mM)) : Prop := ∀ z7965 : Int, ∀ μ7966 : mM, s = (z7965, μ7966) → (0 ≤ z7965 ∧ z7965 ≤ 21) → mT w μ7966 → mF [183999] w μ7053 μ7966 → ((z7965 ≤ 0) → rec2 ((z7052 + 1), μ7966)) ∧ ((0 < z7965) → ∀ z7997 : Int, μ7966 183 (z7965.toNat) = z7997 → ((-9223372036854775808) ≤ z7997 ∧ z7997 ≤ 9223372036854775807) → ∀ z8000 : Int, μ7966 183 ((z7965 - 1).toNat) = z8000 → ((-9223372036854775808) ≤ z8000 ∧ z8000 ≤ 9223372036854775807) → ∀ z8003 : Int, lCmp z7997 z8000 = z8003 → ((0 ≤ z8003) → rec2 ((z7052 + 1), μ7966)) ∧ ((z8003 < 0) → ∀ μ8017 : mM, mU μ7966 183 (z7965.toNat) z8000 μ8017 → mT w μ8017 → ∀ μ8020 : mM, mU μ8017 183 ((z7965 - 1).toNat) z7997 μ8020 → mT w μ8020 → rec5 ((z7965 + (-1)), μ8020)))
def WL_X12_differ_W_2 (w : mW) (p1 : Int) (p2 : Int) (Q : Int → mM → Prop) (z5067 : Int) (μ5068 : mM) (rec2 : (Int × mM) → Prop) (s : (Int × mM)) : Prop := ∀ z7052 : Int, ∀ μ7053 : mM, s = (z7052, μ7053) → (1 ≤ z7052 ∧ z7052 ≤ 22) → mT w μ7053 → mF [183999] w μ5068 μ7053 → ((z5067 ≤ z7052) → loopF (WL_X12_differ_W_3 w p1 p2 Q z5067 μ7053) False 23 ((0 : Int), (0 : Int))) ∧ ((z7052 < z5067) → loopF (WL_X12_differ_W_5 w rec2 z7052 μ7053) False 23 (z7052, μ7053))
def WL_X12_differ_W_1 (w : mW) (p1 : Int) (p2 : Int) (Q : Int → mM → Prop) (μ28 : mM) (rec1 : (Int × Int × mM) → Prop) (s : (Int × Int × mM)) : Prop := ∀ z5067 : Int, ∀ z5066 : Int, ∀ μ5068 : mM, s = (z5067, z5066, μ5068) → (2 ≤ z5067 ∧ z5067 ≤ 22) → (0 ≤ z5066 ∧ z5066 ≤ 10) → mT w μ5068 → mF [183999] w μ28 μ5068 → ∀ z5079 : Int, μ5068 106 2 = z5079 → (0 ≤ z5079 ∧ z5079 ≤ 10) → ((z5079 ≤ z5066) → loopF (WL_X12_differ_W_2 w p1 p2 Q z5067 μ5068) False 23 ((1 : Int), μ5068)) ∧ ((z5066 < z5079) → ∀ z8025 : Int, μ5068 108 (z5066.toNat) = z8025 → ((-2147483648) ≤ z8025 ∧ z8025 ≤ 2147483647) → ∀ z8028 : Int, z8025 = z8028 → ∀ z8031 : Int, lAnd z8028 (4294967295 : Int) = z8031 → ∀ μ8034 : mM, mU μ5068 183 (z5067.toNat) z8031 μ8034 → mT w μ8034 → ∀ z8037 : Int, μ8034 109 (z5066.toNat) = z8037 → (0 ≤ z8037 ∧ z8037 ≤ 32) → ∀ z8040 : Int, lShl (1 : Int) (32 - z8037) = z8040 → ∀ z8043 : Int, lAdd z8031 z8040 = z8043 → ∀ μ8046 : mM, mU μ8034 183 ((z5067 + 1).toNat) z8043 μ8046 → mT w μ8046 → rec1 (((z5067 + 1) + 1), (z5066 + 1), μ8046))
def WP_X12_differ_W (w : mW) (μ : mM) (p1 : Int) (p2 : Int) (Q : Int → mM → Prop) : Prop := ∀ z1 : Int, μ 106 5 = z1 → (0 ≤ z1 ∧ z1 ≤ 10) → WP_X12_isDomain_W w μ p1 (fun z8 _ => (0 ≤ z8 ∧ z8 ≤ 1) → ((z8 = 0) → Q ((-1) : Int) μ) ∧ ((¬ z8 = 0) → WP_X12_isDomain_W w μ p2 (fun z20 _ => (0 ≤ z20 ∧ z20 ≤ 1) → ((¬ z20 = 0) → ∀ μ25 : mM, mU μ 183 ((0 : Int).toNat) (0 : Int) μ25 → mT w μ25 → ∀ μ28 : mM, mU μ25 183 ((1 : Int).toNat) (4294967296 : Int) μ28 → mT w μ28 → loopF (WL_X12_differ_W_1 w p1 p2 Q μ28) False 22 ((2 : Int), (0 : Int), μ28)) ∧ ((z20 = 0) → Q ((-1) : Int) μ))))
def WJ_X2_isSplit_W_2 (w : mW) (μ : mM) (p1 : Int) (Q : Int → mM → Prop) (rec1 : (Int) → Prop) (z223 : Int) (z249 : Int) : Prop := (0 ≤ z249 ∧ z249 ≤ 1) → ((z249 = 0) → rec1 ((z223 + 1))) ∧ ((¬ z249 = 0) → ∀ b256 : Nat, μ 10 (p1.toNat) = (b256 : Int) → mAt w b256 210 → ∀ z260 : Int, μ (b256 + 3) (z223.toNat) = z260 → ((z260 = -99999999 ∨ z260 = -4 ∨ (0 ≤ z260 ∧ z260 ≤ 19)) ∧ (0 ≤ z260 → z260 < w.2.2.2 1)) → ((z260 = (-99999999)) → rec1 ((z223 + 1))) ∧ ((¬ z260 = (-99999999)) → Q (1 : Int) μ))
def WL_X2_isSplit_W_1 (w : mW) (μ : mM) (p1 : Int) (p2 : Int) (p3 : Int) (Q : Int → mM → Prop) (z5 : Int) (rec1 : (Int) → Prop) (s : (Int)) : Prop := ∀ z223 : Int, s = (z223) → (0 ≤ z223 ∧ z223 ≤ 10) → ∀ z232 : Int, μ 6 14 = z232 → (0 ≤ z232 ∧ z232 ≤ 10) → ((z232 ≤ z223) → Q (0 : Int) μ) ∧ ((z223 < z232) → ∀ z238 : Int, μ 8 (z223.toNat) = z238 → (0 ≤ z238 ∧ z238 ≤ 32) → ((z238 ≤ p3) → (WJ_X2_isSplit_W_2 w μ p1 Q rec1 z223) (0 : Int)) ∧ ((p3 < z238) → ∀ z270 : Int, μ 7 (z223.toNat) = z270 → ((-2147483648) ≤ z270 ∧ z270 ≤ 2147483647) → ∀ z273 : Int, bAnd z270 z5 = z273 → ((¬ z273 = p2) → (WJ_X2_isSplit_W_2 w μ p1 Q rec1 z223) (0 : Int)) ∧ ((z273 = p2) → (WJ_X2_isSplit_W_2 w μ p1 Q rec1 z223) (1 : Int))))
def WP_X2_isSplit_W (w : mW) (μ : mM) (p1 : Int) (p2 : Int) (p3 : Int) (Q : Int → mM → Prop) : Prop := WP_X10_maskOf_W w μ p3 (fun z5 _ => ((-2147483648) ≤ z5 ∧ z5 ≤ 2147483647) → loopF (WL_X2_isSplit_W_1 w μ p1 p2 p3 Q z5) False 12 ((0 : Int)))
def WP_X2_aimBit_W (w : mW) (μ : mM) (p1 : Int) (Q : Int → mM → Prop) : Prop := ((¬ p1 = (-4)) → ((0 ≤ p1) → ∀ z9 : Int, bShl (1 : Int) p1 = z9 → Q z9 μ) ∧ ((p1 < 0) → Q (2097152 : Int) μ)) ∧ ((p1 = (-4)) → Q (1048576 : Int) μ)
def WP_X2_leastBelow_W32 (w : mW) (μ : mM) (p1 : Int) (p2 : Int) (p3 : Int) (Q : Int → mM → Prop) : Prop := WP_X2_tieFor_W w μ p1 p2 (fun z5 _ => ((-99999999) ≤ z5 ∧ z5 ≤ 19) → WP_X2_aimBit_W w μ z5 (fun z10 _ => ((-2147483648) ≤ z10 ∧ z10 ≤ 2147483647) → Q z10 μ))
def WP_X2_leastBelow_W31 (w : mW) (μ : mM) (p1 : Int) (p2 : Int) (p3 : Int) (Q : Int → mM → Prop) : Prop := WP_X2_isSplit_W w μ p1 p2 p3 (fun z5 _ => (0 ≤ z5 ∧ z5 ≤ 1) → ((¬ z5 = 0) → WP_X2_leastBelow_W32 w μ p1 p2 (p3 + 1) (fun z12 μ8 => mT w μ8 → mF [87007] w μ μ8 → ((-2147483648) ≤ z12 ∧ z12 ≤ 2147483647) → ∀ z13 : Int, bShl (1 : Int) (31 - p3) = z13 → ∀ z16 : Int, bOr p2 z13 = z16 → WP_X2_leastBelow_W32 w μ8 p1 z16 (p3 + 1) (fun z23 μ19 => mT w μ19 → mF [87007] w μ8 μ19 → ((-2147483648) ≤ z23 ∧ z23 ≤ 2147483647) → ∀ z24 : Int, bAnd z12 z23 = z24 → ((z24 = 0) → ∀ z29 : Int, μ19 87 7 = z29 → ((-2147483648) ≤ z29 ∧ z29 ≤ 2147483647) → ∀ z32 : Int, (-2147483648 ≤ z32 ∧ z32 ≤ 2147483647) → (z32 - (z29 + 1)) % 4294967296 = 0 → ∀ μ35 : mM, mU μ19 87 (7) z32 μ35 → mT w μ35 → ∀ z38 : Int, bOr z12 z23 = z38 → Q z38 μ35) ∧ ((¬ z24 = 0) → ∀ z41 : Int, bAnd z12 z23 = z41 → Q z41 μ19)))) ∧ ((z5 = 0) → WP_X2_tieFor_W w μ p1 p2 (fun z49 _ => ((-99999999) ≤ z49 ∧ z49 ≤ 19) → WP_X2_aimBit_W w μ z49 (fun z54 _ => ((-2147483648) ≤ z54 ∧ z54 ≤ 2147483647) → Q z54 μ))))
def WP_X2_leastBelow_W30 (w : mW) (μ : mM) (p1 : Int) (p2 : Int) (p3 : Int) (Q : Int → mM → Prop) : Prop := WP_X2_isSplit_W w μ p1 p2 p3 (fun z5 _ => (0 ≤ z5 ∧ z5 ≤ 1) → ((¬ z5 = 0) → WP_X2_leastBelow_W31 w μ p1 p2 (p3 + 1) (fun z12 μ8 => mT w μ8 → mF [87007] w μ μ8 → ((-2147483648) ≤ z12 ∧ z12 ≤ 2147483647) → ∀ z13 : Int, bShl (1 : Int) (31 - p3) = z13 → ∀ z16 : Int, bOr p2 z13 = z16 → WP_X2_leastBelow_W31 w μ8 p1 z16 (p3 + 1) (fun z23 μ19 => mT w μ19 → mF [87007] w μ8 μ19 → ((-2147483648) ≤ z23 ∧ z23 ≤ 2147483647) → ∀ z24 : Int, bAnd z12 z23 = z24 → ((z24 = 0) → ∀ z29 : Int, μ19 87 7 = z29 → ((-2147483648) ≤ z29 ∧ z29 ≤ 2147483647) → ∀ z32 : Int, (-2147483648 ≤ z32 ∧ z32 ≤ 2147483647) → (z32 - (z29 + 1)) % 4294967296 = 0 → ∀ μ35 : mM, mU μ19 87 (7) z32 μ35 → mT w μ35 → ∀ z38 : Int, bOr z12 z23 = z38 → Q z38 μ35) ∧ ((¬ z24 = 0) → ∀ z41 : Int, bAnd z12 z23 = z41 → Q z41 μ19)))) ∧ ((z5 = 0) → WP_X2_tieFor_W w μ p1 p2 (fun z49 _ => ((-99999999) ≤ z49 ∧ z49 ≤ 19) → WP_X2_aimBit_W w μ z49 (fun z54 _ => ((-2147483648) ≤ z54 ∧ z54 ≤ 2147483647) → Q z54 μ))))
def WP_X2_leastBelow_W29 (w : mW) (μ : mM) (p1 : Int) (p2 : Int) (p3 : Int) (Q : Int → mM → Prop) : Prop := WP_X2_isSplit_W w μ p1 p2 p3 (fun z5 _ => (0 ≤ z5 ∧ z5 ≤ 1) → ((¬ z5 = 0) → WP_X2_leastBelow_W30 w μ p1 p2 (p3 + 1) (fun z12 μ8 => mT w μ8 → mF [87007] w μ μ8 → ((-2147483648) ≤ z12 ∧ z12 ≤ 2147483647) → ∀ z13 : Int, bShl (1 : Int) (31 - p3) = z13 → ∀ z16 : Int, bOr p2 z13 = z16 → WP_X2_leastBelow_W30 w μ8 p1 z16 (p3 + 1) (fun z23 μ19 => mT w μ19 → mF [87007] w μ8 μ19 → ((-2147483648) ≤ z23 ∧ z23 ≤ 2147483647) → ∀ z24 : Int, bAnd z12 z23 = z24 → ((z24 = 0) → ∀ z29 : Int, μ19 87 7 = z29 → ((-2147483648) ≤ z29 ∧ z29 ≤ 2147483647) → ∀ z32 : Int, (-2147483648 ≤ z32 ∧ z32 ≤ 2147483647) → (z32 - (z29 + 1)) % 4294967296 = 0 → ∀ μ35 : mM, mU μ19 87 (7) z32 μ35 → mT w μ35 → ∀ z38 : Int, bOr z12 z23 = z38 → Q z38 μ35) ∧ ((¬ z24 = 0) → ∀ z41 : Int, bAnd z12 z23 = z41 → Q z41 μ19)))) ∧ ((z5 = 0) → WP_X2_tieFor_W w μ p1 p2 (fun z49 _ => ((-99999999) ≤ z49 ∧ z49 ≤ 19) → WP_X2_aimBit_W w μ z49 (fun z54 _ => ((-2147483648) ≤ z54 ∧ z54 ≤ 2147483647) → Q z54 μ))))
def WP_X2_leastBelow_W28 (w : mW) (μ : mM) (p1 : Int) (p2 : Int) (p3 : Int) (Q : Int → mM → Prop) : Prop := WP_X2_isSplit_W w μ p1 p2 p3 (fun z5 _ => (0 ≤ z5 ∧ z5 ≤ 1) → ((¬ z5 = 0) → WP_X2_leastBelow_W29 w μ p1 p2 (p3 + 1) (fun z12 μ8 => mT w μ8 → mF [87007] w μ μ8 → ((-2147483648) ≤ z12 ∧ z12 ≤ 2147483647) → ∀ z13 : Int, bShl (1 : Int) (31 - p3) = z13 → ∀ z16 : Int, bOr p2 z13 = z16 → WP_X2_leastBelow_W29 w μ8 p1 z16 (p3 + 1) (fun z23 μ19 => mT w μ19 → mF [87007] w μ8 μ19 → ((-2147483648) ≤ z23 ∧ z23 ≤ 2147483647) → ∀ z24 : Int, bAnd z12 z23 = z24 → ((z24 = 0) → ∀ z29 : Int, μ19 87 7 = z29 → ((-2147483648) ≤ z29 ∧ z29 ≤ 2147483647) → ∀ z32 : Int, (-2147483648 ≤ z32 ∧ z32 ≤ 2147483647) → (z32 - (z29 + 1)) % 4294967296 = 0 → ∀ μ35 : mM, mU μ19 87 (7) z32 μ35 → mT w μ35 → ∀ z38 : Int, bOr z12 z23 = z38 → Q z38 μ35) ∧ ((¬ z24 = 0) → ∀ z41 : Int, bAnd z12 z23 = z41 → Q z41 μ19)))) ∧ ((z5 = 0) → WP_X2_tieFor_W w μ p1 p2 (fun z49 _ => ((-99999999) ≤ z49 ∧ z49 ≤ 19) → WP_X2_aimBit_W w μ z49 (fun z54 _ => ((-2147483648) ≤ z54 ∧ z54 ≤ 2147483647) → Q z54 μ))))
def WP_X2_leastBelow_W27 (w : mW) (μ : mM) (p1 : Int) (p2 : Int) (p3 : Int) (Q : Int → mM → Prop) : Prop := WP_X2_isSplit_W w μ p1 p2 p3 (fun z5 _ => (0 ≤ z5 ∧ z5 ≤ 1) → ((¬ z5 = 0) → WP_X2_leastBelow_W28 w μ p1 p2 (p3 + 1) (fun z12 μ8 => mT w μ8 → mF [87007] w μ μ8 → ((-2147483648) ≤ z12 ∧ z12 ≤ 2147483647) → ∀ z13 : Int, bShl (1 : Int) (31 - p3) = z13 → ∀ z16 : Int, bOr p2 z13 = z16 → WP_X2_leastBelow_W28 w μ8 p1 z16 (p3 + 1) (fun z23 μ19 => mT w μ19 → mF [87007] w μ8 μ19 → ((-2147483648) ≤ z23 ∧ z23 ≤ 2147483647) → ∀ z24 : Int, bAnd z12 z23 = z24 → ((z24 = 0) → ∀ z29 : Int, μ19 87 7 = z29 → ((-2147483648) ≤ z29 ∧ z29 ≤ 2147483647) → ∀ z32 : Int, (-2147483648 ≤ z32 ∧ z32 ≤ 2147483647) → (z32 - (z29 + 1)) % 4294967296 = 0 → ∀ μ35 : mM, mU μ19 87 (7) z32 μ35 → mT w μ35 → ∀ z38 : Int, bOr z12 z23 = z38 → Q z38 μ35) ∧ ((¬ z24 = 0) → ∀ z41 : Int, bAnd z12 z23 = z41 → Q z41 μ19)))) ∧ ((z5 = 0) → WP_X2_tieFor_W w μ p1 p2 (fun z49 _ => ((-99999999) ≤ z49 ∧ z49 ≤ 19) → WP_X2_aimBit_W w μ z49 (fun z54 _ => ((-2147483648) ≤ z54 ∧ z54 ≤ 2147483647) → Q z54 μ))))
def WP_X2_leastBelow_W26 (w : mW) (μ : mM) (p1 : Int) (p2 : Int) (p3 : Int) (Q : Int → mM → Prop) : Prop := WP_X2_isSplit_W w μ p1 p2 p3 (fun z5 _ => (0 ≤ z5 ∧ z5 ≤ 1) → ((¬ z5 = 0) → WP_X2_leastBelow_W27 w μ p1 p2 (p3 + 1) (fun z12 μ8 => mT w μ8 → mF [87007] w μ μ8 → ((-2147483648) ≤ z12 ∧ z12 ≤ 2147483647) → ∀ z13 : Int, bShl (1 : Int) (31 - p3) = z13 → ∀ z16 : Int, bOr p2 z13 = z16 → WP_X2_leastBelow_W27 w μ8 p1 z16 (p3 + 1) (fun z23 μ19 => mT w μ19 → mF [87007] w μ8 μ19 → ((-2147483648) ≤ z23 ∧ z23 ≤ 2147483647) → ∀ z24 : Int, bAnd z12 z23 = z24 → ((z24 = 0) → ∀ z29 : Int, μ19 87 7 = z29 → ((-2147483648) ≤ z29 ∧ z29 ≤ 2147483647) → ∀ z32 : Int, (-2147483648 ≤ z32 ∧ z32 ≤ 2147483647) → (z32 - (z29 + 1)) % 4294967296 = 0 → ∀ μ35 : mM, mU μ19 87 (7) z32 μ35 → mT w μ35 → ∀ z38 : Int, bOr z12 z23 = z38 → Q z38 μ35) ∧ ((¬ z24 = 0) → ∀ z41 : Int, bAnd z12 z23 = z41 → Q z41 μ19)))) ∧ ((z5 = 0) → WP_X2_tieFor_W w μ p1 p2 (fun z49 _ => ((-99999999) ≤ z49 ∧ z49 ≤ 19) → WP_X2_aimBit_W w μ z49 (fun z54 _ => ((-2147483648) ≤ z54 ∧ z54 ≤ 2147483647) → Q z54 μ))))
def WP_X2_leastBelow_W25 (w : mW) (μ : mM) (p1 : Int) (p2 : Int) (p3 : Int) (Q : Int → mM → Prop) : Prop := WP_X2_isSplit_W w μ p1 p2 p3 (fun z5 _ => (0 ≤ z5 ∧ z5 ≤ 1) → ((¬ z5 = 0) → WP_X2_leastBelow_W26 w μ p1 p2 (p3 + 1) (fun z12 μ8 => mT w μ8 → mF [87007] w μ μ8 → ((-2147483648) ≤ z12 ∧ z12 ≤ 2147483647) → ∀ z13 : Int, bShl (1 : Int) (31 - p3) = z13 → ∀ z16 : Int, bOr p2 z13 = z16 → WP_X2_leastBelow_W26 w μ8 p1 z16 (p3 + 1) (fun z23 μ19 => mT w μ19 → mF [87007] w μ8 μ19 → ((-2147483648) ≤ z23 ∧ z23 ≤ 2147483647) → ∀ z24 : Int, bAnd z12 z23 = z24 → ((z24 = 0) → ∀ z29 : Int, μ19 87 7 = z29 → ((-2147483648) ≤ z29 ∧ z29 ≤ 2147483647) → ∀ z32 : Int, (-2147483648 ≤ z32 ∧ z32 ≤ 2147483647) → (z32 - (z29 + 1)) % 4294967296 = 0 → ∀ μ35 : mM, mU μ19 87 (7) z32 μ35 → mT w μ35 → ∀ z38 : Int, bOr z12 z23 = z38 → Q z38 μ35) ∧ ((¬ z24 = 0) → ∀ z41 : Int, bAnd z12 z23 = z41 → Q z41 μ19)))) ∧ ((z5 = 0) → WP_X2_tieFor_W w μ p1 p2 (fun z49 _ => ((-99999999) ≤ z49 ∧ z49 ≤ 19) → WP_X2_aimBit_W w μ z49 (fun z54 _ => ((-2147483648) ≤ z54 ∧ z54 ≤ 2147483647) → Q z54 μ))))
def WP_X2_leastBelow_W24 (w : mW) (μ : mM) (p1 : Int) (p2 : Int) (p3 : Int) (Q : Int → mM → Prop) : Prop := WP_X2_isSplit_W w μ p1 p2 p3 (fun z5 _ => (0 ≤ z5 ∧ z5 ≤ 1) → ((¬ z5 = 0) → WP_X2_leastBelow_W25 w μ p1 p2 (p3 + 1) (fun z12 μ8 => mT w μ8 → mF [87007] w μ μ8 → ((-2147483648) ≤ z12 ∧ z12 ≤ 2147483647) → ∀ z13 : Int, bShl (1 : Int) (31 - p3) = z13 → ∀ z16 : Int, bOr p2 z13 = z16 → WP_X2_leastBelow_W25 w μ8 p1 z16 (p3 + 1) (fun z23 μ19 => mT w μ19 → mF [87007] w μ8 μ19 → ((-2147483648) ≤ z23 ∧ z23 ≤ 2147483647) → ∀ z24 : Int, bAnd z12 z23 = z24 → ((z24 = 0) → ∀ z29 : Int, μ19 87 7 = z29 → ((-2147483648) ≤ z29 ∧ z29 ≤ 2147483647) → ∀ z32 : Int, (-2147483648 ≤ z32 ∧ z32 ≤ 2147483647) → (z32 - (z29 + 1)) % 4294967296 = 0 → ∀ μ35 : mM, mU μ19 87 (7) z32 μ35 → mT w μ35 → ∀ z38 : Int, bOr z12 z23 = z38 → Q z38 μ35) ∧ ((¬ z24 = 0) → ∀ z41 : Int, bAnd z12 z23 = z41 → Q z41 μ19)))) ∧ ((z5 = 0) → WP_X2_tieFor_W w μ p1 p2 (fun z49 _ => ((-99999999) ≤ z49 ∧ z49 ≤ 19) → WP_X2_aimBit_W w μ z49 (fun z54 _ => ((-2147483648) ≤ z54 ∧ z54 ≤ 2147483647) → Q z54 μ))))
def WP_X2_leastBelow_W23 (w : mW) (μ : mM) (p1 : Int) (p2 : Int) (p3 : Int) (Q : Int → mM → Prop) : Prop := WP_X2_isSplit_W w μ p1 p2 p3 (fun z5 _ => (0 ≤ z5 ∧ z5 ≤ 1) → ((¬ z5 = 0) → WP_X2_leastBelow_W24 w μ p1 p2 (p3 + 1) (fun z12 μ8 => mT w μ8 → mF [87007] w μ μ8 → ((-2147483648) ≤ z12 ∧ z12 ≤ 2147483647) → ∀ z13 : Int, bShl (1 : Int) (31 - p3) = z13 → ∀ z16 : Int, bOr p2 z13 = z16 → WP_X2_leastBelow_W24 w μ8 p1 z16 (p3 + 1) (fun z23 μ19 => mT w μ19 → mF [87007] w μ8 μ19 → ((-2147483648) ≤ z23 ∧ z23 ≤ 2147483647) → ∀ z24 : Int, bAnd z12 z23 = z24 → ((z24 = 0) → ∀ z29 : Int, μ19 87 7 = z29 → ((-2147483648) ≤ z29 ∧ z29 ≤ 2147483647) → ∀ z32 : Int, (-2147483648 ≤ z32 ∧ z32 ≤ 2147483647) → (z32 - (z29 + 1)) % 4294967296 = 0 → ∀ μ35 : mM, mU μ19 87 (7) z32 μ35 → mT w μ35 → ∀ z38 : Int, bOr z12 z23 = z38 → Q z38 μ35) ∧ ((¬ z24 = 0) → ∀ z41 : Int, bAnd z12 z23 = z41 → Q z41 μ19)))) ∧ ((z5 = 0) → WP_X2_tieFor_W w μ p1 p2 (fun z49 _ => ((-99999999) ≤ z49 ∧ z49 ≤ 19) → WP_X2_aimBit_W w μ z49 (fun z54 _ => ((-2147483648) ≤ z54 ∧ z54 ≤ 2147483647) → Q z54 μ))))
def WP_X2_leastBelow_W22 (w : mW) (μ : mM) (p1 : Int) (p2 : Int) (p3 : Int) (Q : Int → mM → Prop) : Prop := WP_X2_isSplit_W w μ p1 p2 p3 (fun z5 _ => (0 ≤ z5 ∧ z5 ≤ 1) → ((¬ z5 = 0) → WP_X2_leastBelow_W23 w μ p1 p2 (p3 + 1) (fun z12 μ8 => mT w μ8 → mF [87007] w μ μ8 → ((-2147483648) ≤ z12 ∧ z12 ≤ 2147483647) → ∀ z13 : Int, bShl (1 : Int) (31 - p3) = z13 → ∀ z16 : Int, bOr p2 z13 = z16 → WP_X2_leastBelow_W23 w μ8 p1 z16 (p3 + 1) (fun z23 μ19 => mT w μ19 → mF [87007] w μ8 μ19 → ((-2147483648) ≤ z23 ∧ z23 ≤ 2147483647) → ∀ z24 : Int, bAnd z12 z23 = z24 → ((z24 = 0) → ∀ z29 : Int, μ19 87 7 = z29 → ((-2147483648) ≤ z29 ∧ z29 ≤ 2147483647) → ∀ z32 : Int, (-2147483648 ≤ z32 ∧ z32 ≤ 2147483647) → (z32 - (z29 + 1)) % 4294967296 = 0 → ∀ μ35 : mM, mU μ19 87 (7) z32 μ35 → mT w μ35 → ∀ z38 : Int, bOr z12 z23 = z38 → Q z38 μ35) ∧ ((¬ z24 = 0) → ∀ z41 : Int, bAnd z12 z23 = z41 → Q z41 μ19)))) ∧ ((z5 = 0) → WP_X2_tieFor_W w μ p1 p2 (fun z49 _ => ((-99999999) ≤ z49 ∧ z49 ≤ 19) → WP_X2_aimBit_W w μ z49 (fun z54 _ => ((-2147483648) ≤ z54 ∧ z54 ≤ 2147483647) → Q z54 μ))))
def WP_X2_leastBelow_W21 (w : mW) (μ : mM) (p1 : Int) (p2 : Int) (p3 : Int) (Q : Int → mM → Prop) : Prop := WP_X2_isSplit_W w μ p1 p2 p3 (fun z5 _ => (0 ≤ z5 ∧ z5 ≤ 1) → ((¬ z5 = 0) → WP_X2_leastBelow_W22 w μ p1 p2 (p3 + 1) (fun z12 μ8 => mT w μ8 → mF [87007] w μ μ8 → ((-2147483648) ≤ z12 ∧ z12 ≤ 2147483647) → ∀ z13 : Int, bShl (1 : Int) (31 - p3) = z13 → ∀ z16 : Int, bOr p2 z13 = z16 → WP_X2_leastBelow_W22 w μ8 p1 z16 (p3 + 1) (fun z23 μ19 => mT w μ19 → mF [87007] w μ8 μ19 → ((-2147483648) ≤ z23 ∧ z23 ≤ 2147483647) → ∀ z24 : Int, bAnd z12 z23 = z24 → ((z24 = 0) → ∀ z29 : Int, μ19 87 7 = z29 → ((-2147483648) ≤ z29 ∧ z29 ≤ 2147483647) → ∀ z32 : Int, (-2147483648 ≤ z32 ∧ z32 ≤ 2147483647) → (z32 - (z29 + 1)) % 4294967296 = 0 → ∀ μ35 : mM, mU μ19 87 (7) z32 μ35 → mT w μ35 → ∀ z38 : Int, bOr z12 z23 = z38 → Q z38 μ35) ∧ ((¬ z24 = 0) → ∀ z41 : Int, bAnd z12 z23 = z41 → Q z41 μ19)))) ∧ ((z5 = 0) → WP_X2_tieFor_W w μ p1 p2 (fun z49 _ => ((-99999999) ≤ z49 ∧ z49 ≤ 19) → WP_X2_aimBit_W w μ z49 (fun z54 _ => ((-2147483648) ≤ z54 ∧ z54 ≤ 2147483647) → Q z54 μ))))
def WP_X2_leastBelow_W20 (w : mW) (μ : mM) (p1 : Int) (p2 : Int) (p3 : Int) (Q : Int → mM → Prop) : Prop := WP_X2_isSplit_W w μ p1 p2 p3 (fun z5 _ => (0 ≤ z5 ∧ z5 ≤ 1) → ((¬ z5 = 0) → WP_X2_leastBelow_W21 w μ p1 p2 (p3 + 1) (fun z12 μ8 => mT w μ8 → mF [87007] w μ μ8 → ((-2147483648) ≤ z12 ∧ z12 ≤ 2147483647) → ∀ z13 : Int, bShl (1 : Int) (31 - p3) = z13 → ∀ z16 : Int, bOr p2 z13 = z16 → WP_X2_leastBelow_W21 w μ8 p1 z16 (p3 + 1) (fun z23 μ19 => mT w μ19 → mF [87007] w μ8 μ19 → ((-2147483648) ≤ z23 ∧ z23 ≤ 2147483647) → ∀ z24 : Int, bAnd z12 z23 = z24 → ((z24 = 0) → ∀ z29 : Int, μ19 87 7 = z29 → ((-2147483648) ≤ z29 ∧ z29 ≤ 2147483647) → ∀ z32 : Int, (-2147483648 ≤ z32 ∧ z32 ≤ 2147483647) → (z32 - (z29 + 1)) % 4294967296 = 0 → ∀ μ35 : mM, mU μ19 87 (7) z32 μ35 → mT w μ35 → ∀ z38 : Int, bOr z12 z23 = z38 → Q z38 μ35) ∧ ((¬ z24 = 0) → ∀ z41 : Int, bAnd z12 z23 = z41 → Q z41 μ19)))) ∧ ((z5 = 0) → WP_X2_tieFor_W w μ p1 p2 (fun z49 _ => ((-99999999) ≤ z49 ∧ z49 ≤ 19) → WP_X2_aimBit_W w μ z49 (fun z54 _ => ((-2147483648) ≤ z54 ∧ z54 ≤ 2147483647) → Q z54 μ))))
