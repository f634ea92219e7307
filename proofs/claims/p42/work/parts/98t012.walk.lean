theorem vc_X11_walk_w_1 {p1 : Int} (h0 : p1 < (-1)) (h1 : (-2147483648) ≤ p1 ∧ p1 ≤ 2147483647) : (-2147483648) ≤ p1 ∧ p1 ≤ (-2) := by omega
theorem vc_X11_walk_w_2 {f_q p1 : Int} (h0 : p1 < (-1)) (h1 : 0 ≤ f_q ∧ f_q ≤ 20) (h2 : (-2147483648) ≤ p1 ∧ p1 ≤ (-2)) : p1 < -1 ∨ 9 < p1 → (-1 : Int) = -1 ∧ f_q = f_q := by omega
theorem vc_X11_walk_w_3 {f_q p1 : Int} (h0 : p1 < (-1)) (h1 : 0 ≤ f_q ∧ f_q ≤ 20) (h2 : (-2147483648) ≤ p1 ∧ p1 ≤ (-2)) : p1 = -1 → (-1 : Int) = 0 ∧ f_q = 0 := by omega
theorem vc_X11_walk_w_4 {f_q p1 : Int} (h0 : p1 < (-1)) (h1 : 0 ≤ f_q ∧ f_q ≤ 20) (h2 : (-2147483648) ≤ p1 ∧ p1 ≤ (-2)) : 0 ≤ p1 → p1 ≤ 9 → f_q = 20 → (-1 : Int) = -3 ∧ f_q = f_q := by omega
theorem vc_X11_walk_w_5 {f_q p1 : Int} (h0 : p1 < (-1)) (h1 : 0 ≤ f_q ∧ f_q ≤ 20) (h2 : (-2147483648) ≤ p1 ∧ p1 ≤ (-2)) : 0 ≤ p1 → p1 ≤ 9 → f_q < 20 → (-1 : Int) = f_q + 1 ∧ f_q = f_q + 1 := by omega
theorem vc_X11_walk_w_6 {f_q : Int} (h0 : 0 ≤ f_q ∧ f_q ≤ 20) : ¬ f_q = f_q + 1 := by omega
theorem vc_X11_walk_w_7 {p1 : Int} (h0 : (-1) ≤ p1) (h1 : (-2147483648) ≤ p1 ∧ p1 ≤ 2147483647) : (-1) ≤ p1 ∧ p1 ≤ 2147483647 := by omega
theorem vc_X11_walk_w_8 {p1 : Int} (h0 : p1 < 10) (h1 : (-1) ≤ p1) (h2 : (-1) ≤ p1 ∧ p1 ≤ 2147483647) : (-1) ≤ p1 ∧ p1 ≤ 9 := by omega
theorem vc_X11_walk_w_9 {p1 : Int} (h0 : ¬ p1 = (-1)) (h1 : (-1) ≤ p1) (h2 : p1 < 10) (h3 : (-1) ≤ p1 ∧ p1 ≤ 9) : 0 ≤ p1 ∧ p1 ≤ 9 := by omega
theorem vc_X11_walk_w_11 {f_q p1 : Int} (h0 : (-1) ≤ p1) (h1 : p1 < 10) (h2 : ¬ p1 = (-1)) (h3 : f_q < 20) (h4 : 0 ≤ f_q ∧ f_q ≤ 19) (h5 : 0 ≤ p1 ∧ p1 ≤ 9) : p1 < -1 ∨ 9 < p1 → (f_q + 1) = -1 ∧ (f_q + 1) = f_q := by omega
theorem vc_X11_walk_w_12 {f_q p1 : Int} (h0 : (-1) ≤ p1) (h1 : p1 < 10) (h2 : ¬ p1 = (-1)) (h3 : f_q < 20) (h4 : 0 ≤ f_q ∧ f_q ≤ 19) (h5 : 0 ≤ p1 ∧ p1 ≤ 9) : p1 = -1 → (f_q + 1) = 0 ∧ (f_q + 1) = 0 := by omega
theorem vc_X11_walk_w_13 {f_q p1 : Int} (h0 : (-1) ≤ p1) (h1 : p1 < 10) (h2 : ¬ p1 = (-1)) (h3 : f_q < 20) (h4 : 0 ≤ f_q ∧ f_q ≤ 19) (h5 : 0 ≤ p1 ∧ p1 ≤ 9) : 0 ≤ p1 → p1 ≤ 9 → f_q = 20 → (f_q + 1) = -3 ∧ (f_q + 1) = f_q := by omega
theorem vc_X11_walk_w_14 {f_q p1 : Int} (h0 : (-1) ≤ p1) (h1 : p1 < 10) (h2 : ¬ p1 = (-1)) (h3 : f_q < 20) (h4 : 0 ≤ f_q ∧ f_q ≤ 19) (h5 : 0 ≤ p1 ∧ p1 ≤ 9) : 0 ≤ p1 → p1 ≤ 9 → f_q < 20 → (f_q + 1) = f_q + 1 ∧ (f_q + 1) = f_q + 1 := by omega
theorem vc_X11_walk_w_15 {f_q : Int} (h0 : f_q < 20) (h1 : 0 ≤ f_q ∧ f_q ≤ 19) : f_q ≤ f_q := by omega
theorem vc_X11_walk_w_16 {p1 : Int} (h0 : (-1) ≤ p1) (h1 : p1 < 10) (h2 : ¬ p1 = (-1)) (h3 : 0 ≤ p1 ∧ p1 ≤ 9) : p1 = p1 := by omega
theorem vc_X11_walk_w_18 {f_q p1 : Int} (h0 : (-1) ≤ p1) (h1 : p1 < 10) (h2 : ¬ p1 = (-1)) (h3 : 20 ≤ f_q) (h4 : 20 ≤ f_q ∧ f_q ≤ 20) (h5 : 0 ≤ p1 ∧ p1 ≤ 9) : p1 < -1 ∨ 9 < p1 → (-3 : Int) = -1 ∧ f_q = f_q := by omega
theorem vc_X11_walk_w_19 {f_q p1 : Int} (h0 : (-1) ≤ p1) (h1 : p1 < 10) (h2 : ¬ p1 = (-1)) (h3 : 20 ≤ f_q) (h4 : 20 ≤ f_q ∧ f_q ≤ 20) (h5 : 0 ≤ p1 ∧ p1 ≤ 9) : p1 = -1 → (-3 : Int) = 0 ∧ f_q = 0 := by omega
theorem vc_X11_walk_w_20 {f_q p1 : Int} (h0 : (-1) ≤ p1) (h1 : p1 < 10) (h2 : ¬ p1 = (-1)) (h3 : 20 ≤ f_q) (h4 : 20 ≤ f_q ∧ f_q ≤ 20) (h5 : 0 ≤ p1 ∧ p1 ≤ 9) : 0 ≤ p1 → p1 ≤ 9 → f_q = 20 → (-3 : Int) = -3 ∧ f_q = f_q := by omega
theorem vc_X11_walk_w_21 {f_q p1 : Int} (h0 : (-1) ≤ p1) (h1 : p1 < 10) (h2 : ¬ p1 = (-1)) (h3 : 20 ≤ f_q) (h4 : 20 ≤ f_q ∧ f_q ≤ 20) (h5 : 0 ≤ p1 ∧ p1 ≤ 9) : 0 ≤ p1 → p1 ≤ 9 → f_q < 20 → (-3 : Int) = f_q + 1 ∧ f_q = f_q + 1 := by omega
theorem vc_X11_walk_w_22 {f_q : Int} (h0 : 20 ≤ f_q) (h1 : 20 ≤ f_q ∧ f_q ≤ 20) : ¬ f_q = f_q + 1 := by omega
theorem vc_X11_walk_w_23 {p1 : Int} (h0 : p1 = (-1)) (h1 : (-1) ≤ p1) (h2 : p1 < 10) (h3 : (-1) ≤ p1 ∧ p1 ≤ 9) : (-1) ≤ p1 ∧ p1 ≤ (-1) := by omega
theorem vc_X11_walk_w_24 {f_q p1 : Int} (h0 : (-1) ≤ p1) (h1 : p1 < 10) (h2 : p1 = (-1)) (h3 : 0 ≤ f_q ∧ f_q ≤ 20) (h4 : (-1) ≤ p1 ∧ p1 ≤ (-1)) : p1 < -1 ∨ 9 < p1 → (0 : Int) = -1 ∧ (0 : Int) = f_q := by omega
theorem vc_X11_walk_w_25 {p1 : Int} (h0 : (-1) ≤ p1) (h1 : p1 < 10) (h2 : p1 = (-1)) (h3 : (-1) ≤ p1 ∧ p1 ≤ (-1)) : p1 = -1 → (0 : Int) = 0 ∧ (0 : Int) = 0 := by omega
theorem vc_X11_walk_w_26 {f_q p1 : Int} (h0 : (-1) ≤ p1) (h1 : p1 < 10) (h2 : p1 = (-1)) (h3 : 0 ≤ f_q ∧ f_q ≤ 20) (h4 : (-1) ≤ p1 ∧ p1 ≤ (-1)) : 0 ≤ p1 → p1 ≤ 9 → f_q = 20 → (0 : Int) = -3 ∧ (0 : Int) = f_q := by omega
theorem vc_X11_walk_w_27 {f_q p1 : Int} (h0 : (-1) ≤ p1) (h1 : p1 < 10) (h2 : p1 = (-1)) (h3 : 0 ≤ f_q ∧ f_q ≤ 20) (h4 : (-1) ≤ p1 ∧ p1 ≤ (-1)) : 0 ≤ p1 → p1 ≤ 9 → f_q < 20 → (0 : Int) = f_q + 1 ∧ (0 : Int) = f_q + 1 := by omega
theorem vc_X11_walk_w_28 {f_q : Int} (h0 : 0 ≤ f_q ∧ f_q ≤ 20) : ¬ (0 : Int) = f_q + 1 := by omega
theorem vc_X11_walk_w_29 {p1 : Int} (h0 : 10 ≤ p1) (h1 : (-1) ≤ p1) (h2 : (-1) ≤ p1 ∧ p1 ≤ 2147483647) : 10 ≤ p1 ∧ p1 ≤ 2147483647 := by omega
theorem vc_X11_walk_w_30 {f_q p1 : Int} (h0 : (-1) ≤ p1) (h1 : 10 ≤ p1) (h2 : 0 ≤ f_q ∧ f_q ≤ 20) (h3 : 10 ≤ p1 ∧ p1 ≤ 2147483647) : p1 < -1 ∨ 9 < p1 → (-1 : Int) = -1 ∧ f_q = f_q := by omega
theorem vc_X11_walk_w_31 {f_q p1 : Int} (h0 : (-1) ≤ p1) (h1 : 10 ≤ p1) (h2 : 0 ≤ f_q ∧ f_q ≤ 20) (h3 : 10 ≤ p1 ∧ p1 ≤ 2147483647) : p1 = -1 → (-1 : Int) = 0 ∧ f_q = 0 := by omega
theorem vc_X11_walk_w_32 {f_q p1 : Int} (h0 : (-1) ≤ p1) (h1 : 10 ≤ p1) (h2 : 0 ≤ f_q ∧ f_q ≤ 20) (h3 : 10 ≤ p1 ∧ p1 ≤ 2147483647) : 0 ≤ p1 → p1 ≤ 9 → f_q = 20 → (-1 : Int) = -3 ∧ f_q = f_q := by omega
theorem vc_X11_walk_w_33 {f_q p1 : Int} (h0 : (-1) ≤ p1) (h1 : 10 ≤ p1) (h2 : 0 ≤ f_q ∧ f_q ≤ 20) (h3 : 10 ≤ p1 ∧ p1 ≤ 2147483647) : 0 ≤ p1 → p1 ≤ 9 → f_q < 20 → (-1 : Int) = f_q + 1 ∧ f_q = f_q + 1 := by omega
theorem c_X11_walk_w {l : Launch} {D : va_G} {c : Nat → ClassId} {H0 : Heap} {sa : Nat × Nat × (Nat → Int32)} {w : mW} {μ : mM} (hw : mWF w) (hT : mT w μ) {p1 : Int} (hp1 : (-2147483648) ≤ p1 ∧ p1 ≤ 2147483647) {f_q : Int} (q_f_q : μ 0 11 = f_q) : sC (gG l D c H0 sa) mX11_walk 1 0 0 [.ref 0, iv p1] (mk w μ) (qI w [11, 2999] μ (fun z μ1 => ∃ o_q : Int, μ1 0 11 = o_q ∧ ((-2147483648) ≤ z ∧ z ≤ 2147483647) ∧ (p1 < -1 ∨ 9 < p1 → z = -1 ∧ o_q = f_q) ∧ (p1 = -1 → z = 0 ∧ o_q = 0) ∧ (0 ≤ p1 → p1 ≤ 9 → f_q = 20 → z = -3 ∧ o_q = f_q) ∧ (0 ≤ p1 → p1 ≤ 9 → f_q < 20 → z = f_q + 1 ∧ o_q = f_q + 1) ∧ (wkT μ μ1 2 f_q o_q p1) ∧ True)) := by
  refine sC.of rfl (by decide) (le_t rfl) ?_
  have ht_f_q : (0 ≤ f_q ∧ f_q ≤ 20) := by rw [← q_f_q]; exact hT 0 0 (A_0 hw) 11
  refine mr_lvE (lv' := [(0, .ref 0), (1, iv p1)]) rfl ?_
  refine mr_iload_n (pc := 0) (z := p1) dX11_walk_0 rfl rfl ?_
  refine mr_iconst (pc := 1) (z := (-1)) dX11_walk_1 ?_
  refine mr_icmp_lt (pc := 2) (tgt := 11) dX11_walk_2 (by decide) hp1 (r32 (rR (x := (-1))) rfl) (fun h52 => ?_) (fun h52 => ?_)
  · have h53 : (-2147483648) ≤ p1 ∧ p1 ≤ (-2) := (vc_X11_walk_w_1 h52 hp1)
    refine mr_iconst (pc := 11) (z := (-1)) dX11_walk_11 ?_
    exact mr_iret dX11_walk_12 rfl (le_t rfl) (le_t rfl) hT mF.refl ⟨f_q, q_f_q, (rW (c := (-2147483648)) (d := 2147483647) (rR (x := (-1))) rfl), (vc_X11_walk_w_2 h52 ht_f_q h53), (vc_X11_walk_w_3 h52 ht_f_q h53), (vc_X11_walk_w_4 h52 ht_f_q h53), (vc_X11_walk_w_5 h52 ht_f_q h53), ⟨tabS.refl, fun h => absurd h (vc_X11_walk_w_6 ht_f_q)⟩, trivial⟩
  have h54 : (-1) ≤ p1 ∧ p1 ≤ 2147483647 := (vc_X11_walk_w_7 h52 hp1)
  refine mr_iload_n (pc := 5) (z := p1) dX11_walk_5 rfl rfl ?_
  refine mr_bipush (pc := 6) (z := 10) dX11_walk_6 (by decide) ?_
  refine mr_icmp_lt (pc := 8) (tgt := 13) dX11_walk_8 (by decide) (r32 h54 rfl) (r32 (rR (x := 10)) rfl) (fun h55 => ?_) (fun h55 => ?_)
  · have h56 : (-1) ≤ p1 ∧ p1 ≤ 9 := (vc_X11_walk_w_8 h55 h52 h54)
    refine mr_iload_n (pc := 13) (z := p1) dX11_walk_13 rfl rfl ?_
    refine mr_iconst (pc := 14) (z := (-1)) dX11_walk_14 ?_
    refine mr_icmp_ne (pc := 15) (tgt := 25) dX11_walk_15 (by decide) (r32 h56 rfl) (r32 (rR (x := (-1))) rfl) (fun h57 => ?_) (fun h57 => ?_)
    · have h58 : 0 ≤ p1 ∧ p1 ≤ 9 := (vc_X11_walk_w_9 h57 h52 h55 h56)
      refine sv_aload_n (pc := 25) dX11_walk_25 rfl rfl ?_
      refine gk_X11_11 (pc := 26) dX11_walk_26 wF_X11_169 (A_0 hw) q_f_q ?_
      refine mr_bipush (pc := 29) (z := 20) dX11_walk_29 (by decide) ?_
      refine mr_icmp_lt (pc := 31) (tgt := 37) dX11_walk_31 (by decide) (r32 ht_f_q rfl) (r32 (rR (x := 20)) rfl) (fun h59 => ?_) (fun h59 => ?_)
      · have h60 : 0 ≤ f_q ∧ f_q ≤ 19 := (vc_X12_feed_4 h59 ht_f_q)
        refine sv_aload_n (pc := 37) dX11_walk_37 rfl rfl ?_
        refine gf_X11_1 (pc := 38) dX11_walk_38 wF_X11_13 (A_0 hw) hT ?_
        refine sv_aload_n (pc := 41) dX11_walk_41 rfl rfl ?_
        refine gk_X11_11 (pc := 42) dX11_walk_42 wF_X11_169 (A_0 hw) q_f_q ?_
        refine mr_iload_n (pc := 45) (z := p1) dX11_walk_45 rfl rfl ?_
        refine ss_2 (pc := 46) dX11_walk_46 (A_2 hw) hT (rIx (n := 20) h60 rfl) h58 fun μ61 u62 T63 => ?_
        refine sv_aload_n (pc := 47) dX11_walk_47 rfl rfl ?_
        refine sv_dup (pc := 48) dX11_walk_48 rfl ?_
        refine gk_X11_11 (pc := 49) dX11_walk_49 wF_X11_169 (A_0 hw) (u62.f (Or.inl (mAt.ne (A_2 hw) (A_0 hw) rfl)) q_f_q) ?_
        refine mr_iconst (pc := 52) (z := 1) dX11_walk_52 ?_
        refine mr_iadd (pc := 53) (x := f_q) (y := 1) dX11_walk_53 ?_
        refine pf_X11_11 (pc := 54) dX11_walk_54 wF_X11_169 (A_0 hw) T63 (rW (c := 0) (d := 20) (rAdd (e := 1) (f := 20) h60 (rR (x := 1)) rfl) rfl) fun μ64 u65 T66 => ?_
        refine sv_aload_n (pc := 57) dX11_walk_57 rfl rfl ?_
        refine gk_X11_11 (pc := 58) dX11_walk_58 wF_X11_169 (A_0 hw) u65.1 ?_
        exact mr_iret dX11_walk_61 rfl (le_t rfl) (le_t rfl) T66 (mF.up (mF.up mF.refl (A_2 hw) u62 rfl) (A_0 hw) u65 rfl) ⟨(f_q + 1), u65.1, (rW (c := (-2147483648)) (d := 2147483647) (rAdd (e := 1) (f := 20) h60 (rR (x := 1)) rfl) rfl), (vc_X11_walk_w_11 h52 h55 h57 h59 h60 h58), (vc_X11_walk_w_12 h52 h55 h57 h59 h60 h58), (vc_X11_walk_w_13 h52 h55 h57 h59 h60 h58), (vc_X11_walk_w_14 h52 h55 h57 h59 h60 h58), ⟨(tabS.oth (tabS.up tabS.refl u62 (vc_X11_walk_w_15 h59 h60)) u65 rfl), fun _ => (u65.f (Or.inl (mAt.ne (A_0 hw) (A_2 hw) rfl)) u62.1).trans (vc_X11_walk_w_16 h52 h55 h57 h58)⟩, trivial⟩
      have h67 : 20 ≤ f_q ∧ f_q ≤ 20 := (vc_X12_feed_3 h59 ht_f_q)
      refine mr_bipush (pc := 34) (z := (-3)) dX11_walk_34 (by decide) ?_
      exact mr_iret dX11_walk_36 rfl (le_t rfl) (le_t rfl) hT mF.refl ⟨f_q, q_f_q, (rW (c := (-2147483648)) (d := 2147483647) (rR (x := (-3))) rfl), (vc_X11_walk_w_18 h52 h55 h57 h59 h67 h58), (vc_X11_walk_w_19 h52 h55 h57 h59 h67 h58), (vc_X11_walk_w_20 h52 h55 h57 h59 h67 h58), (vc_X11_walk_w_21 h52 h55 h57 h59 h67 h58), ⟨tabS.refl, fun h => absurd h (vc_X11_walk_w_22 h59 h67)⟩, trivial⟩
    have h68 : (-1) ≤ p1 ∧ p1 ≤ (-1) := (vc_X11_walk_w_23 h57 h52 h55 h56)
    refine sv_aload_n (pc := 18) dX11_walk_18 rfl rfl ?_
    refine mr_iconst (pc := 19) (z := 0) dX11_walk_19 ?_
    refine pf_X11_11 (pc := 20) dX11_walk_20 wF_X11_169 (A_0 hw) hT (rW (c := 0) (d := 20) (rR (x := 0)) rfl) fun μ69 u70 T71 => ?_
    refine mr_iconst (pc := 23) (z := 0) dX11_walk_23 ?_
    exact mr_iret dX11_walk_24 rfl (le_t rfl) (le_t rfl) T71 (mF.up mF.refl (A_0 hw) u70 rfl) ⟨0, u70.1, (rW (c := (-2147483648)) (d := 2147483647) (rR (x := 0)) rfl), (vc_X11_walk_w_24 h52 h55 h57 ht_f_q h68), (vc_X11_walk_w_25 h52 h55 h57 h68), (vc_X11_walk_w_26 h52 h55 h57 ht_f_q h68), (vc_X11_walk_w_27 h52 h55 h57 ht_f_q h68), ⟨(tabS.oth tabS.refl u70 rfl), fun h => absurd h (vc_X11_walk_w_28 ht_f_q)⟩, trivial⟩
  have h72 : 10 ≤ p1 ∧ p1 ≤ 2147483647 := (vc_X11_walk_w_29 h55 h52 h54)
  refine mr_iconst (pc := 11) (z := (-1)) dX11_walk_11 ?_
  exact mr_iret dX11_walk_12 rfl (le_t rfl) (le_t rfl) hT mF.refl ⟨f_q, q_f_q, (rW (c := (-2147483648)) (d := 2147483647) (rR (x := (-1))) rfl), (vc_X11_walk_w_30 h52 h55 ht_f_q h72), (vc_X11_walk_w_31 h52 h55 ht_f_q h72), (vc_X11_walk_w_32 h52 h55 ht_f_q h72), (vc_X11_walk_w_33 h52 h55 ht_f_q h72), ⟨tabS.refl, fun h => absurd h (vc_X11_walk_w_6 ht_f_q)⟩, trivial⟩
theorem vc_X12_walk_w_1 {p1 z74 : Int} (h0 : ¬ z74 = 0) (h1 : (z74 = 1 → ((-1) : Int) ≤ p1 ∧ p1 ≤ (9 : Int))) (h2 : (z74 = 0 → p1 < ((-1) : Int) ∨ (9 : Int) < p1)) (h3 : (-2147483648) ≤ p1 ∧ p1 ≤ 2147483647) (h4 : 0 ≤ z74 ∧ z74 ≤ 1) : 1 ≤ z74 ∧ z74 ≤ 1 := by omega
theorem vc_X12_walk_w_2 {p1 z74 : Int} (h0 : (z74 = 1 → ((-1) : Int) ≤ p1 ∧ p1 ≤ (9 : Int))) (h1 : (z74 = 0 → p1 < ((-1) : Int) ∨ (9 : Int) < p1)) (h2 : ¬ z74 = 0) (h3 : (-2147483648) ≤ p1 ∧ p1 ≤ 2147483647) (h4 : 1 ≤ z74 ∧ z74 ≤ 1) : z74 = 1 := by omega
theorem vc_X12_walk_w_3 {p1 z74 : Int} (h0 : ((-1) : Int) ≤ p1 ∧ p1 ≤ (9 : Int)) (h1 : (z74 = 1 → ((-1) : Int) ≤ p1 ∧ p1 ≤ (9 : Int))) (h2 : (z74 = 0 → p1 < ((-1) : Int) ∨ (9 : Int) < p1)) (h3 : (-2147483648) ≤ p1 ∧ p1 ≤ 2147483647) (h4 : 1 ≤ z74 ∧ z74 ≤ 1) : (-1) ≤ p1 ∧ p1 ≤ 9 := by omega
theorem vc_X12_walk_w_4 {p1 z74 : Int} (h0 : ¬ p1 = (-1)) (h1 : (z74 = 1 → ((-1) : Int) ≤ p1 ∧ p1 ≤ (9 : Int))) (h2 : (z74 = 0 → p1 < ((-1) : Int) ∨ (9 : Int) < p1)) (h3 : ((-1) : Int) ≤ p1 ∧ p1 ≤ (9 : Int)) (h4 : (-1) ≤ p1 ∧ p1 ≤ 9) (h5 : 1 ≤ z74 ∧ z74 ≤ 1) : 0 ≤ p1 ∧ p1 ≤ 9 := by omega
theorem vc_X12_walk_w_6 {f_q p1 z74 : Int} (h0 : (z74 = 1 → ((-1) : Int) ≤ p1 ∧ p1 ≤ (9 : Int))) (h1 : (z74 = 0 → p1 < ((-1) : Int) ∨ (9 : Int) < p1)) (h2 : ((-1) : Int) ≤ p1 ∧ p1 ≤ (9 : Int)) (h3 : ¬ p1 = (-1)) (h4 : ¬ f_q = 20) (h5 : ¬ z74 = 0) (h6 : 0 ≤ f_q ∧ f_q ≤ 19) (h7 : 0 ≤ p1 ∧ p1 ≤ 9) (h8 : 1 ≤ z74 ∧ z74 ≤ 1) : p1 < -1 ∨ 9 < p1 → (f_q + 1) = -1 ∧ (f_q + 1) = f_q := by omega
theorem vc_X12_walk_w_7 {f_q p1 z74 : Int} (h0 : (z74 = 1 → ((-1) : Int) ≤ p1 ∧ p1 ≤ (9 : Int))) (h1 : (z74 = 0 → p1 < ((-1) : Int) ∨ (9 : Int) < p1)) (h2 : ((-1) : Int) ≤ p1 ∧ p1 ≤ (9 : Int)) (h3 : ¬ p1 = (-1)) (h4 : ¬ f_q = 20) (h5 : ¬ z74 = 0) (h6 : 0 ≤ f_q ∧ f_q ≤ 19) (h7 : 0 ≤ p1 ∧ p1 ≤ 9) (h8 : 1 ≤ z74 ∧ z74 ≤ 1) : p1 = -1 → (f_q + 1) = 0 ∧ (f_q + 1) = 0 := by omega
theorem vc_X12_walk_w_8 {f_q p1 z74 : Int} (h0 : (z74 = 1 → ((-1) : Int) ≤ p1 ∧ p1 ≤ (9 : Int))) (h1 : (z74 = 0 → p1 < ((-1) : Int) ∨ (9 : Int) < p1)) (h2 : ((-1) : Int) ≤ p1 ∧ p1 ≤ (9 : Int)) (h3 : ¬ p1 = (-1)) (h4 : ¬ f_q = 20) (h5 : ¬ z74 = 0) (h6 : 0 ≤ f_q ∧ f_q ≤ 19) (h7 : 0 ≤ p1 ∧ p1 ≤ 9) (h8 : 1 ≤ z74 ∧ z74 ≤ 1) : 0 ≤ p1 → p1 ≤ 9 → f_q = 20 → (f_q + 1) = -3 ∧ (f_q + 1) = f_q := by omega
theorem vc_X12_walk_w_9 {f_q p1 z74 : Int} (h0 : (z74 = 1 → ((-1) : Int) ≤ p1 ∧ p1 ≤ (9 : Int))) (h1 : (z74 = 0 → p1 < ((-1) : Int) ∨ (9 : Int) < p1)) (h2 : ((-1) : Int) ≤ p1 ∧ p1 ≤ (9 : Int)) (h3 : ¬ p1 = (-1)) (h4 : ¬ f_q = 20) (h5 : ¬ z74 = 0) (h6 : 0 ≤ f_q ∧ f_q ≤ 19) (h7 : 0 ≤ p1 ∧ p1 ≤ 9) (h8 : 1 ≤ z74 ∧ z74 ≤ 1) : 0 ≤ p1 → p1 ≤ 9 → f_q < 20 → (f_q + 1) = f_q + 1 ∧ (f_q + 1) = f_q + 1 := by omega
theorem vc_X12_walk_w_10 {f_q : Int} (h0 : ¬ f_q = 20) (h1 : 0 ≤ f_q ∧ f_q ≤ 19) : f_q ≤ f_q := by omega
theorem vc_X12_walk_w_11 {p1 z74 : Int} (h0 : (z74 = 1 → ((-1) : Int) ≤ p1 ∧ p1 ≤ (9 : Int))) (h1 : (z74 = 0 → p1 < ((-1) : Int) ∨ (9 : Int) < p1)) (h2 : ((-1) : Int) ≤ p1 ∧ p1 ≤ (9 : Int)) (h3 : ¬ p1 = (-1)) (h4 : ¬ z74 = 0) (h5 : 0 ≤ p1 ∧ p1 ≤ 9) (h6 : 1 ≤ z74 ∧ z74 ≤ 1) : p1 = p1 := by omega
theorem vc_X12_walk_w_13 {f_q p1 z74 : Int} (h0 : (z74 = 1 → ((-1) : Int) ≤ p1 ∧ p1 ≤ (9 : Int))) (h1 : (z74 = 0 → p1 < ((-1) : Int) ∨ (9 : Int) < p1)) (h2 : ((-1) : Int) ≤ p1 ∧ p1 ≤ (9 : Int)) (h3 : ¬ p1 = (-1)) (h4 : f_q = 20) (h5 : ¬ z74 = 0) (h6 : 20 ≤ f_q ∧ f_q ≤ 20) (h7 : 0 ≤ p1 ∧ p1 ≤ 9) (h8 : 1 ≤ z74 ∧ z74 ≤ 1) : p1 < -1 ∨ 9 < p1 → (-3 : Int) = -1 ∧ f_q = f_q := by omega
theorem vc_X12_walk_w_14 {f_q p1 z74 : Int} (h0 : (z74 = 1 → ((-1) : Int) ≤ p1 ∧ p1 ≤ (9 : Int))) (h1 : (z74 = 0 → p1 < ((-1) : Int) ∨ (9 : Int) < p1)) (h2 : ((-1) : Int) ≤ p1 ∧ p1 ≤ (9 : Int)) (h3 : ¬ p1 = (-1)) (h4 : f_q = 20) (h5 : ¬ z74 = 0) (h6 : 20 ≤ f_q ∧ f_q ≤ 20) (h7 : 0 ≤ p1 ∧ p1 ≤ 9) (h8 : 1 ≤ z74 ∧ z74 ≤ 1) : p1 = -1 → (-3 : Int) = 0 ∧ f_q = 0 := by omega
theorem vc_X12_walk_w_15 {f_q p1 z74 : Int} (h0 : (z74 = 1 → ((-1) : Int) ≤ p1 ∧ p1 ≤ (9 : Int))) (h1 : (z74 = 0 → p1 < ((-1) : Int) ∨ (9 : Int) < p1)) (h2 : ((-1) : Int) ≤ p1 ∧ p1 ≤ (9 : Int)) (h3 : ¬ p1 = (-1)) (h4 : f_q = 20) (h5 : ¬ z74 = 0) (h6 : 20 ≤ f_q ∧ f_q ≤ 20) (h7 : 0 ≤ p1 ∧ p1 ≤ 9) (h8 : 1 ≤ z74 ∧ z74 ≤ 1) : 0 ≤ p1 → p1 ≤ 9 → f_q = 20 → (-3 : Int) = -3 ∧ f_q = f_q := by omega
theorem vc_X12_walk_w_16 {f_q p1 z74 : Int} (h0 : (z74 = 1 → ((-1) : Int) ≤ p1 ∧ p1 ≤ (9 : Int))) (h1 : (z74 = 0 → p1 < ((-1) : Int) ∨ (9 : Int) < p1)) (h2 : ((-1) : Int) ≤ p1 ∧ p1 ≤ (9 : Int)) (h3 : ¬ p1 = (-1)) (h4 : f_q = 20) (h5 : ¬ z74 = 0) (h6 : 20 ≤ f_q ∧ f_q ≤ 20) (h7 : 0 ≤ p1 ∧ p1 ≤ 9) (h8 : 1 ≤ z74 ∧ z74 ≤ 1) : 0 ≤ p1 → p1 ≤ 9 → f_q < 20 → (-3 : Int) = f_q + 1 ∧ f_q = f_q + 1 := by omega
theorem vc_X12_walk_w_17 {f_q : Int} (h0 : f_q = 20) (h1 : 20 ≤ f_q ∧ f_q ≤ 20) : ¬ f_q = f_q + 1 := by omega
theorem vc_X12_walk_w_18 {p1 z74 : Int} (h0 : p1 = (-1)) (h1 : (z74 = 1 → ((-1) : Int) ≤ p1 ∧ p1 ≤ (9 : Int))) (h2 : (z74 = 0 → p1 < ((-1) : Int) ∨ (9 : Int) < p1)) (h3 : ((-1) : Int) ≤ p1 ∧ p1 ≤ (9 : Int)) (h4 : (-1) ≤ p1 ∧ p1 ≤ 9) (h5 : 1 ≤ z74 ∧ z74 ≤ 1) : (-1) ≤ p1 ∧ p1 ≤ (-1) := by omega
theorem vc_X12_walk_w_19 {f_q p1 z74 : Int} (h0 : (z74 = 1 → ((-1) : Int) ≤ p1 ∧ p1 ≤ (9 : Int))) (h1 : (z74 = 0 → p1 < ((-1) : Int) ∨ (9 : Int) < p1)) (h2 : ((-1) : Int) ≤ p1 ∧ p1 ≤ (9 : Int)) (h3 : p1 = (-1)) (h4 : ¬ z74 = 0) (h5 : 0 ≤ f_q ∧ f_q ≤ 20) (h6 : (-1) ≤ p1 ∧ p1 ≤ (-1)) (h7 : 1 ≤ z74 ∧ z74 ≤ 1) : p1 < -1 ∨ 9 < p1 → (0 : Int) = -1 ∧ (0 : Int) = f_q := by omega
theorem vc_X12_walk_w_20 {p1 z74 : Int} (h0 : (z74 = 1 → ((-1) : Int) ≤ p1 ∧ p1 ≤ (9 : Int))) (h1 : (z74 = 0 → p1 < ((-1) : Int) ∨ (9 : Int) < p1)) (h2 : ((-1) : Int) ≤ p1 ∧ p1 ≤ (9 : Int)) (h3 : p1 = (-1)) (h4 : ¬ z74 = 0) (h5 : (-1) ≤ p1 ∧ p1 ≤ (-1)) (h6 : 1 ≤ z74 ∧ z74 ≤ 1) : p1 = -1 → (0 : Int) = 0 ∧ (0 : Int) = 0 := by omega
theorem vc_X12_walk_w_21 {f_q p1 z74 : Int} (h0 : (z74 = 1 → ((-1) : Int) ≤ p1 ∧ p1 ≤ (9 : Int))) (h1 : (z74 = 0 → p1 < ((-1) : Int) ∨ (9 : Int) < p1)) (h2 : ((-1) : Int) ≤ p1 ∧ p1 ≤ (9 : Int)) (h3 : p1 = (-1)) (h4 : ¬ z74 = 0) (h5 : 0 ≤ f_q ∧ f_q ≤ 20) (h6 : (-1) ≤ p1 ∧ p1 ≤ (-1)) (h7 : 1 ≤ z74 ∧ z74 ≤ 1) : 0 ≤ p1 → p1 ≤ 9 → f_q = 20 → (0 : Int) = -3 ∧ (0 : Int) = f_q := by omega
theorem vc_X12_walk_w_22 {f_q p1 z74 : Int} (h0 : (z74 = 1 → ((-1) : Int) ≤ p1 ∧ p1 ≤ (9 : Int))) (h1 : (z74 = 0 → p1 < ((-1) : Int) ∨ (9 : Int) < p1)) (h2 : ((-1) : Int) ≤ p1 ∧ p1 ≤ (9 : Int)) (h3 : p1 = (-1)) (h4 : ¬ z74 = 0) (h5 : 0 ≤ f_q ∧ f_q ≤ 20) (h6 : (-1) ≤ p1 ∧ p1 ≤ (-1)) (h7 : 1 ≤ z74 ∧ z74 ≤ 1) : 0 ≤ p1 → p1 ≤ 9 → f_q < 20 → (0 : Int) = f_q + 1 ∧ (0 : Int) = f_q + 1 := by omega
theorem vc_X12_walk_w_24 {p1 z74 : Int} (h0 : z74 = 0) (h1 : (z74 = 1 → ((-1) : Int) ≤ p1 ∧ p1 ≤ (9 : Int))) (h2 : (z74 = 0 → p1 < ((-1) : Int) ∨ (9 : Int) < p1)) (h3 : (-2147483648) ≤ p1 ∧ p1 ≤ 2147483647) (h4 : 0 ≤ z74 ∧ z74 ≤ 1) : 0 ≤ z74 ∧ z74 ≤ 0 := by omega
theorem vc_X12_walk_w_25 {p1 z74 : Int} (h0 : (z74 = 1 → ((-1) : Int) ≤ p1 ∧ p1 ≤ (9 : Int))) (h1 : (z74 = 0 → p1 < ((-1) : Int) ∨ (9 : Int) < p1)) (h2 : z74 = 0) (h3 : (-2147483648) ≤ p1 ∧ p1 ≤ 2147483647) (h4 : 0 ≤ z74 ∧ z74 ≤ 0) : z74 = 0 := by omega
theorem vc_X12_walk_w_26 {f_q p1 z74 : Int} (h0 : (z74 = 1 → ((-1) : Int) ≤ p1 ∧ p1 ≤ (9 : Int))) (h1 : (z74 = 0 → p1 < ((-1) : Int) ∨ (9 : Int) < p1)) (h2 : p1 < ((-1) : Int) ∨ (9 : Int) < p1) (h3 : z74 = 0) (h4 : 0 ≤ f_q ∧ f_q ≤ 20) (h5 : (-2147483648) ≤ p1 ∧ p1 ≤ 2147483647) (h6 : 0 ≤ z74 ∧ z74 ≤ 0) : p1 < -1 ∨ 9 < p1 → (-1 : Int) = -1 ∧ f_q = f_q := by omega
theorem vc_X12_walk_w_27 {f_q p1 z74 : Int} (h0 : (z74 = 1 → ((-1) : Int) ≤ p1 ∧ p1 ≤ (9 : Int))) (h1 : (z74 = 0 → p1 < ((-1) : Int) ∨ (9 : Int) < p1)) (h2 : p1 < ((-1) : Int) ∨ (9 : Int) < p1) (h3 : z74 = 0) (h4 : 0 ≤ f_q ∧ f_q ≤ 20) (h5 : (-2147483648) ≤ p1 ∧ p1 ≤ 2147483647) (h6 : 0 ≤ z74 ∧ z74 ≤ 0) : p1 = -1 → (-1 : Int) = 0 ∧ f_q = 0 := by omega
theorem vc_X12_walk_w_28 {f_q p1 z74 : Int} (h0 : (z74 = 1 → ((-1) : Int) ≤ p1 ∧ p1 ≤ (9 : Int))) (h1 : (z74 = 0 → p1 < ((-1) : Int) ∨ (9 : Int) < p1)) (h2 : p1 < ((-1) : Int) ∨ (9 : Int) < p1) (h3 : z74 = 0) (h4 : 0 ≤ f_q ∧ f_q ≤ 20) (h5 : (-2147483648) ≤ p1 ∧ p1 ≤ 2147483647) (h6 : 0 ≤ z74 ∧ z74 ≤ 0) : 0 ≤ p1 → p1 ≤ 9 → f_q = 20 → (-1 : Int) = -3 ∧ f_q = f_q := by omega
theorem vc_X12_walk_w_29 {f_q p1 z74 : Int} (h0 : (z74 = 1 → ((-1) : Int) ≤ p1 ∧ p1 ≤ (9 : Int))) (h1 : (z74 = 0 → p1 < ((-1) : Int) ∨ (9 : Int) < p1)) (h2 : p1 < ((-1) : Int) ∨ (9 : Int) < p1) (h3 : z74 = 0) (h4 : 0 ≤ f_q ∧ f_q ≤ 20) (h5 : (-2147483648) ≤ p1 ∧ p1 ≤ 2147483647) (h6 : 0 ≤ z74 ∧ z74 ≤ 0) : 0 ≤ p1 → p1 ≤ 9 → f_q < 20 → (-1 : Int) = f_q + 1 ∧ f_q = f_q + 1 := by omega
theorem c_X12_walk_w {l : Launch} {D : va_G} {c : Nat → ClassId} {H0 : Heap} {sa : Nat × Nat × (Nat → Int32)} {w : mW} {μ : mM} (hw : mWF w) (hT : mT w μ) {p1 : Int} (hp1 : (-2147483648) ≤ p1 ∧ p1 ≤ 2147483647) {f_q : Int} (q_f_q : μ 106 15 = f_q) : sC (gG l D c H0 sa) mX12_walk 2 0 0 [.ref 106, iv p1] (mk w μ) (qI w [106015, 118999] μ (fun z μ1 => ∃ o_q : Int, μ1 106 15 = o_q ∧ ((-2147483648) ≤ z ∧ z ≤ 2147483647) ∧ (p1 < -1 ∨ 9 < p1 → z = -1 ∧ o_q = f_q) ∧ (p1 = -1 → z = 0 ∧ o_q = 0) ∧ (0 ≤ p1 → p1 ≤ 9 → f_q = 20 → z = -3 ∧ o_q = f_q) ∧ (0 ≤ p1 → p1 ≤ 9 → f_q < 20 → z = f_q + 1 ∧ o_q = f_q + 1) ∧ (wkT μ μ1 118 f_q o_q p1) ∧ True)) := by
  refine sC.of rfl (by decide) (le_t rfl) ?_
  have ht_f_q : (0 ≤ f_q ∧ f_q ≤ 20) := by rw [← q_f_q]; exact hT 106 106 (A_106 hw) 15
  refine mr_lvE (lv' := [(0, .ref 106), (1, iv p1)]) rfl ?_
  refine mr_iload_n (pc := 0) (z := p1) dX12_walk_0 rfl rfl ?_
  refine mr_iconst (pc := 1) (z := (-1)) dX12_walk_1 ?_
  refine mr_bipush (pc := 2) (z := 9) dX12_walk_2 (by decide) ?_
  refine mr_cSP (pc := 4) (c_X12_in hw hT hp1 (rW (c := (-2147483648)) (d := 2147483647) (rR (x := (-1))) rfl) (rW (c := (-2147483648)) (d := 2147483647) (rR (x := 9)) rfl)) (gOk _ _ _ _ _) dX12_walk_4 (tX12_in _ _ _ _ _) wS_X12_in wM_X12_18 ⟨le_t rfl, le_t rfl⟩ ⟨le_t rfl, le_t rfl⟩ rfl (le_t rfl) fun z74 h73 => ?_
  refine mr_if_ne (pc := 7) (tgt := 12) dX12_walk_7 (by decide) (r32 h73.1 rfl) (fun h75 => ?_) (fun h75 => ?_)
  · have h76 : 1 ≤ z74 ∧ z74 ≤ 1 := (vc_X12_walk_w_1 h75 h73.2.1 h73.2.2.1 hp1 h73.1)
    have h77 : ((-1) : Int) ≤ p1 ∧ p1 ≤ (9 : Int) := (h73.2.1 (vc_X12_walk_w_2 h73.2.1 h73.2.2.1 h75 hp1 h76))
    have h78 : (-1) ≤ p1 ∧ p1 ≤ 9 := (vc_X12_walk_w_3 h77 h73.2.1 h73.2.2.1 hp1 h76)
    refine mr_iload_n (pc := 12) (z := p1) dX12_walk_12 rfl rfl ?_
    refine mr_iconst (pc := 13) (z := (-1)) dX12_walk_13 ?_
    refine mr_icmp_ne (pc := 14) (tgt := 24) dX12_walk_14 (by decide) (r32 h78 rfl) (r32 (rR (x := (-1))) rfl) (fun h79 => ?_) (fun h79 => ?_)
    · have h80 : 0 ≤ p1 ∧ p1 ≤ 9 := (vc_X12_walk_w_4 h79 h73.2.1 h73.2.2.1 h77 h78 h76)
      refine sv_aload_n (pc := 24) dX12_walk_24 rfl rfl ?_
      refine gk_X12_15 (pc := 25) dX12_walk_25 wF_X12_79 (A_106 hw) q_f_q ?_
      refine mr_bipush (pc := 28) (z := 20) dX12_walk_28 (by decide) ?_
      refine mr_icmp_ne (pc := 30) (tgt := 36) dX12_walk_30 (by decide) (r32 ht_f_q rfl) (r32 (rR (x := 20)) rfl) (fun h81 => ?_) (fun h81 => ?_)
      · have h82 : 0 ≤ f_q ∧ f_q ≤ 19 := (vc_X12_front_2 h81 ht_f_q)
        refine sv_aload_n (pc := 36) dX12_walk_36 rfl rfl ?_
        refine gf_X12_16 (pc := 37) dX12_walk_37 wF_X12_82 (A_106 hw) hT ?_
        refine sv_aload_n (pc := 40) dX12_walk_40 rfl rfl ?_
        refine gk_X12_15 (pc := 41) dX12_walk_41 wF_X12_79 (A_106 hw) q_f_q ?_
        refine mr_iload_n (pc := 44) (z := p1) dX12_walk_44 rfl rfl ?_
        refine ss_118 (pc := 45) dX12_walk_45 (A_118 hw) hT (rIx (n := 20) h82 rfl) h80 fun μ83 u84 T85 => ?_
        refine sv_aload_n (pc := 46) dX12_walk_46 rfl rfl ?_
        refine sv_dup (pc := 47) dX12_walk_47 rfl ?_
        refine gk_X12_15 (pc := 48) dX12_walk_48 wF_X12_79 (A_106 hw) (u84.f (Or.inl (mAt.ne (A_118 hw) (A_106 hw) rfl)) q_f_q) ?_
        refine mr_iconst (pc := 51) (z := 1) dX12_walk_51 ?_
        refine mr_iadd (pc := 52) (x := f_q) (y := 1) dX12_walk_52 ?_
        refine pf_X12_15 (pc := 53) dX12_walk_53 wF_X12_79 (A_106 hw) T85 (rW (c := 0) (d := 20) (rAdd (e := 1) (f := 20) h82 (rR (x := 1)) rfl) rfl) fun μ86 u87 T88 => ?_
        refine sv_aload_n (pc := 56) dX12_walk_56 rfl rfl ?_
        refine gk_X12_15 (pc := 57) dX12_walk_57 wF_X12_79 (A_106 hw) u87.1 ?_
        exact mr_iret dX12_walk_60 rfl (le_t rfl) (le_t rfl) T88 (mF.up (mF.up mF.refl (A_118 hw) u84 rfl) (A_106 hw) u87 rfl) ⟨(f_q + 1), u87.1, (rW (c := (-2147483648)) (d := 2147483647) (rAdd (e := 1) (f := 20) h82 (rR (x := 1)) rfl) rfl), (vc_X12_walk_w_6 h73.2.1 h73.2.2.1 h77 h79 h81 h75 h82 h80 h76), (vc_X12_walk_w_7 h73.2.1 h73.2.2.1 h77 h79 h81 h75 h82 h80 h76), (vc_X12_walk_w_8 h73.2.1 h73.2.2.1 h77 h79 h81 h75 h82 h80 h76), (vc_X12_walk_w_9 h73.2.1 h73.2.2.1 h77 h79 h81 h75 h82 h80 h76), ⟨(tabS.oth (tabS.up tabS.refl u84 (vc_X12_walk_w_10 h81 h82)) u87 rfl), fun _ => (u87.f (Or.inl (mAt.ne (A_106 hw) (A_118 hw) rfl)) u84.1).trans (vc_X12_walk_w_11 h73.2.1 h73.2.2.1 h77 h79 h75 h80 h76)⟩, trivial⟩
      have h89 : 20 ≤ f_q ∧ f_q ≤ 20 := (vc_X12_front_21 h81 ht_f_q)
      refine mr_bipush (pc := 33) (z := (-3)) dX12_walk_33 (by decide) ?_
      exact mr_iret dX12_walk_35 rfl (le_t rfl) (le_t rfl) hT mF.refl ⟨f_q, q_f_q, (rW (c := (-2147483648)) (d := 2147483647) (rR (x := (-3))) rfl), (vc_X12_walk_w_13 h73.2.1 h73.2.2.1 h77 h79 h81 h75 h89 h80 h76), (vc_X12_walk_w_14 h73.2.1 h73.2.2.1 h77 h79 h81 h75 h89 h80 h76), (vc_X12_walk_w_15 h73.2.1 h73.2.2.1 h77 h79 h81 h75 h89 h80 h76), (vc_X12_walk_w_16 h73.2.1 h73.2.2.1 h77 h79 h81 h75 h89 h80 h76), ⟨tabS.refl, fun h => absurd h (vc_X12_walk_w_17 h81 h89)⟩, trivial⟩
    have h90 : (-1) ≤ p1 ∧ p1 ≤ (-1) := (vc_X12_walk_w_18 h79 h73.2.1 h73.2.2.1 h77 h78 h76)
    refine sv_aload_n (pc := 17) dX12_walk_17 rfl rfl ?_
    refine mr_iconst (pc := 18) (z := 0) dX12_walk_18 ?_
    refine pf_X12_15 (pc := 19) dX12_walk_19 wF_X12_79 (A_106 hw) hT (rW (c := 0) (d := 20) (rR (x := 0)) rfl) fun μ91 u92 T93 => ?_
    refine mr_iconst (pc := 22) (z := 0) dX12_walk_22 ?_
    exact mr_iret dX12_walk_23 rfl (le_t rfl) (le_t rfl) T93 (mF.up mF.refl (A_106 hw) u92 rfl) ⟨0, u92.1, (rW (c := (-2147483648)) (d := 2147483647) (rR (x := 0)) rfl), (vc_X12_walk_w_19 h73.2.1 h73.2.2.1 h77 h79 h75 ht_f_q h90 h76), (vc_X12_walk_w_20 h73.2.1 h73.2.2.1 h77 h79 h75 h90 h76), (vc_X12_walk_w_21 h73.2.1 h73.2.2.1 h77 h79 h75 ht_f_q h90 h76), (vc_X12_walk_w_22 h73.2.1 h73.2.2.1 h77 h79 h75 ht_f_q h90 h76), ⟨(tabS.oth tabS.refl u92 rfl), fun h => absurd h (vc_X11_walk_w_28 ht_f_q)⟩, trivial⟩
  have h94 : 0 ≤ z74 ∧ z74 ≤ 0 := (vc_X12_walk_w_24 h75 h73.2.1 h73.2.2.1 hp1 h73.1)
  have h95 : p1 < ((-1) : Int) ∨ (9 : Int) < p1 := (h73.2.2.1 (vc_X12_walk_w_25 h73.2.1 h73.2.2.1 h75 hp1 h94))
  refine mr_iconst (pc := 10) (z := (-1)) dX12_walk_10 ?_
  exact mr_iret dX12_walk_11 rfl (le_t rfl) (le_t rfl) hT mF.refl ⟨f_q, q_f_q, (rW (c := (-2147483648)) (d := 2147483647) (rR (x := (-1))) rfl), (vc_X12_walk_w_26 h73.2.1 h73.2.2.1 h95 h75 ht_f_q hp1 h94), (vc_X12_walk_w_27 h73.2.1 h73.2.2.1 h95 h75 ht_f_q hp1 h94), (vc_X12_walk_w_28 h73.2.1 h73.2.2.1 h95 h75 ht_f_q hp1 h94), (vc_X12_walk_w_29 h73.2.1 h73.2.2.1 h95 h75 ht_f_q hp1 h94), ⟨tabS.refl, fun h => absurd h (vc_X11_walk_w_6 ht_f_q)⟩, trivial⟩
