theorem vc_X12_domain_v_1 {f_d : Int} (h0 : ¬ f_d = 10) (h1 : 0 ≤ f_d ∧ f_d ≤ 10) : 0 ≤ f_d ∧ f_d ≤ 9 := by omega
theorem vc_X12_domain_v_2 {f_d : Int} (h0 : ¬ f_d = 10) (h1 : 0 ≤ f_d ∧ f_d ≤ 9) : f_d = 10 → ((f_d + 1) - 1) = -3 ∧ (f_d + 1) = f_d := by omega
theorem vc_X12_domain_v_3 {f_d : Int} (h0 : ¬ f_d = 10) (h1 : 0 ≤ f_d ∧ f_d ≤ 9) : ¬ f_d = 10 → ((f_d + 1) - 1) = f_d ∧ (f_d + 1) = f_d + 1 := by omega
theorem vc_X12_domain_v_4 {f_d : Int} (h0 : f_d = 10) (h1 : 0 ≤ f_d ∧ f_d ≤ 10) : 10 ≤ f_d ∧ f_d ≤ 10 := by omega
theorem vc_X12_domain_v_5 {f_d : Int} (h0 : f_d = 10) (h1 : 10 ≤ f_d ∧ f_d ≤ 10) : f_d = 10 → (-3 : Int) = -3 ∧ f_d = f_d := by omega
theorem vc_X12_domain_v_6 {f_d : Int} (h0 : f_d = 10) (h1 : 10 ≤ f_d ∧ f_d ≤ 10) : ¬ f_d = 10 → (-3 : Int) = f_d ∧ f_d = f_d + 1 := by omega
set_option maxRecDepth 4000 in
set_option maxHeartbeats 4000000 in
theorem c_X12_domain_v {l : Launch} {D : va_G} {c : Nat → ClassId} {H0 : Heap} {sa : Nat × Nat × (Nat → Int32)} {w : mW} {μ : mM} (hw : mWF w) (hT : mT w μ) {f_d : Int} (q_f_d : μ 106 5 = f_d) : sC (gG l D c H0 sa) mX12_domain 1 0 0 [.ref 106] (mk w μ) (qI w [106005] μ (fun z μ1 => ∃ o_d : Int, μ1 106 5 = o_d ∧ ((-2147483648) ≤ z ∧ z ≤ 2147483647) ∧ (f_d = 10 → z = -3 ∧ o_d = f_d) ∧ (¬ f_d = 10 → z = f_d ∧ o_d = f_d + 1) ∧ True)) := by
  refine sC.of rfl (by decide) (le_t rfl) ?_
  have ht_f_d : (0 ≤ f_d ∧ f_d ≤ 10) := by rw [← q_f_d]; exact hT 106 106 (A_106 hw) 5
  refine mr_lvE (lv' := [(0, .ref 106)]) rfl ?_
  refine sv_aload_n (pc := 0) dX12_domain_0 rfl rfl ?_
  refine gk_X12_5 (pc := 1) dX12_domain_1 wF_X12_34 (A_106 hw) q_f_d ?_
  refine mr_bipush (pc := 4) (z := 10) dX12_domain_4 (by decide) ?_
  refine mr_icmp_ne (pc := 6) (tgt := 12) dX12_domain_6 (by decide) (r32 ht_f_d rfl) (r32 (rR (x := 10)) rfl) (fun h16 => ?_) (fun h16 => ?_)
  · have h17 : 0 ≤ f_d ∧ f_d ≤ 9 := (vc_X12_domain_v_1 h16 ht_f_d)
    refine sv_aload_n (pc := 12) dX12_domain_12 rfl rfl ?_
    refine sv_dup (pc := 13) dX12_domain_13 rfl ?_
    refine gk_X12_5 (pc := 14) dX12_domain_14 wF_X12_34 (A_106 hw) q_f_d ?_
    refine mr_iconst (pc := 17) (z := 1) dX12_domain_17 ?_
    refine mr_iadd (pc := 18) (x := f_d) (y := 1) dX12_domain_18 ?_
    refine pf_X12_5 (pc := 19) dX12_domain_19 wF_X12_34 (A_106 hw) hT (rW (c := 0) (d := 10) (rAdd (e := 1) (f := 10) h17 (rR (x := 1)) rfl) rfl) fun μ18 u19 T20 => ?_
    refine sv_aload_n (pc := 22) dX12_domain_22 rfl rfl ?_
    refine gk_X12_5 (pc := 23) dX12_domain_23 wF_X12_34 (A_106 hw) u19.1 ?_
    refine mr_iconst (pc := 26) (z := 1) dX12_domain_26 ?_
    refine mr_isub (pc := 27) (x := (f_d + 1)) (y := 1) dX12_domain_27 ?_
    exact mr_iret dX12_domain_28 rfl (le_t rfl) (le_t rfl) T20 (mF.up mF.refl (A_106 hw) u19 rfl) ⟨(f_d + 1), u19.1, (rW (c := (-2147483648)) (d := 2147483647) (rSub (e := 0) (f := 9) (rAdd (e := 1) (f := 10) h17 (rR (x := 1)) rfl) (rR (x := 1)) rfl) rfl), (vc_X12_domain_v_2 h16 h17), (vc_X12_domain_v_3 h16 h17), trivial⟩
  have h21 : 10 ≤ f_d ∧ f_d ≤ 10 := (vc_X12_domain_v_4 h16 ht_f_d)
  refine mr_bipush (pc := 9) (z := (-3)) dX12_domain_9 (by decide) ?_
  exact mr_iret dX12_domain_11 rfl (le_t rfl) (le_t rfl) hT mF.refl ⟨f_d, q_f_d, (rW (c := (-2147483648)) (d := 2147483647) (rR (x := (-3))) rfl), (vc_X12_domain_v_5 h16 h21), (vc_X12_domain_v_6 h16 h21), trivial⟩
