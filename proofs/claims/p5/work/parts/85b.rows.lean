theorem vc_X4_wayInRest_1 {n_1 p1 : Int} (h0 : p1 < n_1) (h1 : 0 ≤ n_1 ∧ n_1 ≤ 93312) (h2 : 0 ≤ p1 ∧ p1 ≤ 46655) : 0 ≤ p1 ∧ p1 < n_1 := by omega
set_option maxRecDepth 4000 in
set_option maxHeartbeats 4000000 in
theorem c_X4_wayInRest {l : Launch} {D : va_G} {c : Nat → ClassId} {H0 : Heap} {sa : Nat × Nat × (Nat → Int32)} {w : mW} {μ : mM} (hw : mWF w) (hT : mT w μ) {p1 : Int} (hp1 : 0 ≤ p1 ∧ p1 ≤ 46655) {p2 : Int} (hp2 : 1 ≤ p2 ∧ p2 ≤ 6) {br : Nat} (q_br : μ 94 7 = (br : Int)) (hA_br : mAt w br 103) (hix : p1 < (w.2.2.1 br : Int)) : sC (gG l D c H0 sa) mX4_wayInRest 2 0 0 [.ref 94, iv p1, iv p2] (mk w μ) (qP w μ (fun z => ((-2147483648) ≤ z ∧ z ≤ 2147483647) ∧ True)) := by
  refine sC.of rfl (by decide) (le_t rfl) ?_
  refine mr_lvE (lv' := [(0, .ref 94), (1, iv p1), (2, iv p2)]) rfl ?_
  obtain ⟨n_1, q2⟩ : ∃ n : Int, (w.2.2.1 br : Int) = n := ⟨_, rfl⟩
  have h3 : 0 ≤ n_1 ∧ n_1 ≤ 93312 := lnR (m := 93312) q2 hA_br rfl
  have h4 : p1 < n_1 := by rw [← q2]; exact hix
  refine sv_aload_n (pc := 0) dX4_wayInRest_0 rfl rfl ?_
  refine sv_aload_n (pc := 1) dX4_wayInRest_1 rfl rfl ?_
  refine gk_X4_7 (pc := 2) dX4_wayInRest_2 wF_X4_36 (A_94 hw) q_br ?_
  refine mr_iload_n (pc := 5) (z := p1) dX4_wayInRest_5 rfl rfl ?_
  refine la_103 (pc := 6) dX4_wayInRest_6 hA_br hT (lnC q2 (vc_X4_wayInRest_1 h4 h3 hp1)) fun z5 q6 h7 => ?_
  refine mr_iload_n (pc := 7) (z := p2) dX4_wayInRest_7 rfl rfl ?_
  refine mr_cVP (pc := 8) (c_X4_figure hw hT h7 hp2) (gOk _ _ _ _ _) dX4_wayInRest_8 (tX4_figure _ _ _ _ _) ⟨wV_X4_figure, wL_X4_figure⟩ wM_X4_75 (gCX4 _ _ _ _ _) rfl (A_94 hw) rfl ⟨le_t rfl, le_t rfl⟩ ⟨le_t rfl, le_t rfl⟩ rfl (le_t rfl) fun z12 h11 => ?_
  refine mr_istore_n (pc := 11) (lv' := [(3, iv z12), (0, .ref 94), (1, iv p1), (2, iv p2)]) dX4_wayInRest_11 rfl (by decide) rfl ?_
  refine mr_iload_n (pc := 12) (z := z12) dX4_wayInRest_12 rfl rfl ?_
  refine sv_aload_n (pc := 13) dX4_wayInRest_13 rfl rfl ?_
  refine gf_X4_12 (pc := 14) dX4_wayInRest_14 wF_X4_11 (A_94 hw) hT ?_
  refine mr_iload_n (pc := 17) (z := p2) dX4_wayInRest_17 rfl rfl ?_
  refine la_95 (pc := 18) dX4_wayInRest_18 (A_95 hw) hT (rIx (n := 7) hp2 rfl) fun z13 q14 h15 => ?_
  refine mr_icmp_ne (pc := 19) (tgt := 27) dX4_wayInRest_19 (by decide) (r32 h11.1 rfl) (r32 h15 rfl) (fun h16 => ?_) (fun h16 => ?_)
  · refine mr_iload_n (pc := 27) (z := z12) dX4_wayInRest_27 rfl rfl ?_
    exact mr_iretP dX4_wayInRest_28 rfl (le_t rfl) (le_t rfl) ⟨(rW (c := (-2147483648)) (d := 2147483647) h11.1 rfl), trivial⟩
  refine mr_bipush (pc := 22) (z := (-4)) dX4_wayInRest_22 (by decide) ?_
  refine sv_goto (pc := 24) (tgt := 28) dX4_wayInRest_24 (by decide) ?_
  exact mr_iretP dX4_wayInRest_28 rfl (le_t rfl) (le_t rfl) ⟨(rW (c := (-2147483648)) (d := 2147483647) (rR (x := (-4))) rfl), trivial⟩
