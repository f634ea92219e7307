/-! The class's answers on rests. -/
theorem dX11_rests_0 : decode cX11_rests 0 = .ok (.aload_n 0, 1) := by decide +kernel
theorem dX11_rests_1 : decode cX11_rests 1 = .ok (.getfield 72, 3) := by decide +kernel
theorem dX11_rests_4 : decode cX11_rests 4 = .ok (.invokevirtual 411, 3) := by decide +kernel
theorem dX11_rests_7 : decode cX11_rests 7 = .ok (.aload_n 0, 1) := by decide +kernel
theorem dX11_rests_8 : decode cX11_rests 8 = .ok (.getfield 72, 3) := by decide +kernel
theorem dX11_rests_11 : decode cX11_rests 11 = .ok (.getfield 414, 3) := by decide +kernel
theorem dX11_rests_14 : decode cX11_rests 14 = .ok (.ireturn, 1) := by decide +kernel
theorem dX11_rest_0 : decode cX11_rest 0 = .ok (.aload_n 0, 1) := by decide +kernel
theorem dX11_rest_1 : decode cX11_rest 1 = .ok (.getfield 72, 3) := by decide +kernel
theorem dX11_rest_4 : decode cX11_rest 4 = .ok (.invokevirtual 411, 3) := by decide +kernel
theorem dX11_rest_7 : decode cX11_rest 7 = .ok (.iload_n 1, 1) := by decide +kernel
theorem dX11_rest_8 : decode cX11_rest 8 = .ok (.ifCond .lt 25, 3) := by decide +kernel
theorem dX11_rest_11 : decode cX11_rest 11 = .ok (.iload_n 1, 1) := by decide +kernel
theorem dX11_rest_12 : decode cX11_rest 12 = .ok (.aload_n 0, 1) := by decide +kernel
theorem dX11_rest_13 : decode cX11_rest 13 = .ok (.getfield 72, 3) := by decide +kernel
theorem dX11_rest_16 : decode cX11_rest 16 = .ok (.getfield 414, 3) := by decide +kernel
theorem dX11_rest_19 : decode cX11_rest 19 = .ok (.if_icmp .ge 14, 3) := by decide +kernel
theorem dX11_rest_22 : decode cX11_rest 22 = .ok (.iload_n 2, 1) := by decide +kernel
theorem dX11_rest_23 : decode cX11_rest 23 = .ok (.iconst 1, 1) := by decide +kernel
theorem dX11_rest_24 : decode cX11_rest 24 = .ok (.if_icmp .lt 9, 3) := by decide +kernel
theorem dX11_rest_27 : decode cX11_rest 27 = .ok (.iload_n 2, 1) := by decide +kernel
theorem dX11_rest_28 : decode cX11_rest 28 = .ok (.bipush 7, 2) := by decide +kernel
theorem dX11_rest_30 : decode cX11_rest 30 = .ok (.if_icmp .lt 5, 3) := by decide +kernel
theorem dX11_rest_33 : decode cX11_rest 33 = .ok (.iconst (-1), 1) := by decide +kernel
theorem dX11_rest_34 : decode cX11_rest 34 = .ok (.ireturn, 1) := by decide +kernel
theorem dX11_rest_35 : decode cX11_rest 35 = .ok (.aload_n 0, 1) := by decide +kernel
theorem dX11_rest_36 : decode cX11_rest 36 = .ok (.getfield 72, 3) := by decide +kernel
theorem dX11_rest_39 : decode cX11_rest 39 = .ok (.iload_n 1, 1) := by decide +kernel
theorem dX11_rest_40 : decode cX11_rest 40 = .ok (.iload_n 2, 1) := by decide +kernel
theorem dX11_rest_41 : decode cX11_rest 41 = .ok (.invokevirtual 417, 3) := by decide +kernel
theorem dX11_rest_44 : decode cX11_rest 44 = .ok (.ireturn, 1) := by decide +kernel
section MV29
variable {l : Launch} {D : va_G} {c : Nat → ClassId} {H0 : Heap} {sa : Nat × Nat × (Nat → Int32)}
set_option maxRecDepth 4000 in
set_option maxHeartbeats 4000000 in
theorem c_X11_rests {w : mW} {μ : mM} (hcu : cuP l D c H0 sa) (hw : mWF w) (hT : mT w μ) (hb : rlP w μ) {b : Nat} (q7 : μ 94 7 = (b : Int)) (hA : mAt w b 103) : sC (gG l D c H0 sa) mX11_rests 7 93312 186624 [.ref 0] (mk w μ) (qIx w frL μ (fun z w1 μ1 => (-2147483648 ≤ z ∧ z ≤ 2147483647) ∧ rlQ w (w.2.2.1 b) w1 μ1)) := by
  refine sC.of rfl (by decide) (le_t rfl) ?_
  refine mr_lvE (lv' := [(0, .ref 0)]) rfl ?_
  refine sv_aload_n (pc := 0) dX11_rests_0 rfl rfl ?_
  refine gf_X11_9 (pc := 1) dX11_rests_1 wF_X11_72 (A_0 hw) hT ?_
  refine mr_cVVX (pc := 4) (c_X4_findRests hcu hw hT q7 hA hb) (gOk _ _ _ _ _) dX11_rests_4 (tX4_findRests _ _ _ _ _) ⟨wV_X4_findRests, wL_X4_findRests⟩ wM_X11_411 (gCX4 _ _ _ _ _) rfl (A_94 hw) rfl ⟨le_t rfl, le_t rfl⟩ ⟨le_t rfl, le_t rfl⟩ rfl (le_t rfl) fun w1 μ1 hw1 T1 X1 P1 => ?_
  refine sv_aload_n (pc := 7) dX11_rests_7 rfl rfl ?_
  refine gf_X11_9 (pc := 8) dX11_rests_8 wF_X11_72 (A_0 hw1) T1 ?_
  refine gf_X4_14 (pc := 11) dX11_rests_11 wF_X11_414 (A_94 hw1) T1 fun z qz hz => ?_
  exact mr_iretX dX11_rests_14 rfl (le_t rfl) (le_t rfl) hw1 T1 X1 ⟨r32 hz rfl, P1⟩
set_option maxRecDepth 4000 in
set_option maxHeartbeats 4000000 in
theorem c_X11_rest {w : mW} {μ : mM} (hcu : cuP l D c H0 sa) (hw : mWF w) (hT : mT w μ) (hb : rlP w μ) {b : Nat} (q7 : μ 94 7 = (b : Int)) (hA : mAt w b 103) {p1 p2 : Int} (hp1 : -2147483648 ≤ p1 ∧ p1 ≤ 2147483647) (hp2 : -2147483648 ≤ p2 ∧ p2 ≤ 2147483647) : sC (gG l D c H0 sa) mX11_rest 7 93312 186624 [.ref 0, iv p1, iv p2] (mk w μ) (qIx w frL μ (fun z w1 μ1 => (-2147483648 ≤ z ∧ z ≤ 2147483647) ∧ rlQ w (w.2.2.1 b) w1 μ1)) := by
  refine sC.of rfl (by decide) (le_t rfl) ?_
  refine mr_lvE (lv' := [(0, .ref 0), (1, iv p1), (2, iv p2)]) rfl ?_
  refine sv_aload_n (pc := 0) dX11_rest_0 rfl rfl ?_
  refine gf_X11_9 (pc := 1) dX11_rest_1 wF_X11_72 (A_0 hw) hT ?_
  refine mr_cVVX (pc := 4) (c_X4_findRests hcu hw hT q7 hA hb) (gOk _ _ _ _ _) dX11_rest_4 (tX4_findRests _ _ _ _ _) ⟨wV_X4_findRests, wL_X4_findRests⟩ wM_X11_411 (gCX4 _ _ _ _ _) rfl (A_94 hw) rfl ⟨le_t rfl, le_t rfl⟩ ⟨le_t rfl, le_t rfl⟩ rfl (le_t rfl) fun w1 μ1 hw1 T1 X1 P1 => ?_
  have none : sV (gG l D c H0 sa) mX11_rest (sRm 7 93312 186624) (sZ (gG l D c H0 sa) 93312 186624 (qIx w frL μ (fun z w1 μ1 => (-2147483648 ≤ z ∧ z ≤ 2147483647) ∧ rlQ w (w.2.2.1 b) w1 μ1))) 33 [(0, .ref 0), (1, iv p1), (2, iv p2)] [] (mk w1 μ1) (0 + 93312) (0 + 186624) := by
    refine mr_iconst (pc := 33) (z := -1) dX11_rest_33 ?_
    exact mr_iretX dX11_rest_34 rfl (le_t rfl) (le_t rfl) hw1 T1 X1 ⟨by decide, P1⟩
  refine mr_iload_n (pc := 7) (z := p1) dX11_rest_7 rfl rfl ?_
  refine mr_if_lt (pc := 8) (tgt := 33) dX11_rest_8 (by decide) hp1 (fun _ => none) (fun h1 => ?_)
  refine mr_iload_n (pc := 11) (z := p1) dX11_rest_11 rfl rfl ?_
  refine sv_aload_n (pc := 12) dX11_rest_12 rfl rfl ?_
  refine gf_X11_9 (pc := 13) dX11_rest_13 wF_X11_72 (A_0 hw1) T1 ?_
  refine gf_X4_14 (pc := 16) dX11_rest_16 wF_X11_414 (A_94 hw1) T1 fun z qz hz => ?_
  refine mr_icmp_ge (pc := 19) (tgt := 33) dX11_rest_19 (by decide) hp1 (r32 hz rfl) (fun _ => none) (fun h2 => ?_)
  refine mr_iload_n (pc := 22) (z := p2) dX11_rest_22 rfl rfl ?_
  refine mr_iconst (pc := 23) (z := 1) dX11_rest_23 ?_
  refine mr_icmp_lt (pc := 24) (tgt := 33) dX11_rest_24 (by decide) hp2 (by decide) (fun _ => none) (fun h3 => ?_)
  refine mr_iload_n (pc := 27) (z := p2) dX11_rest_27 rfl rfl ?_
  refine mr_bipush (pc := 28) (z := 7) dX11_rest_28 (by decide) ?_
  refine mr_icmp_lt (pc := 30) (tgt := 35) dX11_rest_30 (by decide) hp2 (by decide) (fun h4 => ?_) (fun _ => none)
  refine sv_aload_n (pc := 35) dX11_rest_35 rfl rfl ?_
  refine gf_X11_9 (pc := 36) dX11_rest_36 wF_X11_72 (A_0 hw1) T1 ?_
  refine mr_iload_n (pc := 39) (z := p1) dX11_rest_39 rfl rfl ?_
  refine mr_iload_n (pc := 40) (z := p2) dX11_rest_40 rfl rfl ?_
  obtain ⟨b1, q71, hA1⟩ := refE (T1 94 94 (A_94 hw1) 7)
  have hlen : z ≤ (w1.2.2.1 b1 : Int) := by have h := P1.1.2; rw [lenX q71 rfl rfl, qz] at h; exact h
  refine mr_cVP (pc := 41) (c_X4_wayInRest hw1 T1 (p1 := p1) (p2 := p2) ⟨by omega, by omega⟩ ⟨by omega, by omega⟩ q71 hA1 (by omega)) (gOk _ _ _ _ _) dX11_rest_41 (tX4_wayInRest _ _ _ _ _) ⟨wV_X4_wayInRest, wL_X4_wayInRest⟩ wM_X11_417 (gCX4 _ _ _ _ _) rfl (A_94 hw1) rfl ⟨le_t rfl, le_t rfl⟩ ⟨le_t rfl, le_t rfl⟩ rfl (le_t rfl) fun z2 hz2 => ?_
  exact mr_iretX dX11_rest_44 rfl (le_t rfl) (le_t rfl) hw1 T1 X1 ⟨hz2.1, P1⟩
end MV29
