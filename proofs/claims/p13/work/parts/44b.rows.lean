theorem vc_X12_judged_1 {z1 : Int} (h0 : z1 = 0) (h1 : 0 ≤ z1 ∧ z1 ≤ 1) : 0 ≤ z1 ∧ z1 ≤ 0 := by omega
theorem vc_X12_judged_2 {z1 : Int} (h0 : ¬ z1 = 0) (h1 : 0 ≤ z1 ∧ z1 ≤ 1) : 1 ≤ z1 ∧ z1 ≤ 1 := by omega
theorem vc_X12_judged_3 {p1 z168 : Int} (h0 : z168 = p1) (h1 : 0 ≤ p1 ∧ p1 ≤ 9) (h2 : (-2147483648) ≤ z168 ∧ z168 ≤ 2147483647) : 0 ≤ z168 ∧ z168 ≤ 9 := by omega
theorem vc_X12_copy_1 {p1 : Int} (h0 : 0 ≤ p1 ∧ p1 ≤ 2099) : 0 ≤ (40 * p1) := by omega
theorem vc_X12_copy_2 {p1 : Int} (h0 : 0 ≤ p1 ∧ p1 ≤ 2099) : (40 * p1) % 40 = 0 := by omega
theorem vc_X12_copy_3 (h0 : (40 : Int) ≤ (0 : Int)) : False := by omega
theorem vc_X12_copy_4 {p1 : Int} (h0 : 0 ≤ p1 ∧ p1 ≤ 2099) : ((40 * p1) + 0) = (40 * p1) := by omega
theorem vc_X12_copy_5 {f_x p1 p2 : Int} (h0 : p1 < p2 ∨ p2 < p1) (h1 : (-1) ≤ f_x ∧ f_x ≤ 9) (h2 : 0 ≤ p1 ∧ p1 ≤ 2099) (h3 : 0 ≤ p2 ∧ p2 ≤ 2099) : (-2147483648 ≤ f_x ∧ f_x ≤ 2147483647) ∧ (((40 * p2) + 0) % 40 = 0 → -1 ≤ f_x ∧ f_x ≤ 9) ∧ (((40 * p2) + 0) % 40 = 4 → 0 ≤ f_x ∧ f_x ≤ 20) ∧ (((40 * p2) + 0) % 40 = 5 → 0 ≤ f_x ∧ f_x ≤ 8) := by omega
theorem vc_X12_copy_6 {z294 : Int} (h0 : (41 - z294) < ((0 : Nat) : Int)) (h1 : 1 ≤ z294 ∧ z294 ≤ 40) : False := by omega
theorem vc_X12_copy_7 {p1 p2 : Int} (h0 : p1 < p2 ∨ p2 < p1) (h1 : 0 ≤ p1 ∧ p1 ≤ 2099) (h2 : 0 ≤ p2 ∧ p2 ≤ 2099) : 0 ≤ (40 * p2) := by omega
theorem vc_X12_copy_8 {p1 p2 : Int} (h0 : p1 < p2 ∨ p2 < p1) (h1 : 0 ≤ p1 ∧ p1 ≤ 2099) (h2 : 0 ≤ p2 ∧ p2 ≤ 2099) : (40 * p2) % 40 = 0 := by omega
theorem vc_X12_copy_9 {z294 : Int} (h0 : 40 ≤ z294) (h1 : 1 ≤ z294 ∧ z294 ≤ 40) : 40 ≤ z294 ∧ z294 ≤ 40 := by omega
theorem vc_X12_copy_10 {p1 p2 : Int} (h0 : p1 < p2 ∨ p2 < p1) (h1 : 0 ≤ p1 ∧ p1 ≤ 2099) (h2 : 0 ≤ p2 ∧ p2 ≤ 2099) : 0 ≤ ((40 * p2) + 0) ∧ (40 * p2) ≤ ((40 * p2) + 0) ∧ ((40 * p2) + 0) < ((40 * p2) + 40) := by omega
theorem vc_X12_copy_11 {p1 p2 : Int} (h0 : p1 < p2 ∨ p2 < p1) (h1 : 0 ≤ p1 ∧ p1 ≤ 2099) (h2 : 0 ≤ p2 ∧ p2 ≤ 2099) : (40 * p2) ≤ (40 * p2) ∧ ((40 * p2) + 40) ≤ ((40 * p2) + 40) := by omega
theorem vc_X12_copy_12 {f_x f_y : Int} (h0 : f_y = f_x) (h1 : (-1) ≤ f_x ∧ f_x ≤ 9) (h2 : (-1) ≤ f_y ∧ f_y ≤ 9) : f_y = f_x := by omega
theorem vc_X12_copy_13 {z294 : Int} (h0 : z294 < 40) (h1 : 1 ≤ z294 ∧ z294 ≤ 40) : 1 ≤ z294 ∧ z294 ≤ 39 := by omega
theorem vc_X12_copy_14 {p1 p2 z294 z318 : Int} (h0 : p1 < p2 ∨ p2 < p1) (h1 : z294 < 40) (h2 : (((40 * p1) + z294) % 40 = 0 → -1 ≤ z318 ∧ z318 ≤ 9)) (h3 : (((40 * p1) + z294) % 40 = 4 → 0 ≤ z318 ∧ z318 ≤ 20)) (h4 : (((40 * p1) + z294) % 40 = 5 → 0 ≤ z318 ∧ z318 ≤ 8)) (h5 : 0 ≤ p1 ∧ p1 ≤ 2099) (h6 : 0 ≤ p2 ∧ p2 ≤ 2099) (h7 : 1 ≤ z294 ∧ z294 ≤ 39) (h8 : (-2147483648) ≤ z318 ∧ z318 ≤ 2147483647) : (-2147483648 ≤ z318 ∧ z318 ≤ 2147483647) ∧ (((40 * p2) + z294) % 40 = 0 → -1 ≤ z318 ∧ z318 ≤ 9) ∧ (((40 * p2) + z294) % 40 = 4 → 0 ≤ z318 ∧ z318 ≤ 20) ∧ (((40 * p2) + z294) % 40 = 5 → 0 ≤ z318 ∧ z318 ≤ 8) := by omega
theorem vc_X12_copy_15 {p1 p2 z294 z318 : Int} (h0 : p1 < p2 ∨ p2 < p1) (h1 : z294 < 40) (h2 : (((40 * p1) + z294) % 40 = 0 → -1 ≤ z318 ∧ z318 ≤ 9)) (h3 : (((40 * p1) + z294) % 40 = 4 → 0 ≤ z318 ∧ z318 ≤ 20)) (h4 : (((40 * p1) + z294) % 40 = 5 → 0 ≤ z318 ∧ z318 ≤ 8)) (h5 : 0 ≤ p1 ∧ p1 ≤ 2099) (h6 : 0 ≤ p2 ∧ p2 ≤ 2099) (h7 : 1 ≤ z294 ∧ z294 ≤ 39) (h8 : (-2147483648) ≤ z318 ∧ z318 ≤ 2147483647) : (40 * p2).toNat ≠ ((40 * p2) + z294).toNat := by omega
theorem vc_X12_copy_16 {N p1 p2 z294 z318 : Int} (h0 : (41 - z294) < N + 1) (h1 : z294 < 40) (h2 : (((40 * p1) + z294) % 40 = 0 → -1 ≤ z318 ∧ z318 ≤ 9)) (h3 : (((40 * p1) + z294) % 40 = 4 → 0 ≤ z318 ∧ z318 ≤ 20)) (h4 : (((40 * p1) + z294) % 40 = 5 → 0 ≤ z318 ∧ z318 ≤ 8)) (h5 : p1 < p2 ∨ p2 < p1) (h6 : 0 ≤ p1 ∧ p1 ≤ 2099) (h7 : 0 ≤ p2 ∧ p2 ≤ 2099) (h8 : 1 ≤ z294 ∧ z294 ≤ 39) (h9 : (-2147483648) ≤ z318 ∧ z318 ≤ 2147483647) : (41 - (z294 + 1)) < N := by omega
theorem vc_X12_copy_17 {p1 p2 z294 z318 : Int} (h0 : p1 < p2 ∨ p2 < p1) (h1 : (((40 * p1) + z294) % 40 = 0 → -1 ≤ z318 ∧ z318 ≤ 9)) (h2 : (((40 * p1) + z294) % 40 = 4 → 0 ≤ z318 ∧ z318 ≤ 20)) (h3 : (((40 * p1) + z294) % 40 = 5 → 0 ≤ z318 ∧ z318 ≤ 8)) (h4 : 0 ≤ p1 ∧ p1 ≤ 2099) (h5 : 0 ≤ p2 ∧ p2 ≤ 2099) (h6 : 1 ≤ z294 ∧ z294 ≤ 39) (h7 : (-2147483648) ≤ z318 ∧ z318 ≤ 2147483647) : (40 * p2) ≤ (40 * p2) ∧ ((40 * p2) + 40) ≤ ((40 * p2) + 40) := by omega
theorem vc_X12_copy_18 {p1 p2 z294 z318 : Int} (h0 : p1 < p2 ∨ p2 < p1) (h1 : z294 < 40) (h2 : (((40 * p1) + z294) % 40 = 0 → -1 ≤ z318 ∧ z318 ≤ 9)) (h3 : (((40 * p1) + z294) % 40 = 4 → 0 ≤ z318 ∧ z318 ≤ 20)) (h4 : (((40 * p1) + z294) % 40 = 5 → 0 ≤ z318 ∧ z318 ≤ 8)) (h5 : 0 ≤ p1 ∧ p1 ≤ 2099) (h6 : 0 ≤ p2 ∧ p2 ≤ 2099) (h7 : 1 ≤ z294 ∧ z294 ≤ 39) (h8 : (-2147483648) ≤ z318 ∧ z318 ≤ 2147483647) : 0 ≤ ((40 * p2) + z294) ∧ (40 * p2) ≤ ((40 * p2) + z294) ∧ ((40 * p2) + z294) < ((40 * p2) + 40) := by omega
theorem vc_X12_copy_19 {p2 : Int} (h0 : 0 ≤ p2 ∧ p2 ≤ 2099) : (40 * p2) = ((40 * p2) + 0) := by omega
theorem vc_X12_copy_20 {f_x : Int} (h0 : (-1) ≤ f_x ∧ f_x ≤ 9) : f_x = f_x := by omega
theorem vc_X12_copy_21  : (41 - 1) < ((41 : Nat) : Int) := by omega
set_option maxRecDepth 4000 in
set_option maxHeartbeats 4000000 in
theorem c_X12_copy {l : Launch} {D : va_G} {c : Nat → ClassId} {H0 : Heap} {sa : Nat × Nat × (Nat → Int32)} {w : mW} {μ : mM} (hw : mWF w) (hT : mT w μ) {p1 : Int} (hp1 : 0 ≤ p1 ∧ p1 ≤ 2099) {p2 : Int} (hp2 : 0 ≤ p2 ∧ p2 ≤ 2099) {f_x : Int} (q_f_x : μ 126 ((40 * p1).toNat) = f_x) (hq0 : p1 < p2 ∨ p2 < p1) : sC (gG l D c H0 sa) mX12_copy 1 0 0 [.ref 106, iv p1, iv p2] (mk w μ) (qV w [126999] μ (fun μ1 => ∃ o_x : Int, μ1 126 ((40 * p2).toNat) = o_x ∧ mG [((40 * p2), ((40 * p2) + 40))] μ μ1 ∧ (o_x = f_x) ∧ True)) := by
  refine sC.of rfl (by decide) (le_t rfl) ?_
  have ht_f_x := rt7 hT (A_126 hw) (vc_X12_copy_1 hp1) q_f_x
  have h1 : (-1) ≤ f_x ∧ f_x ≤ 9 := ht_f_x.2.1 (vc_X12_copy_2 hp1)
  refine mr_lvE (lv' := [(0, .ref 106), (1, iv p1), (2, iv p2)]) rfl ?_
  refine mr_iconst (pc := 0) (z := 0) dX12_copy_0 ?_
  refine mr_istore_n (pc := 1) (lv' := [(3, iv 0), (0, .ref 106), (1, iv p1), (2, iv p2)]) dX12_copy_1 rfl (by decide) rfl ?_
  refine mr_iload_n (pc := 2) (z := 0) dX12_copy_2 rfl rfl ?_
  refine mr_bipush (pc := 3) (z := 40) dX12_copy_3 (by decide) ?_
  refine mr_icmp_ge (pc := 5) (tgt := 36) dX12_copy_5 (by decide) (r32 (rR (x := 0)) rfl) (r32 (rR (x := 40)) rfl) (fun h => ((vc_X12_copy_3 h)).elim) (fun _ => ?_)
  refine sv_aload_n (pc := 8) dX12_copy_8 rfl rfl ?_
  refine gf_X12_32 (pc := 9) dX12_copy_9 wF_X12_148 (A_106 hw) hT ?_
  refine mr_bipush (pc := 12) (z := 40) dX12_copy_12 (by decide) ?_
  refine mr_iload_n (pc := 14) (z := p2) dX12_copy_14 rfl rfl ?_
  refine mr_imul (pc := 15) (x := 40) (y := p2) dX12_copy_15 ?_
  refine mr_iload_n (pc := 16) (z := 0) dX12_copy_16 rfl rfl ?_
  refine mr_iadd (pc := 17) (x := (40 * p2)) (y := 0) dX12_copy_17 ?_
  refine sv_aload_n (pc := 18) dX12_copy_18 rfl rfl ?_
  refine gf_X12_32 (pc := 19) dX12_copy_19 wF_X12_148 (A_106 hw) hT ?_
  refine mr_bipush (pc := 22) (z := 40) dX12_copy_22 (by decide) ?_
  refine mr_iload_n (pc := 24) (z := p1) dX12_copy_24 rfl rfl ?_
  refine mr_imul (pc := 25) (x := 40) (y := p1) dX12_copy_25 ?_
  refine mr_iload_n (pc := 26) (z := 0) dX12_copy_26 rfl rfl ?_
  refine mr_iadd (pc := 27) (x := (40 * p1)) (y := 0) dX12_copy_27 ?_
  refine lk_126 (pc := 28) dX12_copy_28 (A_126 hw) (rIx (n := 84000) (rAdd (e := 0) (f := 83960) (rMulL (n := 40) (e := 0) (f := 83960) hp1 rfl) (rR (x := 0)) rfl) rfl) (eqIx (vc_X12_copy_4 hp1) q_f_x) ?_
  refine ss_126 (pc := 29) dX12_copy_29 (A_126 hw) hT (rIx (n := 84000) (rAdd (e := 0) (f := 83960) (rMulL (n := 40) (e := 0) (f := 83960) hp2 rfl) (rR (x := 0)) rfl) rfl) (vc_X12_copy_5 hq0 h1 hp1 hp2) fun μ177 u178 T179 => ?_
  refine mr_iinc (pc := 30) (lv' := [(3, iv 1), (0, .ref 106), (1, iv p1), (2, iv p2)]) dX12_copy_30 rfl (by decide) rfl ?_
  refine sv_goto (pc := 33) (tgt := 2) dX12_copy_33 (by decide) ?_
  have L296 : ∀ (nL296 : Nat) (z294 : Int) (μ295 : mM) (f_y : Int), mT w μ295 → mF [126999] w μ177 μ295 → mG [((40 * p2), ((40 * p2) + 40))] μ177 μ295 → μ295 126 ((40 * p2).toNat) = f_y → (1 ≤ z294 ∧ z294 ≤ 40) → (f_y = f_x) → (41 - z294) < (nL296 : Int) → sV (gG l D c H0 sa) mX12_copy (sRm 1 0 0) (sZ (gG l D c H0 sa) 0 0 (qV w [126999] μ (fun μ1 => ∃ o_x : Int, μ1 126 ((40 * p2).toNat) = o_x ∧ mG [((40 * p2), ((40 * p2) + 40))] μ μ1 ∧ (o_x = f_x) ∧ True))) 2 [(0, .ref 106), (1, iv p1), (2, iv p2), (3, iv z294)] [] (mk w μ295) 0 0 := by
    intro nL296
    induction nL296 with
    | zero => intro z294 μ295 f_y T298 F299 G300 q303 h297 h301 h302; exact ((vc_X12_copy_6 h302 h297)).elim
    | succ nL296 ih304 =>
      intro z294 μ295 f_y T298 F299 G300 q303 h297 h301 h302
      have h305 := rt7 T298 (A_126 hw) (vc_X12_copy_7 hq0 hp1 hp2) q303
      have h306 : (-1) ≤ f_y ∧ f_y ≤ 9 := h305.2.1 (vc_X12_copy_8 hq0 hp1 hp2)
      refine mr_iload_n (pc := 2) (z := z294) dX12_copy_2 rfl rfl ?_
      refine mr_bipush (pc := 3) (z := 40) dX12_copy_3 (by decide) ?_
      refine mr_icmp_ge (pc := 5) (tgt := 36) dX12_copy_5 (by decide) (r32 h297 rfl) (r32 (rR (x := 40)) rfl) (fun h315 => ?_) (fun h315 => ?_)
      · have h316 : 40 ≤ z294 ∧ z294 ≤ 40 := (vc_X12_copy_9 h315 h297)
        exact mr_vret dX12_copy_36 rfl (le_t rfl) (le_t rfl) T298 (mF.call (mF.up mF.refl (A_126 hw) u178 rfl) F299 rfl) ⟨f_y, q303, (mG.call (mG.up mG.refl u178 List.mem_cons_self (vc_X12_copy_10 hq0 hp1 hp2)) G300 (List.forall_mem_cons.mpr ⟨⟨_, List.mem_cons_self, (vc_X12_copy_11 hq0 hp1 hp2)⟩, (fun _ h => absurd h List.not_mem_nil)⟩)), (vc_X12_copy_12 h301 h1 h306), trivial⟩
      have h317 : 1 ≤ z294 ∧ z294 ≤ 39 := (vc_X12_copy_13 h315 h297)
      refine sv_aload_n (pc := 8) dX12_copy_8 rfl rfl ?_
      refine gf_X12_32 (pc := 9) dX12_copy_9 wF_X12_148 (A_106 hw) T298 ?_
      refine mr_bipush (pc := 12) (z := 40) dX12_copy_12 (by decide) ?_
      refine mr_iload_n (pc := 14) (z := p2) dX12_copy_14 rfl rfl ?_
      refine mr_imul (pc := 15) (x := 40) (y := p2) dX12_copy_15 ?_
      refine mr_iload_n (pc := 16) (z := z294) dX12_copy_16 rfl rfl ?_
      refine mr_iadd (pc := 17) (x := (40 * p2)) (y := z294) dX12_copy_17 ?_
      refine sv_aload_n (pc := 18) dX12_copy_18 rfl rfl ?_
      refine gf_X12_32 (pc := 19) dX12_copy_19 wF_X12_148 (A_106 hw) T298 ?_
      refine mr_bipush (pc := 22) (z := 40) dX12_copy_22 (by decide) ?_
      refine mr_iload_n (pc := 24) (z := p1) dX12_copy_24 rfl rfl ?_
      refine mr_imul (pc := 25) (x := 40) (y := p1) dX12_copy_25 ?_
      refine mr_iload_n (pc := 26) (z := z294) dX12_copy_26 rfl rfl ?_
      refine mr_iadd (pc := 27) (x := (40 * p1)) (y := z294) dX12_copy_27 ?_
      refine la_126 (pc := 28) dX12_copy_28 (A_126 hw) T298 (rIx (n := 84000) (rAdd (e := 1) (f := 83999) (rMulL (n := 40) (e := 0) (f := 83960) hp1 rfl) h317 rfl) rfl) fun z318 q319 h320 => ?_
      refine ss_126 (pc := 29) dX12_copy_29 (A_126 hw) T298 (rIx (n := 84000) (rAdd (e := 1) (f := 83999) (rMulL (n := 40) (e := 0) (f := 83960) hp2 rfl) h317 rfl) rfl) (vc_X12_copy_14 hq0 h315 h320.2.1 h320.2.2.1 h320.2.2.2 hp1 hp2 h317 h320.1) fun μ321 u322 T323 => ?_
      refine mr_iinc (pc := 30) (lv' := [(3, iv (z294 + 1)), (0, .ref 106), (1, iv p1), (2, iv p2)]) dX12_copy_30 rfl (by decide) rfl ?_
      refine sv_goto (pc := 33) (tgt := 2) dX12_copy_33 (by decide) ?_
      refine mr_lvS (lv' := [(0, .ref 106), (1, iv p1), (2, iv p2), (3, iv (z294 + 1))]) (List.forall_mem_cons.mpr ⟨rfl, List.forall_mem_cons.mpr ⟨rfl, List.forall_mem_cons.mpr ⟨rfl, List.forall_mem_cons.mpr ⟨rfl, fun _ h => absurd h List.not_mem_nil⟩⟩⟩⟩) ?_
      exact ih304 (z294 + 1) μ321 f_y T323 (mF.up (mF.call mF.refl F299 rfl) (A_126 hw) u322 rfl) (mG.up (mG.call mG.refl G300 (List.forall_mem_cons.mpr ⟨⟨_, List.mem_cons_self, (vc_X12_copy_17 hq0 h320.2.1 h320.2.2.1 h320.2.2.2 hp1 hp2 h317 h320.1)⟩, (fun _ h => absurd h List.not_mem_nil)⟩)) u322 List.mem_cons_self (vc_X12_copy_18 hq0 h315 h320.2.1 h320.2.2.1 h320.2.2.2 hp1 hp2 h317 h320.1)) (u322.f (Or.inr (vc_X12_copy_15 hq0 h315 h320.2.1 h320.2.2.1 h320.2.2.2 hp1 hp2 h317 h320.1)) q303) (rW (c := 1) (d := 40) (rAdd (e := 2) (f := 40) h317 (rR (x := 1)) rfl) rfl) (vc_X12_copy_12 h301 h1 h306) (vc_X12_copy_16 (nS h302) h315 h320.2.1 h320.2.2.1 h320.2.2.2 hq0 hp1 hp2 h317 h320.1)
  refine mr_lvS (lv' := [(0, .ref 106), (1, iv p1), (2, iv p2), (3, iv 1)]) (List.forall_mem_cons.mpr ⟨rfl, List.forall_mem_cons.mpr ⟨rfl, List.forall_mem_cons.mpr ⟨rfl, List.forall_mem_cons.mpr ⟨rfl, fun _ h => absurd h List.not_mem_nil⟩⟩⟩⟩) ?_
  exact L296 41 1 μ177 f_x T179 mF.refl mG.refl (eqIx (vc_X12_copy_19 hp2) u178.1) (rW (c := 1) (d := 40) (rR (x := 1)) rfl) (vc_X12_copy_20 h1) vc_X12_copy_21
theorem vc_X12_nothing_1 {p1 : Int} (h0 : 0 ≤ p1 ∧ p1 ≤ 2099) : (-2147483648 ≤ ((-1) : Int) ∧ ((-1) : Int) ≤ 2147483647) ∧ ((40 * p1) % 40 = 0 → -1 ≤ ((-1) : Int) ∧ ((-1) : Int) ≤ 9) ∧ ((40 * p1) % 40 = 4 → 0 ≤ ((-1) : Int) ∧ ((-1) : Int) ≤ 20) ∧ ((40 * p1) % 40 = 5 → 0 ≤ ((-1) : Int) ∧ ((-1) : Int) ≤ 8) := by omega
theorem vc_X12_nothing_2 {p1 : Int} (h0 : 0 ≤ p1 ∧ p1 ≤ 2099) : 0 ≤ (40 * p1) ∧ (40 * p1) ≤ (40 * p1) ∧ (40 * p1) < ((40 * p1) + 1) := by omega
theorem vc_X12_nothing_3  : (-(1 : Int) : Int) = -(1 : Int) := by omega
set_option maxRecDepth 4000 in
set_option maxHeartbeats 4000000 in
theorem c_X12_nothing {l : Launch} {D : va_G} {c : Nat → ClassId} {H0 : Heap} {sa : Nat × Nat × (Nat → Int32)} {w : mW} {μ : mM} (hw : mWF w) (hT : mT w μ) {p1 : Int} (hp1 : 0 ≤ p1 ∧ p1 ≤ 2099) : sC (gG l D c H0 sa) mX12_nothing 1 0 0 [.ref 106, iv p1] (mk w μ) (qV w [126999] μ (fun μ1 => ∃ o_x : Int, μ1 126 ((40 * p1).toNat) = o_x ∧ mG [((40 * p1), ((40 * p1) + 1))] μ μ1 ∧ (o_x = -1) ∧ True)) := by
  refine sC.of rfl (by decide) (le_t rfl) ?_
  refine mr_lvE (lv' := [(0, .ref 106), (1, iv p1)]) rfl ?_
  refine sv_aload_n (pc := 0) dX12_nothing_0 rfl rfl ?_
  refine gf_X12_32 (pc := 1) dX12_nothing_1 wF_X12_148 (A_106 hw) hT ?_
  refine mr_bipush (pc := 4) (z := 40) dX12_nothing_4 (by decide) ?_
  refine mr_iload_n (pc := 6) (z := p1) dX12_nothing_6 rfl rfl ?_
  refine mr_imul (pc := 7) (x := 40) (y := p1) dX12_nothing_7 ?_
  refine mr_iconst (pc := 8) (z := (-1)) dX12_nothing_8 ?_
  refine ss_126 (pc := 9) dX12_nothing_9 (A_126 hw) hT (rIx (n := 84000) (rMulL (n := 40) (e := 0) (f := 83960) hp1 rfl) rfl) (vc_X12_nothing_1 hp1) fun μ1 u2 T3 => ?_
  exact mr_vret dX12_nothing_10 rfl (le_t rfl) (le_t rfl) T3 (mF.up mF.refl (A_126 hw) u2 rfl) ⟨(-1), u2.1, (mG.up mG.refl u2 List.mem_cons_self (vc_X12_nothing_2 hp1)), vc_X12_nothing_3, trivial⟩
theorem vc_X12_isThere_1 {p1 : Int} (h0 : 0 ≤ p1 ∧ p1 ≤ 2099) : 0 ≤ (40 * p1) := by omega
theorem vc_X12_isThere_2 {p1 : Int} (h0 : 0 ≤ p1 ∧ p1 ≤ 2099) : (40 * p1) % 40 = 0 := by omega
theorem vc_X12_isThere_3 {f_x : Int} (h0 : f_x < 0) (h1 : (-1) ≤ f_x ∧ f_x ≤ 9) : (-1) ≤ f_x ∧ f_x ≤ (-1) := by omega
theorem vc_X12_isThere_4 {f_x : Int} (h0 : f_x < 0) (h1 : (-1) ≤ f_x ∧ f_x ≤ (-1)) : (0 : Int) = 1 → 0 ≤ f_x := by omega
theorem vc_X12_isThere_5 {f_x : Int} (h0 : f_x < 0) (h1 : (-1) ≤ f_x ∧ f_x ≤ (-1)) : (0 : Int) = 0 → f_x < 0 := by omega
theorem vc_X12_isThere_6 {f_x : Int} (h0 : 0 ≤ f_x) (h1 : (-1) ≤ f_x ∧ f_x ≤ 9) : 0 ≤ f_x ∧ f_x ≤ 9 := by omega
theorem vc_X12_isThere_7 {f_x : Int} (h0 : 0 ≤ f_x) (h1 : 0 ≤ f_x ∧ f_x ≤ 9) : (1 : Int) = 1 → 0 ≤ f_x := by omega
theorem vc_X12_isThere_8 {f_x : Int} (h0 : 0 ≤ f_x) (h1 : 0 ≤ f_x ∧ f_x ≤ 9) : (1 : Int) = 0 → f_x < 0 := by omega
set_option maxRecDepth 4000 in
set_option maxHeartbeats 4000000 in
theorem c_X12_isThere {l : Launch} {D : va_G} {c : Nat → ClassId} {H0 : Heap} {sa : Nat × Nat × (Nat → Int32)} {w : mW} {μ : mM} (hw : mWF w) (hT : mT w μ) {p1 : Int} (hp1 : 0 ≤ p1 ∧ p1 ≤ 2099) {f_x : Int} (q_f_x : μ 126 ((40 * p1).toNat) = f_x) : sC (gG l D c H0 sa) mX12_isThere 1 0 0 [.ref 106, iv p1] (mk w μ) (qP w μ (fun z => (0 ≤ z ∧ z ≤ 1) ∧ (z = 1 → 0 ≤ f_x) ∧ (z = 0 → f_x < 0) ∧ True)) := by
  refine sC.of rfl (by decide) (le_t rfl) ?_
  have ht_f_x := rt7 hT (A_126 hw) (vc_X12_isThere_1 hp1) q_f_x
  have h1 : (-1) ≤ f_x ∧ f_x ≤ 9 := ht_f_x.2.1 (vc_X12_isThere_2 hp1)
  refine mr_lvE (lv' := [(0, .ref 106), (1, iv p1)]) rfl ?_
  refine sv_aload_n (pc := 0) dX12_isThere_0 rfl rfl ?_
  refine gf_X12_32 (pc := 1) dX12_isThere_1 wF_X12_148 (A_106 hw) hT ?_
  refine mr_bipush (pc := 4) (z := 40) dX12_isThere_4 (by decide) ?_
  refine mr_iload_n (pc := 6) (z := p1) dX12_isThere_6 rfl rfl ?_
  refine mr_imul (pc := 7) (x := 40) (y := p1) dX12_isThere_7 ?_
  refine lk_126 (pc := 8) dX12_isThere_8 (A_126 hw) (rIx (n := 84000) (rMulL (n := 40) (e := 0) (f := 83960) hp1 rfl) rfl) q_f_x ?_
  refine mr_if_lt (pc := 9) (tgt := 16) dX12_isThere_9 (by decide) (r32 h1 rfl) (fun h10 => ?_) (fun h10 => ?_)
  · have h11 : (-1) ≤ f_x ∧ f_x ≤ (-1) := (vc_X12_isThere_3 h10 h1)
    refine mr_iconst (pc := 16) (z := 0) dX12_isThere_16 ?_
    exact mr_zretP dX12_isThere_17 rfl (rW (c := 0) (d := 1) (rR (x := 0)) rfl) (le_t rfl) (le_t rfl) ⟨(rW (c := 0) (d := 1) (rR (x := 0)) rfl), (vc_X12_isThere_4 h10 h11), (vc_X12_isThere_5 h10 h11), trivial⟩
  have h12 : 0 ≤ f_x ∧ f_x ≤ 9 := (vc_X12_isThere_6 h10 h1)
  refine mr_iconst (pc := 12) (z := 1) dX12_isThere_12 ?_
  refine sv_goto (pc := 13) (tgt := 17) dX12_isThere_13 (by decide) ?_
  exact mr_zretP dX12_isThere_17 rfl (rW (c := 0) (d := 1) (rR (x := 1)) rfl) (le_t rfl) (le_t rfl) ⟨(rW (c := 0) (d := 1) (rR (x := 1)) rfl), (vc_X12_isThere_7 h10 h12), (vc_X12_isThere_8 h10 h12), trivial⟩
theorem vc_X12_same_1 {p1 : Int} (h0 : 0 ≤ p1 ∧ p1 ≤ 2099) : 0 ≤ (40 * p1) := by omega
theorem vc_X12_same_2 {p1 : Int} (h0 : 0 ≤ p1 ∧ p1 ≤ 2099) : (40 * p1) % 40 = 0 := by omega
theorem vc_X12_same_3 {z1 z9 : Int} (h0 : z9 = 0) (h1 : (z9 = 1 → 0 ≤ z1)) (h2 : (z9 = 0 → z1 < 0)) (h3 : (-1) ≤ z1 ∧ z1 ≤ 9) (h4 : 0 ≤ z9 ∧ z9 ≤ 1) : 0 ≤ z9 ∧ z9 ≤ 0 := by omega
theorem vc_X12_same_4 {z1 z9 : Int} (h0 : (z9 = 1 → 0 ≤ z1)) (h1 : (z9 = 0 → z1 < 0)) (h2 : z9 = 0) (h3 : (-1) ≤ z1 ∧ z1 ≤ 9) (h4 : 0 ≤ z9 ∧ z9 ≤ 0) : z9 = 0 := by omega
theorem vc_X12_same_5 {z1 z9 : Int} (h0 : z1 < 0) (h1 : (z9 = 1 → 0 ≤ z1)) (h2 : (z9 = 0 → z1 < 0)) (h3 : (-1) ≤ z1 ∧ z1 ≤ 9) (h4 : 0 ≤ z9 ∧ z9 ≤ 0) : (-1) ≤ z1 ∧ z1 ≤ (-1) := by omega
theorem vc_X12_same_6 {p2 : Int} (h0 : 0 ≤ p2 ∧ p2 ≤ 2099) : 0 ≤ (40 * p2) := by omega
theorem vc_X12_same_7 {p2 : Int} (h0 : 0 ≤ p2 ∧ p2 ≤ 2099) : (40 * p2) % 40 = 0 := by omega
theorem vc_X12_same_8 {z1 z9 : Int} (h0 : ¬ z9 = 0) (h1 : (z9 = 1 → 0 ≤ z1)) (h2 : (z9 = 0 → z1 < 0)) (h3 : (-1) ≤ z1 ∧ z1 ≤ 9) (h4 : 0 ≤ z9 ∧ z9 ≤ 1) : 1 ≤ z9 ∧ z9 ≤ 1 := by omega
theorem vc_X12_same_9 {z1 z9 : Int} (h0 : (z9 = 1 → 0 ≤ z1)) (h1 : (z9 = 0 → z1 < 0)) (h2 : ¬ z9 = 0) (h3 : (-1) ≤ z1 ∧ z1 ≤ 9) (h4 : 1 ≤ z9 ∧ z9 ≤ 1) : z9 = 1 := by omega
theorem vc_X12_same_10 {z1 z9 : Int} (h0 : 0 ≤ z1) (h1 : (z9 = 1 → 0 ≤ z1)) (h2 : (z9 = 0 → z1 < 0)) (h3 : (-1) ≤ z1 ∧ z1 ≤ 9) (h4 : 1 ≤ z9 ∧ z9 ≤ 1) : 0 ≤ z1 ∧ z1 ≤ 9 := by omega
theorem vc_X12_same_11 {z32 z40 : Int} (h0 : ¬ z40 = 0) (h1 : (z40 = 1 → 0 ≤ z32)) (h2 : (z40 = 0 → z32 < 0)) (h3 : (-1) ≤ z32 ∧ z32 ≤ 9) (h4 : 0 ≤ z40 ∧ z40 ≤ 1) : 1 ≤ z40 ∧ z40 ≤ 1 := by omega
theorem vc_X12_same_12 {z32 z40 : Int} (h0 : (z40 = 1 → 0 ≤ z32)) (h1 : (z40 = 0 → z32 < 0)) (h2 : ¬ z40 = 0) (h3 : (-1) ≤ z32 ∧ z32 ≤ 9) (h4 : 1 ≤ z40 ∧ z40 ≤ 1) : z40 = 1 := by omega
theorem vc_X12_same_13 {z32 z40 : Int} (h0 : 0 ≤ z32) (h1 : (z40 = 1 → 0 ≤ z32)) (h2 : (z40 = 0 → z32 < 0)) (h3 : (-1) ≤ z32 ∧ z32 ≤ 9) (h4 : 1 ≤ z40 ∧ z40 ≤ 1) : 0 ≤ z32 ∧ z32 ≤ 9 := by omega
theorem vc_X12_same_14 {z343 : Int} (h0 : (7 - z343) < ((0 : Nat) : Int)) (h1 : 0 ≤ z343 ∧ z343 ≤ 6) : False := by omega
theorem vc_X12_same_15 {z343 : Int} (h0 : 6 ≤ z343) (h1 : 0 ≤ z343 ∧ z343 ≤ 6) : 6 ≤ z343 ∧ z343 ≤ 6 := by omega
theorem vc_X12_same_16 {z1097 : Int} (h0 : (21 - z1097) < ((0 : Nat) : Int)) (h1 : 0 ≤ z1097 ∧ z1097 ≤ 20) : False := by omega
theorem vc_X12_same_17 {z1288 : Int} (h0 : (9 - z1288) < ((0 : Nat) : Int)) (h1 : 0 ≤ z1288 ∧ z1288 ≤ 8) : False := by omega
theorem vc_X12_same_18 {z1288 : Int} (h0 : 8 ≤ z1288) (h1 : 0 ≤ z1288 ∧ z1288 ≤ 8) : 8 ≤ z1288 ∧ z1288 ≤ 8 := by omega
theorem vc_X12_same_19 {z1288 : Int} (h0 : z1288 < 8) (h1 : 0 ≤ z1288 ∧ z1288 ≤ 8) : 0 ≤ z1288 ∧ z1288 ≤ 7 := by omega
theorem vc_X12_same_20 {z1289 : Int} (h0 : z1289 = 0) (h1 : 0 ≤ z1289 ∧ z1289 ≤ 1) : 0 ≤ z1289 ∧ z1289 ≤ 0 := by omega
theorem vc_X12_same_21 {z1289 : Int} (h0 : ¬ z1289 = 0) (h1 : 0 ≤ z1289 ∧ z1289 ≤ 1) : 1 ≤ z1289 ∧ z1289 ≤ 1 := by omega
theorem vc_X12_same_22 {p1 : Int} (h0 : 0 ≤ p1 ∧ p1 ≤ 2099) : ((40 * p1) + 5) % 40 = 5 := by omega
theorem vc_X12_same_23 {z1288 z1334 : Int} (h0 : z1334 ≤ z1288) (h1 : z1288 < 8) (h2 : 0 ≤ z1288 ∧ z1288 ≤ 7) (h3 : 0 ≤ z1334 ∧ z1334 ≤ 8) : 0 ≤ z1334 ∧ z1334 ≤ 7 := by omega
theorem vc_X12_same_24 {N z1288 z1334 : Int} (h0 : (9 - z1288) < N + 1) (h1 : z1288 < 8) (h2 : z1334 ≤ z1288) (h3 : 0 ≤ z1288 ∧ z1288 ≤ 7) (h4 : 0 ≤ z1334 ∧ z1334 ≤ 7) : (9 - (z1288 + 1)) < N := by omega
theorem vc_X12_same_25 {z1288 z1334 : Int} (h0 : z1288 < z1334) (h1 : z1288 < 8) (h2 : 0 ≤ z1288 ∧ z1288 ≤ 7) (h3 : 0 ≤ z1334 ∧ z1334 ≤ 8) : 1 ≤ z1334 ∧ z1334 ≤ 8 := by omega
theorem vc_X12_same_26 {N p1 p2 z1288 z1334 z1349 z1352 : Int} (h0 : (9 - z1288) < N + 1) (h1 : z1288 < 8) (h2 : z1288 < z1334) (h3 : ((((40 * p1) + 26) + z1288) % 40 = 0 → -1 ≤ z1349 ∧ z1349 ≤ 9)) (h4 : ((((40 * p1) + 26) + z1288) % 40 = 4 → 0 ≤ z1349 ∧ z1349 ≤ 20)) (h5 : ((((40 * p1) + 26) + z1288) % 40 = 5 → 0 ≤ z1349 ∧ z1349 ≤ 8)) (h6 : ((((40 * p2) + 26) + z1288) % 40 = 0 → -1 ≤ z1352 ∧ z1352 ≤ 9)) (h7 : ((((40 * p2) + 26) + z1288) % 40 = 4 → 0 ≤ z1352 ∧ z1352 ≤ 20)) (h8 : ((((40 * p2) + 26) + z1288) % 40 = 5 → 0 ≤ z1352 ∧ z1352 ≤ 8)) (h9 : ¬ z1349 = z1352) (h10 : 0 ≤ p1 ∧ p1 ≤ 2099) (h11 : 0 ≤ p2 ∧ p2 ≤ 2099) (h12 : 0 ≤ z1288 ∧ z1288 ≤ 7) (h13 : 1 ≤ z1334 ∧ z1334 ≤ 8) (h14 : (-2147483648) ≤ z1349 ∧ z1349 ≤ 2147483647) (h15 : (-2147483648) ≤ z1352 ∧ z1352 ≤ 2147483647) : (9 - (z1288 + 1)) < N := by omega
theorem vc_X12_same_27 {N p1 p2 z1288 z1334 z1349 z1352 : Int} (h0 : (9 - z1288) < N + 1) (h1 : z1288 < 8) (h2 : z1288 < z1334) (h3 : ((((40 * p1) + 26) + z1288) % 40 = 0 → -1 ≤ z1349 ∧ z1349 ≤ 9)) (h4 : ((((40 * p1) + 26) + z1288) % 40 = 4 → 0 ≤ z1349 ∧ z1349 ≤ 20)) (h5 : ((((40 * p1) + 26) + z1288) % 40 = 5 → 0 ≤ z1349 ∧ z1349 ≤ 8)) (h6 : ((((40 * p2) + 26) + z1288) % 40 = 0 → -1 ≤ z1352 ∧ z1352 ≤ 9)) (h7 : ((((40 * p2) + 26) + z1288) % 40 = 4 → 0 ≤ z1352 ∧ z1352 ≤ 20)) (h8 : ((((40 * p2) + 26) + z1288) % 40 = 5 → 0 ≤ z1352 ∧ z1352 ≤ 8)) (h9 : z1349 = z1352) (h10 : 0 ≤ p1 ∧ p1 ≤ 2099) (h11 : 0 ≤ p2 ∧ p2 ≤ 2099) (h12 : 0 ≤ z1288 ∧ z1288 ≤ 7) (h13 : 1 ≤ z1334 ∧ z1334 ≤ 8) (h14 : (-2147483648) ≤ z1349 ∧ z1349 ≤ 2147483647) (h15 : (-2147483648) ≤ z1352 ∧ z1352 ≤ 2147483647) : (9 - (z1288 + 1)) < N := by omega
theorem vc_X12_same_28  : (9 - 0) < ((10 : Nat) : Int) := by omega
theorem vc_X12_same_29 {z1097 : Int} (h0 : 20 ≤ z1097) (h1 : 0 ≤ z1097 ∧ z1097 ≤ 20) : 20 ≤ z1097 ∧ z1097 ≤ 20 := by omega
theorem vc_X12_same_30 {z1097 : Int} (h0 : z1097 < 20) (h1 : 0 ≤ z1097 ∧ z1097 ≤ 20) : 0 ≤ z1097 ∧ z1097 ≤ 19 := by omega
theorem vc_X12_same_31 {z1098 : Int} (h0 : z1098 = 0) (h1 : 0 ≤ z1098 ∧ z1098 ≤ 1) : 0 ≤ z1098 ∧ z1098 ≤ 0 := by omega
theorem vc_X12_same_32 {z1098 : Int} (h0 : ¬ z1098 = 0) (h1 : 0 ≤ z1098 ∧ z1098 ≤ 1) : 1 ≤ z1098 ∧ z1098 ≤ 1 := by omega
theorem vc_X12_same_33 {p1 : Int} (h0 : 0 ≤ p1 ∧ p1 ≤ 2099) : ((40 * p1) + 4) % 40 = 4 := by omega
theorem vc_X12_same_34 {z1097 z1362 : Int} (h0 : z1362 ≤ z1097) (h1 : z1097 < 20) (h2 : 0 ≤ z1097 ∧ z1097 ≤ 19) (h3 : 0 ≤ z1362 ∧ z1362 ≤ 20) : 0 ≤ z1362 ∧ z1362 ≤ 19 := by omega
theorem vc_X12_same_35 {N z1097 z1362 : Int} (h0 : (21 - z1097) < N + 1) (h1 : z1097 < 20) (h2 : z1362 ≤ z1097) (h3 : 0 ≤ z1097 ∧ z1097 ≤ 19) (h4 : 0 ≤ z1362 ∧ z1362 ≤ 19) : (21 - (z1097 + 1)) < N := by omega
theorem vc_X12_same_36 {z1097 z1362 : Int} (h0 : z1097 < z1362) (h1 : z1097 < 20) (h2 : 0 ≤ z1097 ∧ z1097 ≤ 19) (h3 : 0 ≤ z1362 ∧ z1362 ≤ 20) : 1 ≤ z1362 ∧ z1362 ≤ 20 := by omega
theorem vc_X12_same_37 {N p1 p2 z1097 z1362 z1377 z1380 : Int} (h0 : (21 - z1097) < N + 1) (h1 : z1097 < 20) (h2 : z1097 < z1362) (h3 : ((((40 * p1) + 6) + z1097) % 40 = 0 → -1 ≤ z1377 ∧ z1377 ≤ 9)) (h4 : ((((40 * p1) + 6) + z1097) % 40 = 4 → 0 ≤ z1377 ∧ z1377 ≤ 20)) (h5 : ((((40 * p1) + 6) + z1097) % 40 = 5 → 0 ≤ z1377 ∧ z1377 ≤ 8)) (h6 : ((((40 * p2) + 6) + z1097) % 40 = 0 → -1 ≤ z1380 ∧ z1380 ≤ 9)) (h7 : ((((40 * p2) + 6) + z1097) % 40 = 4 → 0 ≤ z1380 ∧ z1380 ≤ 20)) (h8 : ((((40 * p2) + 6) + z1097) % 40 = 5 → 0 ≤ z1380 ∧ z1380 ≤ 8)) (h9 : ¬ z1377 = z1380) (h10 : 0 ≤ p1 ∧ p1 ≤ 2099) (h11 : 0 ≤ p2 ∧ p2 ≤ 2099) (h12 : 0 ≤ z1097 ∧ z1097 ≤ 19) (h13 : 1 ≤ z1362 ∧ z1362 ≤ 20) (h14 : (-2147483648) ≤ z1377 ∧ z1377 ≤ 2147483647) (h15 : (-2147483648) ≤ z1380 ∧ z1380 ≤ 2147483647) : (21 - (z1097 + 1)) < N := by omega
theorem vc_X12_same_38 {N p1 p2 z1097 z1362 z1377 z1380 : Int} (h0 : (21 - z1097) < N + 1) (h1 : z1097 < 20) (h2 : z1097 < z1362) (h3 : ((((40 * p1) + 6) + z1097) % 40 = 0 → -1 ≤ z1377 ∧ z1377 ≤ 9)) (h4 : ((((40 * p1) + 6) + z1097) % 40 = 4 → 0 ≤ z1377 ∧ z1377 ≤ 20)) (h5 : ((((40 * p1) + 6) + z1097) % 40 = 5 → 0 ≤ z1377 ∧ z1377 ≤ 8)) (h6 : ((((40 * p2) + 6) + z1097) % 40 = 0 → -1 ≤ z1380 ∧ z1380 ≤ 9)) (h7 : ((((40 * p2) + 6) + z1097) % 40 = 4 → 0 ≤ z1380 ∧ z1380 ≤ 20)) (h8 : ((((40 * p2) + 6) + z1097) % 40 = 5 → 0 ≤ z1380 ∧ z1380 ≤ 8)) (h9 : z1377 = z1380) (h10 : 0 ≤ p1 ∧ p1 ≤ 2099) (h11 : 0 ≤ p2 ∧ p2 ≤ 2099) (h12 : 0 ≤ z1097 ∧ z1097 ≤ 19) (h13 : 1 ≤ z1362 ∧ z1362 ≤ 20) (h14 : (-2147483648) ≤ z1377 ∧ z1377 ≤ 2147483647) (h15 : (-2147483648) ≤ z1380 ∧ z1380 ≤ 2147483647) : (21 - (z1097 + 1)) < N := by omega
theorem vc_X12_same_39  : (21 - 0) < ((22 : Nat) : Int) := by omega
theorem vc_X12_same_40 {z343 : Int} (h0 : z343 < 6) (h1 : 0 ≤ z343 ∧ z343 ≤ 6) : 0 ≤ z343 ∧ z343 ≤ 5 := by omega
theorem vc_X12_same_41 {z344 : Int} (h0 : z344 = 0) (h1 : 0 ≤ z344 ∧ z344 ≤ 1) : 0 ≤ z344 ∧ z344 ≤ 0 := by omega
theorem vc_X12_same_42 {N z343 : Int} (h0 : (7 - z343) < N + 1) (h1 : z343 < 6) (h2 : 0 ≤ z343 ∧ z343 ≤ 5) : (7 - (z343 + 1)) < N := by omega
theorem vc_X12_same_43 {z344 : Int} (h0 : ¬ z344 = 0) (h1 : 0 ≤ z344 ∧ z344 ≤ 1) : 1 ≤ z344 ∧ z344 ≤ 1 := by omega
theorem vc_X12_same_44 {N p1 p2 z1396 z1399 z343 : Int} (h0 : (7 - z343) < N + 1) (h1 : z343 < 6) (h2 : (((40 * p1) + z343) % 40 = 0 → -1 ≤ z1396 ∧ z1396 ≤ 9)) (h3 : (((40 * p1) + z343) % 40 = 4 → 0 ≤ z1396 ∧ z1396 ≤ 20)) (h4 : (((40 * p1) + z343) % 40 = 5 → 0 ≤ z1396 ∧ z1396 ≤ 8)) (h5 : (((40 * p2) + z343) % 40 = 0 → -1 ≤ z1399 ∧ z1399 ≤ 9)) (h6 : (((40 * p2) + z343) % 40 = 4 → 0 ≤ z1399 ∧ z1399 ≤ 20)) (h7 : (((40 * p2) + z343) % 40 = 5 → 0 ≤ z1399 ∧ z1399 ≤ 8)) (h8 : ¬ z1396 = z1399) (h9 : 0 ≤ p1 ∧ p1 ≤ 2099) (h10 : 0 ≤ p2 ∧ p2 ≤ 2099) (h11 : (-2147483648) ≤ z1396 ∧ z1396 ≤ 2147483647) (h12 : (-2147483648) ≤ z1399 ∧ z1399 ≤ 2147483647) (h13 : 0 ≤ z343 ∧ z343 ≤ 5) : (7 - (z343 + 1)) < N := by omega
theorem vc_X12_same_45 {N p1 p2 z1396 z1399 z343 : Int} (h0 : (7 - z343) < N + 1) (h1 : z343 < 6) (h2 : (((40 * p1) + z343) % 40 = 0 → -1 ≤ z1396 ∧ z1396 ≤ 9)) (h3 : (((40 * p1) + z343) % 40 = 4 → 0 ≤ z1396 ∧ z1396 ≤ 20)) (h4 : (((40 * p1) + z343) % 40 = 5 → 0 ≤ z1396 ∧ z1396 ≤ 8)) (h5 : (((40 * p2) + z343) % 40 = 0 → -1 ≤ z1399 ∧ z1399 ≤ 9)) (h6 : (((40 * p2) + z343) % 40 = 4 → 0 ≤ z1399 ∧ z1399 ≤ 20)) (h7 : (((40 * p2) + z343) % 40 = 5 → 0 ≤ z1399 ∧ z1399 ≤ 8)) (h8 : z1396 = z1399) (h9 : 0 ≤ p1 ∧ p1 ≤ 2099) (h10 : 0 ≤ p2 ∧ p2 ≤ 2099) (h11 : (-2147483648) ≤ z1396 ∧ z1396 ≤ 2147483647) (h12 : (-2147483648) ≤ z1399 ∧ z1399 ≤ 2147483647) (h13 : 0 ≤ z343 ∧ z343 ≤ 5) : (7 - (z343 + 1)) < N := by omega
theorem vc_X12_same_46  : (7 - 0) < ((8 : Nat) : Int) := by omega
theorem vc_X12_same_47 {z32 z40 : Int} (h0 : z40 = 0) (h1 : (z40 = 1 → 0 ≤ z32)) (h2 : (z40 = 0 → z32 < 0)) (h3 : (-1) ≤ z32 ∧ z32 ≤ 9) (h4 : 0 ≤ z40 ∧ z40 ≤ 1) : 0 ≤ z40 ∧ z40 ≤ 0 := by omega
theorem vc_X12_same_48 {z32 z40 : Int} (h0 : (z40 = 1 → 0 ≤ z32)) (h1 : (z40 = 0 → z32 < 0)) (h2 : z40 = 0) (h3 : (-1) ≤ z32 ∧ z32 ≤ 9) (h4 : 0 ≤ z40 ∧ z40 ≤ 0) : z40 = 0 := by omega
theorem vc_X12_same_49 {z32 z40 : Int} (h0 : z32 < 0) (h1 : (z40 = 1 → 0 ≤ z32)) (h2 : (z40 = 0 → z32 < 0)) (h3 : (-1) ≤ z32 ∧ z32 ≤ 9) (h4 : 0 ≤ z40 ∧ z40 ≤ 0) : (-1) ≤ z32 ∧ z32 ≤ (-1) := by omega
set_option maxRecDepth 4000 in
set_option maxHeartbeats 4000000 in
theorem c_X12_same {l : Launch} {D : va_G} {c : Nat → ClassId} {H0 : Heap} {sa : Nat × Nat × (Nat → Int32)} {w : mW} {μ : mM} (hw : mWF w) (hT : mT w μ) {p1 : Int} (hp1 : 0 ≤ p1 ∧ p1 ≤ 2099) {p2 : Int} (hp2 : 0 ≤ p2 ∧ p2 ≤ 2099) : sC (gG l D c H0 sa) mX12_same 2 0 0 [.ref 106, iv p1, iv p2] (mk w μ) (qP w μ (fun z => (0 ≤ z ∧ z ≤ 1) ∧ True)) := by
  refine sC.of rfl (by decide) (le_t rfl) ?_
  refine mr_lvE (lv' := [(0, .ref 106), (1, iv p1), (2, iv p2)]) rfl ?_
  refine sv_aload_n (pc := 0) dX12_same_0 rfl rfl ?_
  refine mr_iload_n (pc := 1) (z := p1) dX12_same_1 rfl rfl ?_
  obtain ⟨z1, q2⟩ : ∃ z, μ 126 ((40 * p1).toNat) = z := ⟨_, rfl⟩
  have h3 := rt7 hT (A_126 hw) (vc_X12_same_1 hp1) q2
  have h4 : (-1) ≤ z1 ∧ z1 ≤ 9 := h3.2.1 (vc_X12_same_2 hp1)
  refine mr_cVP (pc := 2) (c_X12_isThere hw hT hp1 q2) (gOk _ _ _ _ _) dX12_same_2 (tX12_isThere _ _ _ _ _) ⟨wV_X12_isThere, wL_X12_isThere⟩ wM_X12_151 (gCX12 _ _ _ _ _) rfl (A_106 hw) rfl ⟨le_t rfl, le_t rfl⟩ ⟨le_t rfl, le_t rfl⟩ rfl (le_t rfl) fun z9 h8 => ?_
  refine mr_if_eq (pc := 5) (tgt := 16) dX12_same_5 (by decide) (r32 h8.1 rfl) (fun h10 => ?_) (fun h10 => ?_)
  · have h11 : 0 ≤ z9 ∧ z9 ≤ 0 := (vc_X12_same_3 h10 h8.2.1 h8.2.2.1 h4 h8.1)
    have h12 : z1 < 0 := (h8.2.2.1 (vc_X12_same_4 h8.2.1 h8.2.2.1 h10 h4 h11))
    have h13 : (-1) ≤ z1 ∧ z1 ≤ (-1) := (vc_X12_same_5 h12 h8.2.1 h8.2.2.1 h4 h11)
    refine sv_aload_n (pc := 16) dX12_same_16 rfl rfl ?_
    refine mr_iload_n (pc := 17) (z := p1) dX12_same_17 rfl rfl ?_
    refine mr_cVP (pc := 18) (c_X12_isThere hw hT hp1 q2) (gOk _ _ _ _ _) dX12_same_18 (tX12_isThere _ _ _ _ _) ⟨wV_X12_isThere, wL_X12_isThere⟩ wM_X12_151 (gCX12 _ _ _ _ _) rfl (A_106 hw) rfl ⟨le_t rfl, le_t rfl⟩ ⟨le_t rfl, le_t rfl⟩ rfl (le_t rfl) fun z18 h17 => ?_
    refine sv_aload_n (pc := 21) dX12_same_21 rfl rfl ?_
    refine mr_iload_n (pc := 22) (z := p2) dX12_same_22 rfl rfl ?_
    obtain ⟨z19, q20⟩ : ∃ z, μ 126 ((40 * p2).toNat) = z := ⟨_, rfl⟩
    have h21 := rt7 hT (A_126 hw) (vc_X12_same_6 hp2) q20
    have h22 : (-1) ≤ z19 ∧ z19 ≤ 9 := h21.2.1 (vc_X12_same_7 hp2)
    refine mr_cVP (pc := 23) (c_X12_isThere hw hT hp2 q20) (gOk _ _ _ _ _) dX12_same_23 (tX12_isThere _ _ _ _ _) ⟨wV_X12_isThere, wL_X12_isThere⟩ wM_X12_151 (gCX12 _ _ _ _ _) rfl (A_106 hw) rfl ⟨le_t rfl, le_t rfl⟩ ⟨le_t rfl, le_t rfl⟩ rfl (le_t rfl) fun z27 h26 => ?_
    refine mr_icmp_ne (pc := 26) (tgt := 33) dX12_same_26 (by decide) (r32 h17.1 rfl) (r32 h26.1 rfl) (fun h28 => ?_) (fun h28 => ?_)
    · refine mr_iconst (pc := 33) (z := 0) dX12_same_33 ?_
      exact mr_zretP dX12_same_34 rfl (rW (c := 0) (d := 1) (rR (x := 0)) rfl) (le_t rfl) (le_t rfl) ⟨(rW (c := 0) (d := 1) (rR (x := 0)) rfl), trivial⟩
    refine mr_iconst (pc := 29) (z := 1) dX12_same_29 ?_
    refine sv_goto (pc := 30) (tgt := 34) dX12_same_30 (by decide) ?_
    exact mr_zretP dX12_same_34 rfl (rW (c := 0) (d := 1) (rR (x := 1)) rfl) (le_t rfl) (le_t rfl) ⟨(rW (c := 0) (d := 1) (rR (x := 1)) rfl), trivial⟩
  have h29 : 1 ≤ z9 ∧ z9 ≤ 1 := (vc_X12_same_8 h10 h8.2.1 h8.2.2.1 h4 h8.1)
  have h30 : 0 ≤ z1 := (h8.2.1 (vc_X12_same_9 h8.2.1 h8.2.2.1 h10 h4 h29))
  have h31 : 0 ≤ z1 ∧ z1 ≤ 9 := (vc_X12_same_10 h30 h8.2.1 h8.2.2.1 h4 h29)
  refine sv_aload_n (pc := 8) dX12_same_8 rfl rfl ?_
  refine mr_iload_n (pc := 9) (z := p2) dX12_same_9 rfl rfl ?_
  obtain ⟨z32, q33⟩ : ∃ z, μ 126 ((40 * p2).toNat) = z := ⟨_, rfl⟩
  have h34 := rt7 hT (A_126 hw) (vc_X12_same_6 hp2) q33
  have h35 : (-1) ≤ z32 ∧ z32 ≤ 9 := h34.2.1 (vc_X12_same_7 hp2)
  refine mr_cVP (pc := 10) (c_X12_isThere hw hT hp2 q33) (gOk _ _ _ _ _) dX12_same_10 (tX12_isThere _ _ _ _ _) ⟨wV_X12_isThere, wL_X12_isThere⟩ wM_X12_151 (gCX12 _ _ _ _ _) rfl (A_106 hw) rfl ⟨le_t rfl, le_t rfl⟩ ⟨le_t rfl, le_t rfl⟩ rfl (le_t rfl) fun z40 h39 => ?_
  refine mr_if_ne (pc := 13) (tgt := 35) dX12_same_13 (by decide) (r32 h39.1 rfl) (fun h41 => ?_) (fun h41 => ?_)
  · have h42 : 1 ≤ z40 ∧ z40 ≤ 1 := (vc_X12_same_11 h41 h39.2.1 h39.2.2.1 h35 h39.1)
    have h43 : 0 ≤ z32 := (h39.2.1 (vc_X12_same_12 h39.2.1 h39.2.2.1 h41 h35 h42))
    have h44 : 0 ≤ z32 ∧ z32 ≤ 9 := (vc_X12_same_13 h43 h39.2.1 h39.2.2.1 h35 h42)
    refine mr_iconst (pc := 35) (z := 1) dX12_same_35 ?_
    refine mr_istore_n (pc := 36) (lv' := [(3, iv 1), (0, .ref 106), (1, iv p1), (2, iv p2)]) dX12_same_36 rfl (by decide) rfl ?_
    refine mr_iconst (pc := 37) (z := 0) dX12_same_37 ?_
    refine mr_istore (pc := 38) (lv' := [(4, iv 0), (3, iv 1), (0, .ref 106), (1, iv p1), (2, iv p2)]) dX12_same_38 (by decide) rfl ?_
    have L345 : ∀ (nL345 : Nat) (z344 z343 : Int), True → (0 ≤ z344 ∧ z344 ≤ 1) → (0 ≤ z343 ∧ z343 ≤ 6) → (7 - z343) < (nL345 : Int) → sV (gG l D c H0 sa) mX12_same (sRm 2 0 0) (sZ (gG l D c H0 sa) 0 0 (qP w μ (fun z => (0 ≤ z ∧ z ≤ 1) ∧ True))) 40 [(0, .ref 106), (1, iv p1), (2, iv p2), (3, iv z344), (4, iv z343)] [] (mk w μ) 0 0 := by
      intro nL345
      induction nL345 with
      | zero => intro z344 z343 _ h346 h347 h351; exact ((vc_X12_same_14 h351 h347)).elim
      | succ nL345 ih352 =>
        intro z344 z343 _ h346 h347 h351
        refine mr_iload (pc := 40) (z := z343) dX12_same_40 rfl ?_
        refine mr_bipush (pc := 42) (z := 6) dX12_same_42 (by decide) ?_
        refine mr_icmp_ge (pc := 44) (tgt := 90) dX12_same_44 (by decide) (r32 h347 rfl) (r32 (rR (x := 6)) rfl) (fun h363 => ?_) (fun h363 => ?_)
        · have h364 : 6 ≤ z343 ∧ z343 ≤ 6 := (vc_X12_same_15 h363 h347)
          refine mr_iconst (pc := 90) (z := 0) dX12_same_90 ?_
          refine mr_istore (pc := 91) (lv' := [(4, iv 0), (0, .ref 106), (1, iv p1), (2, iv p2), (3, iv z344)]) dX12_same_91 (by decide) rfl ?_
          have L1099 : ∀ (nL1099 : Nat) (z1098 z1097 : Int), True → (0 ≤ z1098 ∧ z1098 ≤ 1) → (0 ≤ z1097 ∧ z1097 ≤ 20) → (21 - z1097) < (nL1099 : Int) → sV (gG l D c H0 sa) mX12_same (sRm 2 0 0) (sZ (gG l D c H0 sa) 0 0 (qP w μ (fun z => (0 ≤ z ∧ z ≤ 1) ∧ True))) 93 [(0, .ref 106), (1, iv p1), (2, iv p2), (3, iv z1098), (4, iv z1097)] [] (mk w μ) 0 0 := by
            intro nL1099
            induction nL1099 with
            | zero => intro z1098 z1097 _ h1100 h1101 h1105; exact ((vc_X12_same_16 h1105 h1101)).elim
            | succ nL1099 ih1106 =>
              intro z1098 z1097 _ h1100 h1101 h1105
              refine mr_iload (pc := 93) (z := z1097) dX12_same_93 rfl ?_
              refine mr_bipush (pc := 95) (z := 20) dX12_same_95 (by decide) ?_
              have J1123 : sV (gG l D c H0 sa) mX12_same (sRm 2 0 0) (sZ (gG l D c H0 sa) 0 0 (qP w μ (fun z => (0 ≤ z ∧ z ≤ 1) ∧ True))) 165 [(0, .ref 106), (1, iv p1), (2, iv p2), (3, iv z1098)] [] (mk w μ) 0 0 := by
                refine mr_iconst (pc := 165) (z := 0) dX12_same_165 ?_
                refine mr_istore (pc := 166) (lv' := [(4, iv 0), (0, .ref 106), (1, iv p1), (2, iv p2), (3, iv z1098)]) dX12_same_166 (by decide) rfl ?_
                have L1290 : ∀ (nL1290 : Nat) (z1289 z1288 : Int), True → (0 ≤ z1289 ∧ z1289 ≤ 1) → (0 ≤ z1288 ∧ z1288 ≤ 8) → (9 - z1288) < (nL1290 : Int) → sV (gG l D c H0 sa) mX12_same (sRm 2 0 0) (sZ (gG l D c H0 sa) 0 0 (qP w μ (fun z => (0 ≤ z ∧ z ≤ 1) ∧ True))) 168 [(0, .ref 106), (1, iv p1), (2, iv p2), (3, iv z1289), (4, iv z1288)] [] (mk w μ) 0 0 := by
                  intro nL1290
                  induction nL1290 with
                  | zero => intro z1289 z1288 _ h1291 h1292 h1296; exact ((vc_X12_same_17 h1296 h1292)).elim
                  | succ nL1290 ih1297 =>
                    intro z1289 z1288 _ h1291 h1292 h1296
                    refine mr_iload (pc := 168) (z := z1288) dX12_same_168 rfl ?_
                    refine mr_bipush (pc := 170) (z := 8) dX12_same_170 (by decide) ?_
                    refine mr_icmp_ge (pc := 172) (tgt := 240) dX12_same_172 (by decide) (r32 h1292 rfl) (r32 (rR (x := 8)) rfl) (fun h1314 => ?_) (fun h1314 => ?_)
                    · have h1315 : 8 ≤ z1288 ∧ z1288 ≤ 8 := (vc_X12_same_18 h1314 h1292)
                      refine mr_iload_n (pc := 240) (z := z1289) dX12_same_240 rfl rfl ?_
                      exact mr_zretP dX12_same_241 rfl h1291 (le_t rfl) (le_t rfl) ⟨h1291, trivial⟩
                    have h1316 : 0 ≤ z1288 ∧ z1288 ≤ 7 := (vc_X12_same_19 h1314 h1292)
                    refine mr_iload_n (pc := 175) (z := z1289) dX12_same_175 rfl rfl ?_
                    refine mr_if_eq (pc := 176) (tgt := 240) dX12_same_176 (by decide) (r32 h1291 rfl) (fun h1331 => ?_) (fun h1331 => ?_)
                    · have h1332 : 0 ≤ z1289 ∧ z1289 ≤ 0 := (vc_X12_same_20 h1331 h1291)
                      refine mr_iload_n (pc := 240) (z := z1289) dX12_same_240 rfl rfl ?_
                      exact mr_zretP dX12_same_241 rfl (rW (c := 0) (d := 1) h1332 rfl) (le_t rfl) (le_t rfl) ⟨(rW (c := 0) (d := 1) h1332 rfl), trivial⟩
                    have h1333 : 1 ≤ z1289 ∧ z1289 ≤ 1 := (vc_X12_same_21 h1331 h1291)
                    refine mr_iload (pc := 179) (z := z1288) dX12_same_179 rfl ?_
                    refine sv_aload_n (pc := 181) dX12_same_181 rfl rfl ?_
                    refine gf_X12_32 (pc := 182) dX12_same_182 wF_X12_148 (A_106 hw) hT ?_
                    refine mr_bipush (pc := 185) (z := 40) dX12_same_185 (by decide) ?_
                    refine mr_iload_n (pc := 187) (z := p1) dX12_same_187 rfl rfl ?_
                    refine mr_imul (pc := 188) (x := 40) (y := p1) dX12_same_188 ?_
                    refine mr_iconst (pc := 189) (z := 5) dX12_same_189 ?_
                    refine mr_iadd (pc := 190) (x := (40 * p1)) (y := 5) dX12_same_190 ?_
                    refine la_126 (pc := 191) dX12_same_191 (A_126 hw) hT (rIx (n := 84000) (rAdd (e := 5) (f := 83965) (rMulL (n := 40) (e := 0) (f := 83960) hp1 rfl) (rR (x := 5)) rfl) rfl) fun z1334 q1335 h1336 => ?_
                    have h1337 : 0 ≤ z1334 ∧ z1334 ≤ 8 := h1336.2.2.2 (vc_X12_same_22 hp1)
                    refine mr_icmp_ge (pc := 192) (tgt := 228) dX12_same_192 (by decide) (r32 h1316 rfl) (r32 h1337 rfl) (fun h1346 => ?_) (fun h1346 => ?_)
                    · have h1347 : 0 ≤ z1334 ∧ z1334 ≤ 7 := (vc_X12_same_23 h1346 h1314 h1316 h1337)
                      refine mr_iconst (pc := 228) (z := 1) dX12_same_228 ?_
                      refine sv_goto (pc := 229) (tgt := 233) dX12_same_229 (by decide) ?_
                      refine mr_istore_n (pc := 233) (lv' := [(3, iv 1), (0, .ref 106), (1, iv p1), (2, iv p2), (4, iv z1288)]) dX12_same_233 rfl (by decide) rfl ?_
                      refine mr_iinc (pc := 234) (lv' := [(4, iv (z1288 + 1)), (3, iv 1), (0, .ref 106), (1, iv p1), (2, iv p2)]) dX12_same_234 rfl (by decide) rfl ?_
                      refine sv_goto (pc := 237) (tgt := 168) dX12_same_237 (by decide) ?_
                      refine mr_lvS (lv' := [(0, .ref 106), (1, iv p1), (2, iv p2), (3, iv 1), (4, iv (z1288 + 1))]) (List.forall_mem_cons.mpr ⟨rfl, List.forall_mem_cons.mpr ⟨rfl, List.forall_mem_cons.mpr ⟨rfl, List.forall_mem_cons.mpr ⟨rfl, List.forall_mem_cons.mpr ⟨rfl, fun _ h => absurd h List.not_mem_nil⟩⟩⟩⟩⟩) ?_
                      exact ih1297 1 (z1288 + 1) trivial (rW (c := 0) (d := 1) (rR (x := 1)) rfl) (rW (c := 0) (d := 8) (rAdd (e := 1) (f := 8) h1316 (rR (x := 1)) rfl) rfl) (vc_X12_same_24 (nS h1296) h1314 h1346 h1316 h1347)
                    have h1348 : 1 ≤ z1334 ∧ z1334 ≤ 8 := (vc_X12_same_25 h1346 h1314 h1316 h1337)
                    refine sv_aload_n (pc := 195) dX12_same_195 rfl rfl ?_
                    refine gf_X12_32 (pc := 196) dX12_same_196 wF_X12_148 (A_106 hw) hT ?_
                    refine mr_bipush (pc := 199) (z := 40) dX12_same_199 (by decide) ?_
                    refine mr_iload_n (pc := 201) (z := p1) dX12_same_201 rfl rfl ?_
                    refine mr_imul (pc := 202) (x := 40) (y := p1) dX12_same_202 ?_
                    refine mr_bipush (pc := 203) (z := 26) dX12_same_203 (by decide) ?_
                    refine mr_iadd (pc := 205) (x := (40 * p1)) (y := 26) dX12_same_205 ?_
                    refine mr_iload (pc := 206) (z := z1288) dX12_same_206 rfl ?_
                    refine mr_iadd (pc := 208) (x := ((40 * p1) + 26)) (y := z1288) dX12_same_208 ?_
                    refine la_126 (pc := 209) dX12_same_209 (A_126 hw) hT (rIx (n := 84000) (rAdd (e := 26) (f := 83993) (rAdd (e := 26) (f := 83986) (rMulL (n := 40) (e := 0) (f := 83960) hp1 rfl) (rR (x := 26)) rfl) h1316 rfl) rfl) fun z1349 q1350 h1351 => ?_
                    refine sv_aload_n (pc := 210) dX12_same_210 rfl rfl ?_
                    refine gf_X12_32 (pc := 211) dX12_same_211 wF_X12_148 (A_106 hw) hT ?_
                    refine mr_bipush (pc := 214) (z := 40) dX12_same_214 (by decide) ?_
                    refine mr_iload_n (pc := 216) (z := p2) dX12_same_216 rfl rfl ?_
                    refine mr_imul (pc := 217) (x := 40) (y := p2) dX12_same_217 ?_
                    refine mr_bipush (pc := 218) (z := 26) dX12_same_218 (by decide) ?_
                    refine mr_iadd (pc := 220) (x := (40 * p2)) (y := 26) dX12_same_220 ?_
                    refine mr_iload (pc := 221) (z := z1288) dX12_same_221 rfl ?_
                    refine mr_iadd (pc := 223) (x := ((40 * p2) + 26)) (y := z1288) dX12_same_223 ?_
                    refine la_126 (pc := 224) dX12_same_224 (A_126 hw) hT (rIx (n := 84000) (rAdd (e := 26) (f := 83993) (rAdd (e := 26) (f := 83986) (rMulL (n := 40) (e := 0) (f := 83960) hp2 rfl) (rR (x := 26)) rfl) h1316 rfl) rfl) fun z1352 q1353 h1354 => ?_
                    refine mr_icmp_ne (pc := 225) (tgt := 232) dX12_same_225 (by decide) h1351.1 h1354.1 (fun h1355 => ?_) (fun h1355 => ?_)
                    · refine mr_iconst (pc := 232) (z := 0) dX12_same_232 ?_
                      refine mr_istore_n (pc := 233) (lv' := [(3, iv 0), (0, .ref 106), (1, iv p1), (2, iv p2), (4, iv z1288)]) dX12_same_233 rfl (by decide) rfl ?_
                      refine mr_iinc (pc := 234) (lv' := [(4, iv (z1288 + 1)), (3, iv 0), (0, .ref 106), (1, iv p1), (2, iv p2)]) dX12_same_234 rfl (by decide) rfl ?_
                      refine sv_goto (pc := 237) (tgt := 168) dX12_same_237 (by decide) ?_
                      refine mr_lvS (lv' := [(0, .ref 106), (1, iv p1), (2, iv p2), (3, iv 0), (4, iv (z1288 + 1))]) (List.forall_mem_cons.mpr ⟨rfl, List.forall_mem_cons.mpr ⟨rfl, List.forall_mem_cons.mpr ⟨rfl, List.forall_mem_cons.mpr ⟨rfl, List.forall_mem_cons.mpr ⟨rfl, fun _ h => absurd h List.not_mem_nil⟩⟩⟩⟩⟩) ?_
                      exact ih1297 0 (z1288 + 1) trivial (rW (c := 0) (d := 1) (rR (x := 0)) rfl) (rW (c := 0) (d := 8) (rAdd (e := 1) (f := 8) h1316 (rR (x := 1)) rfl) rfl) (vc_X12_same_26 (nS h1296) h1314 h1346 h1351.2.1 h1351.2.2.1 h1351.2.2.2 h1354.2.1 h1354.2.2.1 h1354.2.2.2 h1355 hp1 hp2 h1316 h1348 h1351.1 h1354.1)
                    refine mr_iconst (pc := 228) (z := 1) dX12_same_228 ?_
                    refine sv_goto (pc := 229) (tgt := 233) dX12_same_229 (by decide) ?_
                    refine mr_istore_n (pc := 233) (lv' := [(3, iv 1), (0, .ref 106), (1, iv p1), (2, iv p2), (4, iv z1288)]) dX12_same_233 rfl (by decide) rfl ?_
                    refine mr_iinc (pc := 234) (lv' := [(4, iv (z1288 + 1)), (3, iv 1), (0, .ref 106), (1, iv p1), (2, iv p2)]) dX12_same_234 rfl (by decide) rfl ?_
                    refine sv_goto (pc := 237) (tgt := 168) dX12_same_237 (by decide) ?_
                    refine mr_lvS (lv' := [(0, .ref 106), (1, iv p1), (2, iv p2), (3, iv 1), (4, iv (z1288 + 1))]) (List.forall_mem_cons.mpr ⟨rfl, List.forall_mem_cons.mpr ⟨rfl, List.forall_mem_cons.mpr ⟨rfl, List.forall_mem_cons.mpr ⟨rfl, List.forall_mem_cons.mpr ⟨rfl, fun _ h => absurd h List.not_mem_nil⟩⟩⟩⟩⟩) ?_
                    exact ih1297 1 (z1288 + 1) trivial (rW (c := 0) (d := 1) (rR (x := 1)) rfl) (rW (c := 0) (d := 8) (rAdd (e := 1) (f := 8) h1316 (rR (x := 1)) rfl) rfl) (vc_X12_same_27 (nS h1296) h1314 h1346 h1351.2.1 h1351.2.2.1 h1351.2.2.2 h1354.2.1 h1354.2.2.1 h1354.2.2.2 h1355 hp1 hp2 h1316 h1348 h1351.1 h1354.1)
                refine mr_lvS (lv' := [(0, .ref 106), (1, iv p1), (2, iv p2), (3, iv z1098), (4, iv 0)]) (List.forall_mem_cons.mpr ⟨rfl, List.forall_mem_cons.mpr ⟨rfl, List.forall_mem_cons.mpr ⟨rfl, List.forall_mem_cons.mpr ⟨rfl, List.forall_mem_cons.mpr ⟨rfl, fun _ h => absurd h List.not_mem_nil⟩⟩⟩⟩⟩) ?_
                exact L1290 10 z1098 0 trivial h1100 (rW (c := 0) (d := 8) (rR (x := 0)) rfl) vc_X12_same_28
              refine mr_icmp_ge (pc := 97) (tgt := 165) dX12_same_97 (by decide) (r32 h1101 rfl) (r32 (rR (x := 20)) rfl) (fun h1356 => ?_) (fun h1356 => ?_)
              · have h1357 : 20 ≤ z1097 ∧ z1097 ≤ 20 := (vc_X12_same_29 h1356 h1101)
                refine mr_lvS (lv' := [(0, .ref 106), (1, iv p1), (2, iv p2), (3, iv z1098)]) (List.forall_mem_cons.mpr ⟨rfl, List.forall_mem_cons.mpr ⟨rfl, List.forall_mem_cons.mpr ⟨rfl, List.forall_mem_cons.mpr ⟨rfl, fun _ h => absurd h List.not_mem_nil⟩⟩⟩⟩) ?_
                exact J1123 
              have h1358 : 0 ≤ z1097 ∧ z1097 ≤ 19 := (vc_X12_same_30 h1356 h1101)
              refine mr_iload_n (pc := 100) (z := z1098) dX12_same_100 rfl rfl ?_
              refine mr_if_eq (pc := 101) (tgt := 165) dX12_same_101 (by decide) (r32 h1100 rfl) (fun h1359 => ?_) (fun h1359 => ?_)
              · have h1360 : 0 ≤ z1098 ∧ z1098 ≤ 0 := (vc_X12_same_31 h1359 h1100)
                refine mr_lvS (lv' := [(0, .ref 106), (1, iv p1), (2, iv p2), (3, iv z1098)]) (List.forall_mem_cons.mpr ⟨rfl, List.forall_mem_cons.mpr ⟨rfl, List.forall_mem_cons.mpr ⟨rfl, List.forall_mem_cons.mpr ⟨rfl, fun _ h => absurd h List.not_mem_nil⟩⟩⟩⟩) ?_
                exact J1123 
              have h1361 : 1 ≤ z1098 ∧ z1098 ≤ 1 := (vc_X12_same_32 h1359 h1100)
              refine mr_iload (pc := 104) (z := z1097) dX12_same_104 rfl ?_
              refine sv_aload_n (pc := 106) dX12_same_106 rfl rfl ?_
              refine gf_X12_32 (pc := 107) dX12_same_107 wF_X12_148 (A_106 hw) hT ?_
              refine mr_bipush (pc := 110) (z := 40) dX12_same_110 (by decide) ?_
              refine mr_iload_n (pc := 112) (z := p1) dX12_same_112 rfl rfl ?_
              refine mr_imul (pc := 113) (x := 40) (y := p1) dX12_same_113 ?_
              refine mr_iconst (pc := 114) (z := 4) dX12_same_114 ?_
              refine mr_iadd (pc := 115) (x := (40 * p1)) (y := 4) dX12_same_115 ?_
              refine la_126 (pc := 116) dX12_same_116 (A_126 hw) hT (rIx (n := 84000) (rAdd (e := 4) (f := 83964) (rMulL (n := 40) (e := 0) (f := 83960) hp1 rfl) (rR (x := 4)) rfl) rfl) fun z1362 q1363 h1364 => ?_
              have h1365 : 0 ≤ z1362 ∧ z1362 ≤ 20 := h1364.2.2.1 (vc_X12_same_33 hp1)
              refine mr_icmp_ge (pc := 117) (tgt := 153) dX12_same_117 (by decide) (r32 h1358 rfl) (r32 h1365 rfl) (fun h1374 => ?_) (fun h1374 => ?_)
              · have h1375 : 0 ≤ z1362 ∧ z1362 ≤ 19 := (vc_X12_same_34 h1374 h1356 h1358 h1365)
                refine mr_iconst (pc := 153) (z := 1) dX12_same_153 ?_
                refine sv_goto (pc := 154) (tgt := 158) dX12_same_154 (by decide) ?_
                refine mr_istore_n (pc := 158) (lv' := [(3, iv 1), (0, .ref 106), (1, iv p1), (2, iv p2), (4, iv z1097)]) dX12_same_158 rfl (by decide) rfl ?_
                refine mr_iinc (pc := 159) (lv' := [(4, iv (z1097 + 1)), (3, iv 1), (0, .ref 106), (1, iv p1), (2, iv p2)]) dX12_same_159 rfl (by decide) rfl ?_
                refine sv_goto (pc := 162) (tgt := 93) dX12_same_162 (by decide) ?_
                refine mr_lvS (lv' := [(0, .ref 106), (1, iv p1), (2, iv p2), (3, iv 1), (4, iv (z1097 + 1))]) (List.forall_mem_cons.mpr ⟨rfl, List.forall_mem_cons.mpr ⟨rfl, List.forall_mem_cons.mpr ⟨rfl, List.forall_mem_cons.mpr ⟨rfl, List.forall_mem_cons.mpr ⟨rfl, fun _ h => absurd h List.not_mem_nil⟩⟩⟩⟩⟩) ?_
                exact ih1106 1 (z1097 + 1) trivial (rW (c := 0) (d := 1) (rR (x := 1)) rfl) (rW (c := 0) (d := 20) (rAdd (e := 1) (f := 20) h1358 (rR (x := 1)) rfl) rfl) (vc_X12_same_35 (nS h1105) h1356 h1374 h1358 h1375)
              have h1376 : 1 ≤ z1362 ∧ z1362 ≤ 20 := (vc_X12_same_36 h1374 h1356 h1358 h1365)
              refine sv_aload_n (pc := 120) dX12_same_120 rfl rfl ?_
              refine gf_X12_32 (pc := 121) dX12_same_121 wF_X12_148 (A_106 hw) hT ?_
              refine mr_bipush (pc := 124) (z := 40) dX12_same_124 (by decide) ?_
              refine mr_iload_n (pc := 126) (z := p1) dX12_same_126 rfl rfl ?_
              refine mr_imul (pc := 127) (x := 40) (y := p1) dX12_same_127 ?_
              refine mr_bipush (pc := 128) (z := 6) dX12_same_128 (by decide) ?_
              refine mr_iadd (pc := 130) (x := (40 * p1)) (y := 6) dX12_same_130 ?_
              refine mr_iload (pc := 131) (z := z1097) dX12_same_131 rfl ?_
              refine mr_iadd (pc := 133) (x := ((40 * p1) + 6)) (y := z1097) dX12_same_133 ?_
              refine la_126 (pc := 134) dX12_same_134 (A_126 hw) hT (rIx (n := 84000) (rAdd (e := 6) (f := 83985) (rAdd (e := 6) (f := 83966) (rMulL (n := 40) (e := 0) (f := 83960) hp1 rfl) (rR (x := 6)) rfl) h1358 rfl) rfl) fun z1377 q1378 h1379 => ?_
              refine sv_aload_n (pc := 135) dX12_same_135 rfl rfl ?_
              refine gf_X12_32 (pc := 136) dX12_same_136 wF_X12_148 (A_106 hw) hT ?_
              refine mr_bipush (pc := 139) (z := 40) dX12_same_139 (by decide) ?_
              refine mr_iload_n (pc := 141) (z := p2) dX12_same_141 rfl rfl ?_
              refine mr_imul (pc := 142) (x := 40) (y := p2) dX12_same_142 ?_
              refine mr_bipush (pc := 143) (z := 6) dX12_same_143 (by decide) ?_
              refine mr_iadd (pc := 145) (x := (40 * p2)) (y := 6) dX12_same_145 ?_
              refine mr_iload (pc := 146) (z := z1097) dX12_same_146 rfl ?_
              refine mr_iadd (pc := 148) (x := ((40 * p2) + 6)) (y := z1097) dX12_same_148 ?_
              refine la_126 (pc := 149) dX12_same_149 (A_126 hw) hT (rIx (n := 84000) (rAdd (e := 6) (f := 83985) (rAdd (e := 6) (f := 83966) (rMulL (n := 40) (e := 0) (f := 83960) hp2 rfl) (rR (x := 6)) rfl) h1358 rfl) rfl) fun z1380 q1381 h1382 => ?_
              refine mr_icmp_ne (pc := 150) (tgt := 157) dX12_same_150 (by decide) h1379.1 h1382.1 (fun h1383 => ?_) (fun h1383 => ?_)
              · refine mr_iconst (pc := 157) (z := 0) dX12_same_157 ?_
                refine mr_istore_n (pc := 158) (lv' := [(3, iv 0), (0, .ref 106), (1, iv p1), (2, iv p2), (4, iv z1097)]) dX12_same_158 rfl (by decide) rfl ?_
                refine mr_iinc (pc := 159) (lv' := [(4, iv (z1097 + 1)), (3, iv 0), (0, .ref 106), (1, iv p1), (2, iv p2)]) dX12_same_159 rfl (by decide) rfl ?_
                refine sv_goto (pc := 162) (tgt := 93) dX12_same_162 (by decide) ?_
                refine mr_lvS (lv' := [(0, .ref 106), (1, iv p1), (2, iv p2), (3, iv 0), (4, iv (z1097 + 1))]) (List.forall_mem_cons.mpr ⟨rfl, List.forall_mem_cons.mpr ⟨rfl, List.forall_mem_cons.mpr ⟨rfl, List.forall_mem_cons.mpr ⟨rfl, List.forall_mem_cons.mpr ⟨rfl, fun _ h => absurd h List.not_mem_nil⟩⟩⟩⟩⟩) ?_
                exact ih1106 0 (z1097 + 1) trivial (rW (c := 0) (d := 1) (rR (x := 0)) rfl) (rW (c := 0) (d := 20) (rAdd (e := 1) (f := 20) h1358 (rR (x := 1)) rfl) rfl) (vc_X12_same_37 (nS h1105) h1356 h1374 h1379.2.1 h1379.2.2.1 h1379.2.2.2 h1382.2.1 h1382.2.2.1 h1382.2.2.2 h1383 hp1 hp2 h1358 h1376 h1379.1 h1382.1)
              refine mr_iconst (pc := 153) (z := 1) dX12_same_153 ?_
              refine sv_goto (pc := 154) (tgt := 158) dX12_same_154 (by decide) ?_
              refine mr_istore_n (pc := 158) (lv' := [(3, iv 1), (0, .ref 106), (1, iv p1), (2, iv p2), (4, iv z1097)]) dX12_same_158 rfl (by decide) rfl ?_
              refine mr_iinc (pc := 159) (lv' := [(4, iv (z1097 + 1)), (3, iv 1), (0, .ref 106), (1, iv p1), (2, iv p2)]) dX12_same_159 rfl (by decide) rfl ?_
              refine sv_goto (pc := 162) (tgt := 93) dX12_same_162 (by decide) ?_
              refine mr_lvS (lv' := [(0, .ref 106), (1, iv p1), (2, iv p2), (3, iv 1), (4, iv (z1097 + 1))]) (List.forall_mem_cons.mpr ⟨rfl, List.forall_mem_cons.mpr ⟨rfl, List.forall_mem_cons.mpr ⟨rfl, List.forall_mem_cons.mpr ⟨rfl, List.forall_mem_cons.mpr ⟨rfl, fun _ h => absurd h List.not_mem_nil⟩⟩⟩⟩⟩) ?_
              exact ih1106 1 (z1097 + 1) trivial (rW (c := 0) (d := 1) (rR (x := 1)) rfl) (rW (c := 0) (d := 20) (rAdd (e := 1) (f := 20) h1358 (rR (x := 1)) rfl) rfl) (vc_X12_same_38 (nS h1105) h1356 h1374 h1379.2.1 h1379.2.2.1 h1379.2.2.2 h1382.2.1 h1382.2.2.1 h1382.2.2.2 h1383 hp1 hp2 h1358 h1376 h1379.1 h1382.1)
          refine mr_lvS (lv' := [(0, .ref 106), (1, iv p1), (2, iv p2), (3, iv z344), (4, iv 0)]) (List.forall_mem_cons.mpr ⟨rfl, List.forall_mem_cons.mpr ⟨rfl, List.forall_mem_cons.mpr ⟨rfl, List.forall_mem_cons.mpr ⟨rfl, List.forall_mem_cons.mpr ⟨rfl, fun _ h => absurd h List.not_mem_nil⟩⟩⟩⟩⟩) ?_
          exact L1099 22 z344 0 trivial h346 (rW (c := 0) (d := 20) (rR (x := 0)) rfl) vc_X12_same_39
        have h1384 : 0 ≤ z343 ∧ z343 ≤ 5 := (vc_X12_same_40 h363 h347)
        refine mr_iload_n (pc := 47) (z := z344) dX12_same_47 rfl rfl ?_
        refine mr_if_eq (pc := 48) (tgt := 82) dX12_same_48 (by decide) (r32 h346 rfl) (fun h1393 => ?_) (fun h1393 => ?_)
        · have h1394 : 0 ≤ z344 ∧ z344 ≤ 0 := (vc_X12_same_41 h1393 h346)
          refine mr_iconst (pc := 82) (z := 0) dX12_same_82 ?_
          refine mr_istore_n (pc := 83) (lv' := [(3, iv 0), (0, .ref 106), (1, iv p1), (2, iv p2), (4, iv z343)]) dX12_same_83 rfl (by decide) rfl ?_
          refine mr_iinc (pc := 84) (lv' := [(4, iv (z343 + 1)), (3, iv 0), (0, .ref 106), (1, iv p1), (2, iv p2)]) dX12_same_84 rfl (by decide) rfl ?_
          refine sv_goto (pc := 87) (tgt := 40) dX12_same_87 (by decide) ?_
          refine mr_lvS (lv' := [(0, .ref 106), (1, iv p1), (2, iv p2), (3, iv 0), (4, iv (z343 + 1))]) (List.forall_mem_cons.mpr ⟨rfl, List.forall_mem_cons.mpr ⟨rfl, List.forall_mem_cons.mpr ⟨rfl, List.forall_mem_cons.mpr ⟨rfl, List.forall_mem_cons.mpr ⟨rfl, fun _ h => absurd h List.not_mem_nil⟩⟩⟩⟩⟩) ?_
          exact ih352 0 (z343 + 1) trivial (rW (c := 0) (d := 1) (rR (x := 0)) rfl) (rW (c := 0) (d := 6) (rAdd (e := 1) (f := 6) h1384 (rR (x := 1)) rfl) rfl) (vc_X12_same_42 (nS h351) h363 h1384)
        have h1395 : 1 ≤ z344 ∧ z344 ≤ 1 := (vc_X12_same_43 h1393 h346)
        refine sv_aload_n (pc := 51) dX12_same_51 rfl rfl ?_
        refine gf_X12_32 (pc := 52) dX12_same_52 wF_X12_148 (A_106 hw) hT ?_
        refine mr_bipush (pc := 55) (z := 40) dX12_same_55 (by decide) ?_
        refine mr_iload_n (pc := 57) (z := p1) dX12_same_57 rfl rfl ?_
        refine mr_imul (pc := 58) (x := 40) (y := p1) dX12_same_58 ?_
        refine mr_iload (pc := 59) (z := z343) dX12_same_59 rfl ?_
        refine mr_iadd (pc := 61) (x := (40 * p1)) (y := z343) dX12_same_61 ?_
        refine la_126 (pc := 62) dX12_same_62 (A_126 hw) hT (rIx (n := 84000) (rAdd (e := 0) (f := 83965) (rMulL (n := 40) (e := 0) (f := 83960) hp1 rfl) h1384 rfl) rfl) fun z1396 q1397 h1398 => ?_
        refine sv_aload_n (pc := 63) dX12_same_63 rfl rfl ?_
        refine gf_X12_32 (pc := 64) dX12_same_64 wF_X12_148 (A_106 hw) hT ?_
        refine mr_bipush (pc := 67) (z := 40) dX12_same_67 (by decide) ?_
        refine mr_iload_n (pc := 69) (z := p2) dX12_same_69 rfl rfl ?_
        refine mr_imul (pc := 70) (x := 40) (y := p2) dX12_same_70 ?_
        refine mr_iload (pc := 71) (z := z343) dX12_same_71 rfl ?_
        refine mr_iadd (pc := 73) (x := (40 * p2)) (y := z343) dX12_same_73 ?_
        refine la_126 (pc := 74) dX12_same_74 (A_126 hw) hT (rIx (n := 84000) (rAdd (e := 0) (f := 83965) (rMulL (n := 40) (e := 0) (f := 83960) hp2 rfl) h1384 rfl) rfl) fun z1399 q1400 h1401 => ?_
        refine mr_icmp_ne (pc := 75) (tgt := 82) dX12_same_75 (by decide) h1398.1 h1401.1 (fun h1402 => ?_) (fun h1402 => ?_)
        · refine mr_iconst (pc := 82) (z := 0) dX12_same_82 ?_
          refine mr_istore_n (pc := 83) (lv' := [(3, iv 0), (0, .ref 106), (1, iv p1), (2, iv p2), (4, iv z343)]) dX12_same_83 rfl (by decide) rfl ?_
          refine mr_iinc (pc := 84) (lv' := [(4, iv (z343 + 1)), (3, iv 0), (0, .ref 106), (1, iv p1), (2, iv p2)]) dX12_same_84 rfl (by decide) rfl ?_
          refine sv_goto (pc := 87) (tgt := 40) dX12_same_87 (by decide) ?_
          refine mr_lvS (lv' := [(0, .ref 106), (1, iv p1), (2, iv p2), (3, iv 0), (4, iv (z343 + 1))]) (List.forall_mem_cons.mpr ⟨rfl, List.forall_mem_cons.mpr ⟨rfl, List.forall_mem_cons.mpr ⟨rfl, List.forall_mem_cons.mpr ⟨rfl, List.forall_mem_cons.mpr ⟨rfl, fun _ h => absurd h List.not_mem_nil⟩⟩⟩⟩⟩) ?_
          exact ih352 0 (z343 + 1) trivial (rW (c := 0) (d := 1) (rR (x := 0)) rfl) (rW (c := 0) (d := 6) (rAdd (e := 1) (f := 6) h1384 (rR (x := 1)) rfl) rfl) (vc_X12_same_44 (nS h351) h363 h1398.2.1 h1398.2.2.1 h1398.2.2.2 h1401.2.1 h1401.2.2.1 h1401.2.2.2 h1402 hp1 hp2 h1398.1 h1401.1 h1384)
        refine mr_iconst (pc := 78) (z := 1) dX12_same_78 ?_
        refine sv_goto (pc := 79) (tgt := 83) dX12_same_79 (by decide) ?_
        refine mr_istore_n (pc := 83) (lv' := [(3, iv 1), (0, .ref 106), (1, iv p1), (2, iv p2), (4, iv z343)]) dX12_same_83 rfl (by decide) rfl ?_
        refine mr_iinc (pc := 84) (lv' := [(4, iv (z343 + 1)), (3, iv 1), (0, .ref 106), (1, iv p1), (2, iv p2)]) dX12_same_84 rfl (by decide) rfl ?_
        refine sv_goto (pc := 87) (tgt := 40) dX12_same_87 (by decide) ?_
        refine mr_lvS (lv' := [(0, .ref 106), (1, iv p1), (2, iv p2), (3, iv 1), (4, iv (z343 + 1))]) (List.forall_mem_cons.mpr ⟨rfl, List.forall_mem_cons.mpr ⟨rfl, List.forall_mem_cons.mpr ⟨rfl, List.forall_mem_cons.mpr ⟨rfl, List.forall_mem_cons.mpr ⟨rfl, fun _ h => absurd h List.not_mem_nil⟩⟩⟩⟩⟩) ?_
        exact ih352 1 (z343 + 1) trivial (rW (c := 0) (d := 1) (rR (x := 1)) rfl) (rW (c := 0) (d := 6) (rAdd (e := 1) (f := 6) h1384 (rR (x := 1)) rfl) rfl) (vc_X12_same_45 (nS h351) h363 h1398.2.1 h1398.2.2.1 h1398.2.2.2 h1401.2.1 h1401.2.2.1 h1401.2.2.2 h1402 hp1 hp2 h1398.1 h1401.1 h1384)
    refine mr_lvS (lv' := [(0, .ref 106), (1, iv p1), (2, iv p2), (3, iv 1), (4, iv 0)]) (List.forall_mem_cons.mpr ⟨rfl, List.forall_mem_cons.mpr ⟨rfl, List.forall_mem_cons.mpr ⟨rfl, List.forall_mem_cons.mpr ⟨rfl, List.forall_mem_cons.mpr ⟨rfl, fun _ h => absurd h List.not_mem_nil⟩⟩⟩⟩⟩) ?_
    exact L345 8 1 0 trivial (rW (c := 0) (d := 1) (rR (x := 1)) rfl) (rW (c := 0) (d := 6) (rR (x := 0)) rfl) vc_X12_same_46
  have h1403 : 0 ≤ z40 ∧ z40 ≤ 0 := (vc_X12_same_47 h41 h39.2.1 h39.2.2.1 h35 h39.1)
  have h1404 : z32 < 0 := (h39.2.2.1 (vc_X12_same_48 h39.2.1 h39.2.2.1 h41 h35 h1403))
  have h1405 : (-1) ≤ z32 ∧ z32 ≤ (-1) := (vc_X12_same_49 h1404 h39.2.1 h39.2.2.1 h35 h1403)
  refine sv_aload_n (pc := 16) dX12_same_16 rfl rfl ?_
  refine mr_iload_n (pc := 17) (z := p1) dX12_same_17 rfl rfl ?_
  refine mr_cVP (pc := 18) (c_X12_isThere hw hT hp1 q2) (gOk _ _ _ _ _) dX12_same_18 (tX12_isThere _ _ _ _ _) ⟨wV_X12_isThere, wL_X12_isThere⟩ wM_X12_151 (gCX12 _ _ _ _ _) rfl (A_106 hw) rfl ⟨le_t rfl, le_t rfl⟩ ⟨le_t rfl, le_t rfl⟩ rfl (le_t rfl) fun z1410 h1409 => ?_
  refine sv_aload_n (pc := 21) dX12_same_21 rfl rfl ?_
  refine mr_iload_n (pc := 22) (z := p2) dX12_same_22 rfl rfl ?_
  refine mr_cVP (pc := 23) (c_X12_isThere hw hT hp2 q33) (gOk _ _ _ _ _) dX12_same_23 (tX12_isThere _ _ _ _ _) ⟨wV_X12_isThere, wL_X12_isThere⟩ wM_X12_151 (gCX12 _ _ _ _ _) rfl (A_106 hw) rfl ⟨le_t rfl, le_t rfl⟩ ⟨le_t rfl, le_t rfl⟩ rfl (le_t rfl) fun z1415 h1414 => ?_
  refine mr_icmp_ne (pc := 26) (tgt := 33) dX12_same_26 (by decide) (r32 h1409.1 rfl) (r32 h1414.1 rfl) (fun h1416 => ?_) (fun h1416 => ?_)
  · refine mr_iconst (pc := 33) (z := 0) dX12_same_33 ?_
    exact mr_zretP dX12_same_34 rfl (rW (c := 0) (d := 1) (rR (x := 0)) rfl) (le_t rfl) (le_t rfl) ⟨(rW (c := 0) (d := 1) (rR (x := 0)) rfl), trivial⟩
  refine mr_iconst (pc := 29) (z := 1) dX12_same_29 ?_
  refine sv_goto (pc := 30) (tgt := 34) dX12_same_30 (by decide) ?_
  exact mr_zretP dX12_same_34 rfl (rW (c := 0) (d := 1) (rR (x := 1)) rfl) (le_t rfl) (le_t rfl) ⟨(rW (c := 0) (d := 1) (rR (x := 1)) rfl), trivial⟩
theorem vc_X12_marked_1 {z103 : Int} (h0 : (9 - z103) < ((0 : Nat) : Int)) (h1 : 0 ≤ z103 ∧ z103 ≤ 8) : False := by omega
theorem vc_X12_marked_2 {p1 : Int} (h0 : 0 ≤ p1 ∧ p1 ≤ 2099) : ((40 * p1) + 5) % 40 = 5 := by omega
theorem vc_X12_marked_3 {z103 z113 : Int} (h0 : z103 < z113) (h1 : 0 ≤ z103 ∧ z103 ≤ 8) (h2 : 0 ≤ z113 ∧ z113 ≤ 8) : 0 ≤ z103 ∧ z103 ≤ 7 := by omega
theorem vc_X12_marked_4 {z103 z113 : Int} (h0 : z103 < z113) (h1 : 0 ≤ z103 ∧ z103 ≤ 7) (h2 : 0 ≤ z113 ∧ z113 ≤ 8) : 1 ≤ z113 ∧ z113 ≤ 8 := by omega
theorem vc_X12_marked_5 {z104 : Int} (h0 : ¬ z104 = 0) (h1 : 0 ≤ z104 ∧ z104 ≤ 1) : 1 ≤ z104 ∧ z104 ≤ 1 := by omega
theorem vc_X12_marked_6 {N z103 z113 : Int} (h0 : (9 - z103) < N + 1) (h1 : z103 < z113) (h2 : 0 ≤ z103 ∧ z103 ≤ 7) (h3 : 1 ≤ z113 ∧ z113 ≤ 8) : (9 - (z103 + 1)) < N := by omega
theorem vc_X12_marked_7 {z104 : Int} (h0 : z104 = 0) (h1 : 0 ≤ z104 ∧ z104 ≤ 1) : 0 ≤ z104 ∧ z104 ≤ 0 := by omega
theorem vc_X12_marked_8 {N p1 p2 z103 z113 z135 : Int} (h0 : (9 - z103) < N + 1) (h1 : z103 < z113) (h2 : ((((40 * p1) + 26) + z103) % 40 = 0 → -1 ≤ z135 ∧ z135 ≤ 9)) (h3 : ((((40 * p1) + 26) + z103) % 40 = 4 → 0 ≤ z135 ∧ z135 ≤ 20)) (h4 : ((((40 * p1) + 26) + z103) % 40 = 5 → 0 ≤ z135 ∧ z135 ≤ 8)) (h5 : ¬ z135 = p2) (h6 : 0 ≤ p1 ∧ p1 ≤ 2099) (h7 : (-2147483648) ≤ p2 ∧ p2 ≤ 2147483647) (h8 : 0 ≤ z103 ∧ z103 ≤ 7) (h9 : 1 ≤ z113 ∧ z113 ≤ 8) (h10 : (-2147483648) ≤ z135 ∧ z135 ≤ 2147483647) : (9 - (z103 + 1)) < N := by omega
theorem vc_X12_marked_9 {N p1 p2 z103 z113 z135 : Int} (h0 : (9 - z103) < N + 1) (h1 : z103 < z113) (h2 : ((((40 * p1) + 26) + z103) % 40 = 0 → -1 ≤ z135 ∧ z135 ≤ 9)) (h3 : ((((40 * p1) + 26) + z103) % 40 = 4 → 0 ≤ z135 ∧ z135 ≤ 20)) (h4 : ((((40 * p1) + 26) + z103) % 40 = 5 → 0 ≤ z135 ∧ z135 ≤ 8)) (h5 : z135 = p2) (h6 : 0 ≤ p1 ∧ p1 ≤ 2099) (h7 : (-2147483648) ≤ p2 ∧ p2 ≤ 2147483647) (h8 : 0 ≤ z103 ∧ z103 ≤ 7) (h9 : 1 ≤ z113 ∧ z113 ≤ 8) (h10 : (-2147483648) ≤ z135 ∧ z135 ≤ 2147483647) : (9 - (z103 + 1)) < N := by omega
theorem vc_X12_marked_10  : (9 - 0) < ((10 : Nat) : Int) := by omega
set_option maxRecDepth 4000 in
set_option maxHeartbeats 4000000 in
theorem c_X12_marked {l : Launch} {D : va_G} {c : Nat → ClassId} {H0 : Heap} {sa : Nat × Nat × (Nat → Int32)} {w : mW} {μ : mM} (hw : mWF w) (hT : mT w μ) {p1 : Int} (hp1 : 0 ≤ p1 ∧ p1 ≤ 2099) {p2 : Int} (hp2 : (-2147483648) ≤ p2 ∧ p2 ≤ 2147483647) : sC (gG l D c H0 sa) mX12_marked 1 0 0 [.ref 106, iv p1, iv p2] (mk w μ) (qP w μ (fun z => (0 ≤ z ∧ z ≤ 1) ∧ True)) := by
  refine sC.of rfl (by decide) (le_t rfl) ?_
  refine mr_lvE (lv' := [(0, .ref 106), (1, iv p1), (2, iv p2)]) rfl ?_
  refine mr_iconst (pc := 0) (z := 0) dX12_marked_0 ?_
  refine mr_istore_n (pc := 1) (lv' := [(3, iv 0), (0, .ref 106), (1, iv p1), (2, iv p2)]) dX12_marked_1 rfl (by decide) rfl ?_
  refine mr_iconst (pc := 2) (z := 0) dX12_marked_2 ?_
  refine mr_istore (pc := 3) (lv' := [(4, iv 0), (3, iv 0), (0, .ref 106), (1, iv p1), (2, iv p2)]) dX12_marked_3 (by decide) rfl ?_
  have L105 : ∀ (nL105 : Nat) (z104 z103 : Int), True → (0 ≤ z104 ∧ z104 ≤ 1) → (0 ≤ z103 ∧ z103 ≤ 8) → (9 - z103) < (nL105 : Int) → sV (gG l D c H0 sa) mX12_marked (sRm 1 0 0) (sZ (gG l D c H0 sa) 0 0 (qP w μ (fun z => (0 ≤ z ∧ z ≤ 1) ∧ True))) 5 [(0, .ref 106), (1, iv p1), (2, iv p2), (3, iv z104), (4, iv z103)] [] (mk w μ) 0 0 := by
    intro nL105
    induction nL105 with
    | zero => intro z104 z103 _ h106 h107 h111; exact ((vc_X12_marked_1 h111 h107)).elim
    | succ nL105 ih112 =>
      intro z104 z103 _ h106 h107 h111
      refine mr_iload (pc := 5) (z := z103) dX12_marked_5 rfl ?_
      refine sv_aload_n (pc := 7) dX12_marked_7 rfl rfl ?_
      refine gf_X12_32 (pc := 8) dX12_marked_8 wF_X12_148 (A_106 hw) hT ?_
      refine mr_bipush (pc := 11) (z := 40) dX12_marked_11 (by decide) ?_
      refine mr_iload_n (pc := 13) (z := p1) dX12_marked_13 rfl rfl ?_
      refine mr_imul (pc := 14) (x := 40) (y := p1) dX12_marked_14 ?_
      refine mr_iconst (pc := 15) (z := 5) dX12_marked_15 ?_
      refine mr_iadd (pc := 16) (x := (40 * p1)) (y := 5) dX12_marked_16 ?_
      refine la_126 (pc := 17) dX12_marked_17 (A_126 hw) hT (rIx (n := 84000) (rAdd (e := 5) (f := 83965) (rMulL (n := 40) (e := 0) (f := 83960) hp1 rfl) (rR (x := 5)) rfl) rfl) fun z113 q114 h115 => ?_
      have h116 : 0 ≤ z113 ∧ z113 ≤ 8 := h115.2.2.2 (vc_X12_marked_2 hp1)
      refine mr_icmp_ge (pc := 18) (tgt := 56) dX12_marked_18 (by decide) (r32 h107 rfl) (r32 h116 rfl) (fun h124 => ?_) (fun h124 => ?_)
      · refine mr_iload_n (pc := 56) (z := z104) dX12_marked_56 rfl rfl ?_
        exact mr_zretP dX12_marked_57 rfl h106 (le_t rfl) (le_t rfl) ⟨h106, trivial⟩
      have h125 : 0 ≤ z103 ∧ z103 ≤ 7 := (vc_X12_marked_3 h124 h107 h116)
      have h126 : 1 ≤ z113 ∧ z113 ≤ 8 := (vc_X12_marked_4 h124 h125 h116)
      refine mr_iload_n (pc := 21) (z := z104) dX12_marked_21 rfl rfl ?_
      refine mr_if_ne (pc := 22) (tgt := 44) dX12_marked_22 (by decide) (r32 h106 rfl) (fun h132 => ?_) (fun h132 => ?_)
      · have h133 : 1 ≤ z104 ∧ z104 ≤ 1 := (vc_X12_marked_5 h132 h106)
        refine mr_iconst (pc := 44) (z := 1) dX12_marked_44 ?_
        refine sv_goto (pc := 45) (tgt := 49) dX12_marked_45 (by decide) ?_
        refine mr_istore_n (pc := 49) (lv' := [(3, iv 1), (0, .ref 106), (1, iv p1), (2, iv p2), (4, iv z103)]) dX12_marked_49 rfl (by decide) rfl ?_
        refine mr_iinc (pc := 50) (lv' := [(4, iv (z103 + 1)), (3, iv 1), (0, .ref 106), (1, iv p1), (2, iv p2)]) dX12_marked_50 rfl (by decide) rfl ?_
        refine sv_goto (pc := 53) (tgt := 5) dX12_marked_53 (by decide) ?_
        refine mr_lvS (lv' := [(0, .ref 106), (1, iv p1), (2, iv p2), (3, iv 1), (4, iv (z103 + 1))]) (List.forall_mem_cons.mpr ⟨rfl, List.forall_mem_cons.mpr ⟨rfl, List.forall_mem_cons.mpr ⟨rfl, List.forall_mem_cons.mpr ⟨rfl, List.forall_mem_cons.mpr ⟨rfl, fun _ h => absurd h List.not_mem_nil⟩⟩⟩⟩⟩) ?_
        exact ih112 1 (z103 + 1) trivial (rW (c := 0) (d := 1) (rR (x := 1)) rfl) (rW (c := 0) (d := 8) (rAdd (e := 1) (f := 8) h125 (rR (x := 1)) rfl) rfl) (vc_X12_marked_6 (nS h111) h124 h125 h126)
      have h134 : 0 ≤ z104 ∧ z104 ≤ 0 := (vc_X12_marked_7 h132 h106)
      refine sv_aload_n (pc := 25) dX12_marked_25 rfl rfl ?_
      refine gf_X12_32 (pc := 26) dX12_marked_26 wF_X12_148 (A_106 hw) hT ?_
      refine mr_bipush (pc := 29) (z := 40) dX12_marked_29 (by decide) ?_
      refine mr_iload_n (pc := 31) (z := p1) dX12_marked_31 rfl rfl ?_
      refine mr_imul (pc := 32) (x := 40) (y := p1) dX12_marked_32 ?_
      refine mr_bipush (pc := 33) (z := 26) dX12_marked_33 (by decide) ?_
      refine mr_iadd (pc := 35) (x := (40 * p1)) (y := 26) dX12_marked_35 ?_
      refine mr_iload (pc := 36) (z := z103) dX12_marked_36 rfl ?_
      refine mr_iadd (pc := 38) (x := ((40 * p1) + 26)) (y := z103) dX12_marked_38 ?_
      refine la_126 (pc := 39) dX12_marked_39 (A_126 hw) hT (rIx (n := 84000) (rAdd (e := 26) (f := 83993) (rAdd (e := 26) (f := 83986) (rMulL (n := 40) (e := 0) (f := 83960) hp1 rfl) (rR (x := 26)) rfl) h125 rfl) rfl) fun z135 q136 h137 => ?_
      refine mr_iload_n (pc := 40) (z := p2) dX12_marked_40 rfl rfl ?_
      refine mr_icmp_ne (pc := 41) (tgt := 48) dX12_marked_41 (by decide) h137.1 hp2 (fun h138 => ?_) (fun h138 => ?_)
      · refine mr_iconst (pc := 48) (z := 0) dX12_marked_48 ?_
        refine mr_istore_n (pc := 49) (lv' := [(3, iv 0), (0, .ref 106), (1, iv p1), (2, iv p2), (4, iv z103)]) dX12_marked_49 rfl (by decide) rfl ?_
        refine mr_iinc (pc := 50) (lv' := [(4, iv (z103 + 1)), (3, iv 0), (0, .ref 106), (1, iv p1), (2, iv p2)]) dX12_marked_50 rfl (by decide) rfl ?_
        refine sv_goto (pc := 53) (tgt := 5) dX12_marked_53 (by decide) ?_
        refine mr_lvS (lv' := [(0, .ref 106), (1, iv p1), (2, iv p2), (3, iv 0), (4, iv (z103 + 1))]) (List.forall_mem_cons.mpr ⟨rfl, List.forall_mem_cons.mpr ⟨rfl, List.forall_mem_cons.mpr ⟨rfl, List.forall_mem_cons.mpr ⟨rfl, List.forall_mem_cons.mpr ⟨rfl, fun _ h => absurd h List.not_mem_nil⟩⟩⟩⟩⟩) ?_
        exact ih112 0 (z103 + 1) trivial (rW (c := 0) (d := 1) (rR (x := 0)) rfl) (rW (c := 0) (d := 8) (rAdd (e := 1) (f := 8) h125 (rR (x := 1)) rfl) rfl) (vc_X12_marked_8 (nS h111) h124 h137.2.1 h137.2.2.1 h137.2.2.2 h138 hp1 hp2 h125 h126 h137.1)
      refine mr_iconst (pc := 44) (z := 1) dX12_marked_44 ?_
      refine sv_goto (pc := 45) (tgt := 49) dX12_marked_45 (by decide) ?_
      refine mr_istore_n (pc := 49) (lv' := [(3, iv 1), (0, .ref 106), (1, iv p1), (2, iv p2), (4, iv z103)]) dX12_marked_49 rfl (by decide) rfl ?_
      refine mr_iinc (pc := 50) (lv' := [(4, iv (z103 + 1)), (3, iv 1), (0, .ref 106), (1, iv p1), (2, iv p2)]) dX12_marked_50 rfl (by decide) rfl ?_
      refine sv_goto (pc := 53) (tgt := 5) dX12_marked_53 (by decide) ?_
      refine mr_lvS (lv' := [(0, .ref 106), (1, iv p1), (2, iv p2), (3, iv 1), (4, iv (z103 + 1))]) (List.forall_mem_cons.mpr ⟨rfl, List.forall_mem_cons.mpr ⟨rfl, List.forall_mem_cons.mpr ⟨rfl, List.forall_mem_cons.mpr ⟨rfl, List.forall_mem_cons.mpr ⟨rfl, fun _ h => absurd h List.not_mem_nil⟩⟩⟩⟩⟩) ?_
      exact ih112 1 (z103 + 1) trivial (rW (c := 0) (d := 1) (rR (x := 1)) rfl) (rW (c := 0) (d := 8) (rAdd (e := 1) (f := 8) h125 (rR (x := 1)) rfl) rfl) (vc_X12_marked_9 (nS h111) h124 h137.2.1 h137.2.2.1 h137.2.2.2 h138 hp1 hp2 h125 h126 h137.1)
  refine mr_lvS (lv' := [(0, .ref 106), (1, iv p1), (2, iv p2), (3, iv 0), (4, iv 0)]) (List.forall_mem_cons.mpr ⟨rfl, List.forall_mem_cons.mpr ⟨rfl, List.forall_mem_cons.mpr ⟨rfl, List.forall_mem_cons.mpr ⟨rfl, List.forall_mem_cons.mpr ⟨rfl, fun _ h => absurd h List.not_mem_nil⟩⟩⟩⟩⟩) ?_
  exact L105 10 0 0 trivial (rW (c := 0) (d := 1) (rR (x := 0)) rfl) (rW (c := 0) (d := 8) (rR (x := 0)) rfl) vc_X12_marked_10
theorem vc_X12_addMark_1 {p1 : Int} (h0 : 0 ≤ p1 ∧ p1 ≤ 2099) : ((40 * p1) + 5) % 40 = 5 := by omega
theorem vc_X12_addMark_2 {z1 : Int} (h0 : z1 = 8) (h1 : 0 ≤ z1 ∧ z1 ≤ 8) : 8 ≤ z1 ∧ z1 ≤ 8 := by omega
theorem vc_X12_addMark_3 {z1 : Int} (h0 : ¬ z1 = 8) (h1 : 0 ≤ z1 ∧ z1 ≤ 8) : 0 ≤ z1 ∧ z1 ≤ 7 := by omega
theorem vc_X12_addMark_4 {z12 : Int} (h0 : z12 = 0) (h1 : 0 ≤ z12 ∧ z12 ≤ 1) : 0 ≤ z12 ∧ z12 ≤ 0 := by omega
theorem vc_X12_addMark_5 {p1 z61 : Int} (h0 : (z61 - 25) < ((0 : Nat) : Int)) (h1 : 40 * p1 + 26 ≤ z61) (h2 : z61 ≤ 40 * p1 + 33) (h3 : 0 ≤ p1 ∧ p1 ≤ 2099) (h4 : 26 ≤ z61 ∧ z61 ≤ 83993) : False := by omega
theorem vc_X12_addMark_6 {p1 z61 : Int} (h0 : 40 * p1 + 26 ≤ z61) (h1 : z61 ≤ 40 * p1 + 33) (h2 : 0 ≤ p1 ∧ p1 ≤ 2099) (h3 : 26 ≤ z61 ∧ z61 ≤ 83993) : 0 ≤ ((40 * p1) + 5) := by omega
theorem vc_X12_addMark_7 {p1 z61 : Int} (h0 : 40 * p1 + 26 ≤ z61) (h1 : z61 ≤ 40 * p1 + 33) (h2 : 0 ≤ p1 ∧ p1 ≤ 2099) (h3 : 26 ≤ z61 ∧ z61 ≤ 83993) : ((40 * p1) + 5) % 40 = 5 := by omega
theorem vc_X12_addMark_8 {p1 p2 z61 : Int} (h0 : 40 * p1 + 26 ≤ z61) (h1 : z61 ≤ 40 * p1 + 33) (h2 : 0 ≤ p1 ∧ p1 ≤ 2099) (h3 : (-2147483648) ≤ p2 ∧ p2 ≤ 2147483647) (h4 : 26 ≤ z61 ∧ z61 ≤ 83993) : (-2147483648 ≤ p2 ∧ p2 ≤ 2147483647) ∧ (z61 % 40 = 0 → -1 ≤ p2 ∧ p2 ≤ 9) ∧ (z61 % 40 = 4 → 0 ≤ p2 ∧ p2 ≤ 20) ∧ (z61 % 40 = 5 → 0 ≤ p2 ∧ p2 ≤ 8) := by omega
theorem vc_X12_addMark_9 {p1 z61 : Int} (h0 : 40 * p1 + 26 ≤ z61) (h1 : z61 ≤ 40 * p1 + 33) (h2 : 0 ≤ p1 ∧ p1 ≤ 2099) (h3 : 26 ≤ z61 ∧ z61 ≤ 83993) : ((40 * p1) + 5).toNat ≠ z61.toNat := by omega
theorem vc_X12_addMark_10 {f_n p1 z61 : Int} (h0 : 40 * p1 + 26 ≤ z61) (h1 : z61 ≤ 40 * p1 + 33) (h2 : f_n ≤ 7) (h3 : 0 ≤ f_n ∧ f_n ≤ 8) (h4 : 0 ≤ p1 ∧ p1 ≤ 2099) (h5 : 26 ≤ z61 ∧ z61 ≤ 83993) : (-2147483648 ≤ (f_n + 1) ∧ (f_n + 1) ≤ 2147483647) ∧ (((40 * p1) + 5) % 40 = 0 → -1 ≤ (f_n + 1) ∧ (f_n + 1) ≤ 9) ∧ (((40 * p1) + 5) % 40 = 4 → 0 ≤ (f_n + 1) ∧ (f_n + 1) ≤ 20) ∧ (((40 * p1) + 5) % 40 = 5 → 0 ≤ (f_n + 1) ∧ (f_n + 1) ≤ 8) := by omega
theorem vc_X12_addMark_11 {p1 z61 : Int} (h0 : 40 * p1 + 26 ≤ z61) (h1 : z61 ≤ 40 * p1 + 33) (h2 : 0 ≤ p1 ∧ p1 ≤ 2099) (h3 : 26 ≤ z61 ∧ z61 ≤ 83993) : ((40 * p1) + 1) ≤ ((40 * p1) + 1) ∧ ((40 * p1) + 40) ≤ ((40 * p1) + 40) := by omega
theorem vc_X12_addMark_12 {p1 z61 : Int} (h0 : 40 * p1 + 26 ≤ z61) (h1 : z61 ≤ 40 * p1 + 33) (h2 : 0 ≤ p1 ∧ p1 ≤ 2099) (h3 : 26 ≤ z61 ∧ z61 ≤ 83993) : 0 ≤ z61 ∧ ((40 * p1) + 1) ≤ z61 ∧ z61 < ((40 * p1) + 40) := by omega
theorem vc_X12_addMark_13 {p1 z61 : Int} (h0 : 40 * p1 + 26 ≤ z61) (h1 : z61 ≤ 40 * p1 + 33) (h2 : 0 ≤ p1 ∧ p1 ≤ 2099) (h3 : 26 ≤ z61 ∧ z61 ≤ 83993) : 0 ≤ ((40 * p1) + 5) ∧ ((40 * p1) + 1) ≤ ((40 * p1) + 5) ∧ ((40 * p1) + 5) < ((40 * p1) + 40) := by omega
theorem vc_X12_addMark_14 {p1 z61 : Int} (h0 : z61 ≤ ((40 * p1) + 26)) (h1 : 40 * p1 + 26 ≤ z61) (h2 : z61 ≤ 40 * p1 + 33) (h3 : 0 ≤ p1 ∧ p1 ≤ 2099) (h4 : 26 ≤ z61 ∧ z61 ≤ 83993) : 26 ≤ z61 ∧ z61 ≤ 83986 := by omega
theorem vc_X12_addMark_15 {p1 z61 : Int} (h0 : ((40 * p1) + 26) < z61) (h1 : 40 * p1 + 26 ≤ z61) (h2 : z61 ≤ 40 * p1 + 33) (h3 : 0 ≤ p1 ∧ p1 ≤ 2099) (h4 : 26 ≤ z61 ∧ z61 ≤ 83993) : 27 ≤ z61 ∧ z61 ≤ 83993 := by omega
theorem vc_X12_addMark_16 {p2 z61 z96 : Int} (h0 : p2 < z96) (h1 : ((z61 - 1) % 40 = 0 → -1 ≤ z96 ∧ z96 ≤ 9)) (h2 : ((z61 - 1) % 40 = 4 → 0 ≤ z96 ∧ z96 ≤ 20)) (h3 : ((z61 - 1) % 40 = 5 → 0 ≤ z96 ∧ z96 ≤ 8)) (h4 : (-2147483648) ≤ p2 ∧ p2 ≤ 2147483647) (h5 : 27 ≤ z61 ∧ z61 ≤ 83993) (h6 : (-2147483648) ≤ z96 ∧ z96 ≤ 2147483647) : (-2147483647) ≤ z96 ∧ z96 ≤ 2147483647 := by omega
theorem vc_X12_addMark_17 {p2 z61 z96 : Int} (h0 : p2 < z96) (h1 : ((z61 - 1) % 40 = 0 → -1 ≤ z96 ∧ z96 ≤ 9)) (h2 : ((z61 - 1) % 40 = 4 → 0 ≤ z96 ∧ z96 ≤ 20)) (h3 : ((z61 - 1) % 40 = 5 → 0 ≤ z96 ∧ z96 ≤ 8)) (h4 : (-2147483648) ≤ p2 ∧ p2 ≤ 2147483647) (h5 : 27 ≤ z61 ∧ z61 ≤ 83993) (h6 : (-2147483647) ≤ z96 ∧ z96 ≤ 2147483647) : (-2147483648) ≤ p2 ∧ p2 ≤ 2147483646 := by omega
theorem vc_X12_addMark_18 {p1 p2 z61 z96 : Int} (h0 : 40 * p1 + 26 ≤ z61) (h1 : z61 ≤ 40 * p1 + 33) (h2 : ((40 * p1) + 26) < z61) (h3 : ((z61 - 1) % 40 = 0 → -1 ≤ z96 ∧ z96 ≤ 9)) (h4 : ((z61 - 1) % 40 = 4 → 0 ≤ z96 ∧ z96 ≤ 20)) (h5 : ((z61 - 1) % 40 = 5 → 0 ≤ z96 ∧ z96 ≤ 8)) (h6 : p2 < z96) (h7 : 0 ≤ p1 ∧ p1 ≤ 2099) (h8 : (-2147483648) ≤ p2 ∧ p2 ≤ 2147483646) (h9 : 27 ≤ z61 ∧ z61 ≤ 83993) (h10 : (-2147483647) ≤ z96 ∧ z96 ≤ 2147483647) : (-2147483648 ≤ z96 ∧ z96 ≤ 2147483647) ∧ (z61 % 40 = 0 → -1 ≤ z96 ∧ z96 ≤ 9) ∧ (z61 % 40 = 4 → 0 ≤ z96 ∧ z96 ≤ 20) ∧ (z61 % 40 = 5 → 0 ≤ z96 ∧ z96 ≤ 8) := by omega
theorem vc_X12_addMark_19 {p1 p2 z61 z96 : Int} (h0 : 40 * p1 + 26 ≤ z61) (h1 : z61 ≤ 40 * p1 + 33) (h2 : ((40 * p1) + 26) < z61) (h3 : ((z61 - 1) % 40 = 0 → -1 ≤ z96 ∧ z96 ≤ 9)) (h4 : ((z61 - 1) % 40 = 4 → 0 ≤ z96 ∧ z96 ≤ 20)) (h5 : ((z61 - 1) % 40 = 5 → 0 ≤ z96 ∧ z96 ≤ 8)) (h6 : p2 < z96) (h7 : 0 ≤ p1 ∧ p1 ≤ 2099) (h8 : (-2147483648) ≤ p2 ∧ p2 ≤ 2147483646) (h9 : 27 ≤ z61 ∧ z61 ≤ 83993) (h10 : (-2147483647) ≤ z96 ∧ z96 ≤ 2147483647) : ((40 * p1) + 5).toNat ≠ z61.toNat := by omega
theorem vc_X12_addMark_20 {p1 p2 z61 z96 : Int} (h0 : 40 * p1 + 26 ≤ z61) (h1 : z61 ≤ 40 * p1 + 33) (h2 : ((40 * p1) + 26) < z61) (h3 : ((z61 - 1) % 40 = 0 → -1 ≤ z96 ∧ z96 ≤ 9)) (h4 : ((z61 - 1) % 40 = 4 → 0 ≤ z96 ∧ z96 ≤ 20)) (h5 : ((z61 - 1) % 40 = 5 → 0 ≤ z96 ∧ z96 ≤ 8)) (h6 : p2 < z96) (h7 : 0 ≤ p1 ∧ p1 ≤ 2099) (h8 : (-2147483648) ≤ p2 ∧ p2 ≤ 2147483646) (h9 : 27 ≤ z61 ∧ z61 ≤ 83993) (h10 : (-2147483647) ≤ z96 ∧ z96 ≤ 2147483647) : 40 * p1 + 26 ≤ (z61 + (-1)) := by omega
theorem vc_X12_addMark_21 {p1 p2 z61 z96 : Int} (h0 : 40 * p1 + 26 ≤ z61) (h1 : z61 ≤ 40 * p1 + 33) (h2 : ((40 * p1) + 26) < z61) (h3 : ((z61 - 1) % 40 = 0 → -1 ≤ z96 ∧ z96 ≤ 9)) (h4 : ((z61 - 1) % 40 = 4 → 0 ≤ z96 ∧ z96 ≤ 20)) (h5 : ((z61 - 1) % 40 = 5 → 0 ≤ z96 ∧ z96 ≤ 8)) (h6 : p2 < z96) (h7 : 0 ≤ p1 ∧ p1 ≤ 2099) (h8 : (-2147483648) ≤ p2 ∧ p2 ≤ 2147483646) (h9 : 27 ≤ z61 ∧ z61 ≤ 83993) (h10 : (-2147483647) ≤ z96 ∧ z96 ≤ 2147483647) : (z61 + (-1)) ≤ 40 * p1 + 33 := by omega
theorem vc_X12_addMark_22 {f_n : Int} (h0 : f_n ≤ 7) (h1 : 0 ≤ f_n ∧ f_n ≤ 8) : f_n ≤ 7 := by omega
theorem vc_X12_addMark_23 {N p1 p2 z61 z96 : Int} (h0 : (z61 - 25) < N + 1) (h1 : 40 * p1 + 26 ≤ z61) (h2 : z61 ≤ 40 * p1 + 33) (h3 : ((40 * p1) + 26) < z61) (h4 : ((z61 - 1) % 40 = 0 → -1 ≤ z96 ∧ z96 ≤ 9)) (h5 : ((z61 - 1) % 40 = 4 → 0 ≤ z96 ∧ z96 ≤ 20)) (h6 : ((z61 - 1) % 40 = 5 → 0 ≤ z96 ∧ z96 ≤ 8)) (h7 : p2 < z96) (h8 : 0 ≤ p1 ∧ p1 ≤ 2099) (h9 : (-2147483648) ≤ p2 ∧ p2 ≤ 2147483646) (h10 : 27 ≤ z61 ∧ z61 ≤ 83993) (h11 : (-2147483647) ≤ z96 ∧ z96 ≤ 2147483647) : ((z61 + (-1)) - 25) < N := by omega
theorem vc_X12_addMark_24 {p1 z61 z96 : Int} (h0 : 40 * p1 + 26 ≤ z61) (h1 : z61 ≤ 40 * p1 + 33) (h2 : ((40 * p1) + 26) < z61) (h3 : ((z61 - 1) % 40 = 0 → -1 ≤ z96 ∧ z96 ≤ 9)) (h4 : ((z61 - 1) % 40 = 4 → 0 ≤ z96 ∧ z96 ≤ 20)) (h5 : ((z61 - 1) % 40 = 5 → 0 ≤ z96 ∧ z96 ≤ 8)) (h6 : 0 ≤ p1 ∧ p1 ≤ 2099) (h7 : 27 ≤ z61 ∧ z61 ≤ 83993) (h8 : (-2147483647) ≤ z96 ∧ z96 ≤ 2147483647) : ((40 * p1) + 1) ≤ ((40 * p1) + 1) ∧ ((40 * p1) + 40) ≤ ((40 * p1) + 40) := by omega
theorem vc_X12_addMark_25 {p1 p2 z61 z96 : Int} (h0 : 40 * p1 + 26 ≤ z61) (h1 : z61 ≤ 40 * p1 + 33) (h2 : ((40 * p1) + 26) < z61) (h3 : ((z61 - 1) % 40 = 0 → -1 ≤ z96 ∧ z96 ≤ 9)) (h4 : ((z61 - 1) % 40 = 4 → 0 ≤ z96 ∧ z96 ≤ 20)) (h5 : ((z61 - 1) % 40 = 5 → 0 ≤ z96 ∧ z96 ≤ 8)) (h6 : p2 < z96) (h7 : 0 ≤ p1 ∧ p1 ≤ 2099) (h8 : (-2147483648) ≤ p2 ∧ p2 ≤ 2147483646) (h9 : 27 ≤ z61 ∧ z61 ≤ 83993) (h10 : (-2147483647) ≤ z96 ∧ z96 ≤ 2147483647) : 0 ≤ z61 ∧ ((40 * p1) + 1) ≤ z61 ∧ z61 < ((40 * p1) + 40) := by omega
theorem vc_X12_addMark_26 {p1 z1 : Int} (h0 : ¬ z1 = 8) (h1 : 0 ≤ p1 ∧ p1 ≤ 2099) (h2 : 0 ≤ z1 ∧ z1 ≤ 7) : 40 * p1 + 26 ≤ (((40 * p1) + 26) + z1) := by omega
theorem vc_X12_addMark_27 {p1 z1 : Int} (h0 : ¬ z1 = 8) (h1 : 0 ≤ p1 ∧ p1 ≤ 2099) (h2 : 0 ≤ z1 ∧ z1 ≤ 7) : (((40 * p1) + 26) + z1) ≤ 40 * p1 + 33 := by omega
theorem vc_X12_addMark_28 {z1 : Int} (h0 : ¬ z1 = 8) (h1 : 0 ≤ z1 ∧ z1 ≤ 7) : z1 ≤ 7 := by omega
theorem vc_X12_addMark_29 {p1 z1 : Int} (h0 : ¬ z1 = 8) (h1 : 0 ≤ p1 ∧ p1 ≤ 2099) (h2 : 0 ≤ z1 ∧ z1 ≤ 7) : ((((40 * p1) + 26) + z1) - 25) < ((83969 : Nat) : Int) := by omega
theorem vc_X12_addMark_30 {z12 : Int} (h0 : ¬ z12 = 0) (h1 : 0 ≤ z12 ∧ z12 ≤ 1) : 1 ≤ z12 ∧ z12 ≤ 1 := by omega
set_option maxRecDepth 4000 in
set_option maxHeartbeats 4000000 in
theorem c_X12_addMark {l : Launch} {D : va_G} {c : Nat → ClassId} {H0 : Heap} {sa : Nat × Nat × (Nat → Int32)} {w : mW} {μ : mM} (hw : mWF w) (hT : mT w μ) {p1 : Int} (hp1 : 0 ≤ p1 ∧ p1 ≤ 2099) {p2 : Int} (hp2 : (-2147483648) ≤ p2 ∧ p2 ≤ 2147483647) : sC (gG l D c H0 sa) mX12_addMark 2 0 0 [.ref 106, iv p1, iv p2] (mk w μ) (qV w [126999] μ (fun μ1 => mG [(((40 * p1) + 1), ((40 * p1) + 40))] μ μ1 ∧ True)) := by
  refine sC.of rfl (by decide) (le_t rfl) ?_
  refine mr_lvE (lv' := [(0, .ref 106), (1, iv p1), (2, iv p2)]) rfl ?_
  refine sv_aload_n (pc := 0) dX12_addMark_0 rfl rfl ?_
  refine gf_X12_32 (pc := 1) dX12_addMark_1 wF_X12_148 (A_106 hw) hT ?_
  refine mr_bipush (pc := 4) (z := 40) dX12_addMark_4 (by decide) ?_
  refine mr_iload_n (pc := 6) (z := p1) dX12_addMark_6 rfl rfl ?_
  refine mr_imul (pc := 7) (x := 40) (y := p1) dX12_addMark_7 ?_
  refine mr_iconst (pc := 8) (z := 5) dX12_addMark_8 ?_
  refine mr_iadd (pc := 9) (x := (40 * p1)) (y := 5) dX12_addMark_9 ?_
  refine la_126 (pc := 10) dX12_addMark_10 (A_126 hw) hT (rIx (n := 84000) (rAdd (e := 5) (f := 83965) (rMulL (n := 40) (e := 0) (f := 83960) hp1 rfl) (rR (x := 5)) rfl) rfl) fun z1 q2 h3 => ?_
  have h4 : 0 ≤ z1 ∧ z1 ≤ 8 := h3.2.2.2 (vc_X12_addMark_1 hp1)
  refine mr_istore_n (pc := 11) (lv' := [(3, iv z1), (0, .ref 106), (1, iv p1), (2, iv p2)]) dX12_addMark_11 rfl (by decide) rfl ?_
  refine mr_iload_n (pc := 12) (z := z1) dX12_addMark_12 rfl rfl ?_
  refine mr_bipush (pc := 13) (z := 8) dX12_addMark_13 (by decide) ?_
  refine mr_icmp_eq (pc := 15) (tgt := 27) dX12_addMark_15 (by decide) (r32 h4 rfl) (r32 (rR (x := 8)) rfl) (fun h5 => ?_) (fun h5 => ?_)
  · have h6 : 8 ≤ z1 ∧ z1 ≤ 8 := (vc_X12_addMark_2 h5 h4)
    exact mr_vret dX12_addMark_27 rfl (le_t rfl) (le_t rfl) hT mF.refl ⟨mG.refl, trivial⟩
  have h7 : 0 ≤ z1 ∧ z1 ≤ 7 := (vc_X12_addMark_3 h5 h4)
  refine sv_aload_n (pc := 18) dX12_addMark_18 rfl rfl ?_
  refine mr_iload_n (pc := 19) (z := p1) dX12_addMark_19 rfl rfl ?_
  refine mr_iload_n (pc := 20) (z := p2) dX12_addMark_20 rfl rfl ?_
  refine mr_cVP (pc := 21) (c_X12_marked hw hT hp1 hp2) (gOk _ _ _ _ _) dX12_addMark_21 (tX12_marked _ _ _ _ _) ⟨wV_X12_marked, wL_X12_marked⟩ wM_X12_154 (gCX12 _ _ _ _ _) rfl (A_106 hw) rfl ⟨le_t rfl, le_t rfl⟩ ⟨le_t rfl, le_t rfl⟩ rfl (le_t rfl) fun z12 h11 => ?_
  refine mr_if_eq (pc := 24) (tgt := 28) dX12_addMark_24 (by decide) (r32 h11.1 rfl) (fun h13 => ?_) (fun h13 => ?_)
  · have h14 : 0 ≤ z12 ∧ z12 ≤ 0 := (vc_X12_addMark_4 h13 h11.1)
    refine mr_bipush (pc := 28) (z := 40) dX12_addMark_28 (by decide) ?_
    refine mr_iload_n (pc := 30) (z := p1) dX12_addMark_30 rfl rfl ?_
    refine mr_imul (pc := 31) (x := 40) (y := p1) dX12_addMark_31 ?_
    refine mr_bipush (pc := 32) (z := 26) dX12_addMark_32 (by decide) ?_
    refine mr_iadd (pc := 34) (x := (40 * p1)) (y := 26) dX12_addMark_34 ?_
    refine mr_iload_n (pc := 35) (z := z1) dX12_addMark_35 rfl rfl ?_
    refine mr_iadd (pc := 36) (x := ((40 * p1) + 26)) (y := z1) dX12_addMark_36 ?_
    refine mr_istore (pc := 37) (lv' := [(4, iv (((40 * p1) + 26) + z1)), (3, iv z1), (0, .ref 106), (1, iv p1), (2, iv p2)]) dX12_addMark_37 (by decide) rfl ?_
    have L63 : ∀ (nL63 : Nat) (z61 : Int) (μ62 : mM) (f_n : Int), mT w μ62 → mF [126999] w μ μ62 → mG [(((40 * p1) + 1), ((40 * p1) + 40))] μ μ62 → μ62 126 (((40 * p1) + 5).toNat) = f_n → (26 ≤ z61 ∧ z61 ≤ 83993) → (40 * p1 + 26 ≤ z61) → (z61 ≤ 40 * p1 + 33) → (f_n ≤ 7) → (z61 - 25) < (nL63 : Int) → sV (gG l D c H0 sa) mX12_addMark (sRm 2 0 0) (sZ (gG l D c H0 sa) 0 0 (qV w [126999] μ (fun μ1 => mG [(((40 * p1) + 1), ((40 * p1) + 40))] μ μ1 ∧ True))) 39 [(0, .ref 106), (1, iv p1), (2, iv p2), (4, iv z61)] [] (mk w μ62) 0 0 := by
      intro nL63
      induction nL63 with
      | zero => intro z61 μ62 f_n T65 F66 G67 q72 h64 h68 h69 h70 h71; exact ((vc_X12_addMark_5 h71 h68 h69 hp1 h64)).elim
      | succ nL63 ih73 =>
        intro z61 μ62 f_n T65 F66 G67 q72 h64 h68 h69 h70 h71
        have h74 := rt7 T65 (A_126 hw) (vc_X12_addMark_6 h68 h69 hp1 h64) q72
        have h75 : 0 ≤ f_n ∧ f_n ≤ 8 := h74.2.2.2 (vc_X12_addMark_7 h68 h69 hp1 h64)
        refine mr_iload (pc := 39) (z := z61) dX12_addMark_39 rfl ?_
        refine mr_bipush (pc := 41) (z := 40) dX12_addMark_41 (by decide) ?_
        refine mr_iload_n (pc := 43) (z := p1) dX12_addMark_43 rfl rfl ?_
        refine mr_imul (pc := 44) (x := 40) (y := p1) dX12_addMark_44 ?_
        refine mr_bipush (pc := 45) (z := 26) dX12_addMark_45 (by decide) ?_
        refine mr_iadd (pc := 47) (x := (40 * p1)) (y := 26) dX12_addMark_47 ?_
        have J86 : sV (gG l D c H0 sa) mX12_addMark (sRm 2 0 0) (sZ (gG l D c H0 sa) 0 0 (qV w [126999] μ (fun μ1 => mG [(((40 * p1) + 1), ((40 * p1) + 40))] μ μ1 ∧ True))) 86 [(0, .ref 106), (1, iv p1), (2, iv p2), (4, iv z61)] [] (mk w μ62) 0 0 := by
          refine sv_aload_n (pc := 86) dX12_addMark_86 rfl rfl ?_
          refine gf_X12_32 (pc := 87) dX12_addMark_87 wF_X12_148 (A_106 hw) T65 ?_
          refine mr_iload (pc := 90) (z := z61) dX12_addMark_90 rfl ?_
          refine mr_iload_n (pc := 92) (z := p2) dX12_addMark_92 rfl rfl ?_
          refine ss_126 (pc := 93) dX12_addMark_93 (A_126 hw) T65 (rIx (n := 84000) h64 rfl) (vc_X12_addMark_8 h68 h69 hp1 hp2 h64) fun μ87 u88 T89 => ?_
          refine sv_aload_n (pc := 94) dX12_addMark_94 rfl rfl ?_
          refine gf_X12_32 (pc := 95) dX12_addMark_95 wF_X12_148 (A_106 hw) T89 ?_
          refine mr_bipush (pc := 98) (z := 40) dX12_addMark_98 (by decide) ?_
          refine mr_iload_n (pc := 100) (z := p1) dX12_addMark_100 rfl rfl ?_
          refine mr_imul (pc := 101) (x := 40) (y := p1) dX12_addMark_101 ?_
          refine mr_iconst (pc := 102) (z := 5) dX12_addMark_102 ?_
          refine mr_iadd (pc := 103) (x := (40 * p1)) (y := 5) dX12_addMark_103 ?_
          refine sv_dup2 (pc := 104) dX12_addMark_104 rfl rfl ?_
          refine lk_126 (pc := 105) dX12_addMark_105 (A_126 hw) (rIx (n := 84000) (rAdd (e := 5) (f := 83965) (rMulL (n := 40) (e := 0) (f := 83960) hp1 rfl) (rR (x := 5)) rfl) rfl) (u88.f (Or.inr (vc_X12_addMark_9 h68 h69 hp1 h64)) q72) ?_
          refine mr_iconst (pc := 106) (z := 1) dX12_addMark_106 ?_
          refine mr_iadd (pc := 107) (x := f_n) (y := 1) dX12_addMark_107 ?_
          refine ss_126 (pc := 108) dX12_addMark_108 (A_126 hw) T89 (rIx (n := 84000) (rAdd (e := 5) (f := 83965) (rMulL (n := 40) (e := 0) (f := 83960) hp1 rfl) (rR (x := 5)) rfl) rfl) (vc_X12_addMark_10 h68 h69 h70 h75 hp1 h64) fun μ90 u91 T92 => ?_
          exact mr_vret dX12_addMark_109 rfl (le_t rfl) (le_t rfl) T92 (mF.up (mF.up (mF.call mF.refl F66 rfl) (A_126 hw) u88 rfl) (A_126 hw) u91 rfl) ⟨(mG.up (mG.up (mG.call mG.refl G67 (List.forall_mem_cons.mpr ⟨⟨_, List.mem_cons_self, (vc_X12_addMark_11 h68 h69 hp1 h64)⟩, (fun _ h => absurd h List.not_mem_nil)⟩)) u88 List.mem_cons_self (vc_X12_addMark_12 h68 h69 hp1 h64)) u91 List.mem_cons_self (vc_X12_addMark_13 h68 h69 hp1 h64)), trivial⟩
        refine mr_icmp_le (pc := 48) (tgt := 86) dX12_addMark_48 (by decide) (r32 h64 rfl) (r32 (rAdd (e := 26) (f := 83986) (rMulL (n := 40) (e := 0) (f := 83960) hp1 rfl) (rR (x := 26)) rfl) rfl) (fun h93 => ?_) (fun h93 => ?_)
        · have h94 : 26 ≤ z61 ∧ z61 ≤ 83986 := (vc_X12_addMark_14 h93 h68 h69 hp1 h64)
          exact J86 
        have h95 : 27 ≤ z61 ∧ z61 ≤ 83993 := (vc_X12_addMark_15 h93 h68 h69 hp1 h64)
        refine sv_aload_n (pc := 51) dX12_addMark_51 rfl rfl ?_
        refine gf_X12_32 (pc := 52) dX12_addMark_52 wF_X12_148 (A_106 hw) T65 ?_
        refine mr_iload (pc := 55) (z := z61) dX12_addMark_55 rfl ?_
        refine mr_iconst (pc := 57) (z := 1) dX12_addMark_57 ?_
        refine mr_isub (pc := 58) (x := z61) (y := 1) dX12_addMark_58 ?_
        refine la_126 (pc := 59) dX12_addMark_59 (A_126 hw) T65 (rIx (n := 84000) (rSub (e := 26) (f := 83992) h95 (rR (x := 1)) rfl) rfl) fun z96 q97 h98 => ?_
        refine mr_iload_n (pc := 60) (z := p2) dX12_addMark_60 rfl rfl ?_
        refine mr_icmp_le (pc := 61) (tgt := 86) dX12_addMark_61 (by decide) h98.1 hp2 (fun h99 => ?_) (fun h99 => ?_)
        · exact J86 
        have h100 : (-2147483647) ≤ z96 ∧ z96 ≤ 2147483647 := (vc_X12_addMark_16 h99 h98.2.1 h98.2.2.1 h98.2.2.2 hp2 h95 h98.1)
        have h101 : (-2147483648) ≤ p2 ∧ p2 ≤ 2147483646 := (vc_X12_addMark_17 h99 h98.2.1 h98.2.2.1 h98.2.2.2 hp2 h95 h100)
        refine sv_aload_n (pc := 64) dX12_addMark_64 rfl rfl ?_
        refine gf_X12_32 (pc := 65) dX12_addMark_65 wF_X12_148 (A_106 hw) T65 ?_
        refine mr_iload (pc := 68) (z := z61) dX12_addMark_68 rfl ?_
        refine sv_aload_n (pc := 70) dX12_addMark_70 rfl rfl ?_
        refine gf_X12_32 (pc := 71) dX12_addMark_71 wF_X12_148 (A_106 hw) T65 ?_
        refine mr_iload (pc := 74) (z := z61) dX12_addMark_74 rfl ?_
        refine mr_iconst (pc := 76) (z := 1) dX12_addMark_76 ?_
        refine mr_isub (pc := 77) (x := z61) (y := 1) dX12_addMark_77 ?_
        refine lk_126 (pc := 78) dX12_addMark_78 (A_126 hw) (rIx (n := 84000) (rSub (e := 26) (f := 83992) h95 (rR (x := 1)) rfl) rfl) q97 ?_
        refine ss_126 (pc := 79) dX12_addMark_79 (A_126 hw) T65 (rIx (n := 84000) h95 rfl) (vc_X12_addMark_18 h68 h69 h93 h98.2.1 h98.2.2.1 h98.2.2.2 h99 hp1 h101 h95 h100) fun μ102 u103 T104 => ?_
        refine mr_iinc (pc := 80) (lv' := [(4, iv (z61 + (-1))), (0, .ref 106), (1, iv p1), (2, iv p2)]) dX12_addMark_80 rfl (by decide) rfl ?_
        refine sv_goto (pc := 83) (tgt := 39) dX12_addMark_83 (by decide) ?_
        refine mr_lvS (lv' := [(0, .ref 106), (1, iv p1), (2, iv p2), (4, iv (z61 + (-1)))]) (List.forall_mem_cons.mpr ⟨rfl, List.forall_mem_cons.mpr ⟨rfl, List.forall_mem_cons.mpr ⟨rfl, List.forall_mem_cons.mpr ⟨rfl, fun _ h => absurd h List.not_mem_nil⟩⟩⟩⟩) ?_
        exact ih73 (z61 + (-1)) μ102 f_n T104 (mF.up (mF.call mF.refl F66 rfl) (A_126 hw) u103 rfl) (mG.up (mG.call mG.refl G67 (List.forall_mem_cons.mpr ⟨⟨_, List.mem_cons_self, (vc_X12_addMark_24 h68 h69 h93 h98.2.1 h98.2.2.1 h98.2.2.2 hp1 h95 h100)⟩, (fun _ h => absurd h List.not_mem_nil)⟩)) u103 List.mem_cons_self (vc_X12_addMark_25 h68 h69 h93 h98.2.1 h98.2.2.1 h98.2.2.2 h99 hp1 h101 h95 h100)) (u103.f (Or.inr (vc_X12_addMark_19 h68 h69 h93 h98.2.1 h98.2.2.1 h98.2.2.2 h99 hp1 h101 h95 h100)) q72) (rW (c := 26) (d := 83993) (rAdd (e := 26) (f := 83992) h95 (rR (x := (-1))) rfl) rfl) (vc_X12_addMark_20 h68 h69 h93 h98.2.1 h98.2.2.1 h98.2.2.2 h99 hp1 h101 h95 h100) (vc_X12_addMark_21 h68 h69 h93 h98.2.1 h98.2.2.1 h98.2.2.2 h99 hp1 h101 h95 h100) (vc_X12_addMark_22 h70 h75) (vc_X12_addMark_23 (nS h71) h68 h69 h93 h98.2.1 h98.2.2.1 h98.2.2.2 h99 hp1 h101 h95 h100)
    refine mr_lvS (lv' := [(0, .ref 106), (1, iv p1), (2, iv p2), (4, iv (((40 * p1) + 26) + z1))]) (List.forall_mem_cons.mpr ⟨rfl, List.forall_mem_cons.mpr ⟨rfl, List.forall_mem_cons.mpr ⟨rfl, List.forall_mem_cons.mpr ⟨rfl, fun _ h => absurd h List.not_mem_nil⟩⟩⟩⟩) ?_
    exact L63 83969 (((40 * p1) + 26) + z1) μ z1 hT mF.refl mG.refl q2 (rAdd (e := 26) (f := 83993) (rAdd (e := 26) (f := 83986) (rMulL (n := 40) (e := 0) (f := 83960) hp1 rfl) (rR (x := 26)) rfl) h7 rfl) (vc_X12_addMark_26 h5 hp1 h7) (vc_X12_addMark_27 h5 hp1 h7) (vc_X12_addMark_28 h5 h7) (vc_X12_addMark_29 h5 hp1 h7)
  have h105 : 1 ≤ z12 ∧ z12 ≤ 1 := (vc_X12_addMark_30 h13 h11.1)
  exact mr_vret dX12_addMark_27 rfl (le_t rfl) (le_t rfl) hT mF.refl ⟨mG.refl, trivial⟩
theorem vc_X12_dropMark_1 {z5 : Int} (h0 : ¬ z5 = 0) (h1 : 0 ≤ z5 ∧ z5 ≤ 1) : 1 ≤ z5 ∧ z5 ≤ 1 := by omega
theorem vc_X12_dropMark_2 {z148 z149 : Int} (h0 : (9 - z148) < ((0 : Nat) : Int)) (h1 : z149 ≤ z148) (h2 : z148 ≤ 8) (h3 : 0 ≤ z148 ∧ z148 ≤ 8) (h4 : 0 ≤ z149 ∧ z149 ≤ 8) : False := by omega
theorem vc_X12_dropMark_3 {p1 : Int} (h0 : 0 ≤ p1 ∧ p1 ≤ 2099) : ((40 * p1) + 5) % 40 = 5 := by omega
theorem vc_X12_dropMark_4 {p1 z148 z149 z161 : Int} (h0 : z149 ≤ z148) (h1 : z148 ≤ 8) (h2 : z161 ≤ z148) (h3 : 0 ≤ p1 ∧ p1 ≤ 2099) (h4 : 0 ≤ z148 ∧ z148 ≤ 8) (h5 : 0 ≤ z149 ∧ z149 ≤ 8) (h6 : 0 ≤ z161 ∧ z161 ≤ 8) : (-2147483648 ≤ z149 ∧ z149 ≤ 2147483647) ∧ (((40 * p1) + 5) % 40 = 0 → -1 ≤ z149 ∧ z149 ≤ 9) ∧ (((40 * p1) + 5) % 40 = 4 → 0 ≤ z149 ∧ z149 ≤ 20) ∧ (((40 * p1) + 5) % 40 = 5 → 0 ≤ z149 ∧ z149 ≤ 8) := by omega
theorem vc_X12_dropMark_5 {p1 : Int} (h0 : 0 ≤ p1 ∧ p1 ≤ 2099) : ((40 * p1) + 1) ≤ ((40 * p1) + 1) ∧ ((40 * p1) + 40) ≤ ((40 * p1) + 40) := by omega
theorem vc_X12_dropMark_6 {p1 : Int} (h0 : 0 ≤ p1 ∧ p1 ≤ 2099) : 0 ≤ ((40 * p1) + 5) ∧ ((40 * p1) + 1) ≤ ((40 * p1) + 5) ∧ ((40 * p1) + 5) < ((40 * p1) + 40) := by omega
theorem vc_X12_dropMark_7 {z148 z149 z161 : Int} (h0 : z148 < z161) (h1 : z149 ≤ z148) (h2 : z148 ≤ 8) (h3 : 0 ≤ z148 ∧ z148 ≤ 8) (h4 : 0 ≤ z149 ∧ z149 ≤ 8) (h5 : 0 ≤ z161 ∧ z161 ≤ 8) : 0 ≤ z148 ∧ z148 ≤ 7 := by omega
theorem vc_X12_dropMark_8 {z148 z149 z161 : Int} (h0 : z148 < z161) (h1 : z149 ≤ z148) (h2 : z148 ≤ 8) (h3 : 0 ≤ z148 ∧ z148 ≤ 7) (h4 : 0 ≤ z149 ∧ z149 ≤ 8) (h5 : 0 ≤ z161 ∧ z161 ≤ 8) : 1 ≤ z161 ∧ z161 ≤ 8 := by omega
theorem vc_X12_dropMark_9 {p1 p2 z148 z149 z161 z179 : Int} (h0 : z149 ≤ z148) (h1 : z148 ≤ 8) (h2 : z148 < z161) (h3 : ((((40 * p1) + 26) + z148) % 40 = 0 → -1 ≤ z179 ∧ z179 ≤ 9)) (h4 : ((((40 * p1) + 26) + z148) % 40 = 4 → 0 ≤ z179 ∧ z179 ≤ 20)) (h5 : ((((40 * p1) + 26) + z148) % 40 = 5 → 0 ≤ z179 ∧ z179 ≤ 8)) (h6 : z179 = p2) (h7 : 0 ≤ p1 ∧ p1 ≤ 2099) (h8 : (-2147483648) ≤ p2 ∧ p2 ≤ 2147483647) (h9 : 0 ≤ z148 ∧ z148 ≤ 7) (h10 : 0 ≤ z149 ∧ z149 ≤ 8) (h11 : 1 ≤ z161 ∧ z161 ≤ 8) (h12 : (-2147483648) ≤ z179 ∧ z179 ≤ 2147483647) : z149 ≤ (z148 + 1) := by omega
theorem vc_X12_dropMark_10 {p1 p2 z148 z149 z161 z179 : Int} (h0 : z149 ≤ z148) (h1 : z148 ≤ 8) (h2 : z148 < z161) (h3 : ((((40 * p1) + 26) + z148) % 40 = 0 → -1 ≤ z179 ∧ z179 ≤ 9)) (h4 : ((((40 * p1) + 26) + z148) % 40 = 4 → 0 ≤ z179 ∧ z179 ≤ 20)) (h5 : ((((40 * p1) + 26) + z148) % 40 = 5 → 0 ≤ z179 ∧ z179 ≤ 8)) (h6 : z179 = p2) (h7 : 0 ≤ p1 ∧ p1 ≤ 2099) (h8 : (-2147483648) ≤ p2 ∧ p2 ≤ 2147483647) (h9 : 0 ≤ z148 ∧ z148 ≤ 7) (h10 : 0 ≤ z149 ∧ z149 ≤ 8) (h11 : 1 ≤ z161 ∧ z161 ≤ 8) (h12 : (-2147483648) ≤ z179 ∧ z179 ≤ 2147483647) : (z148 + 1) ≤ 8 := by omega
theorem vc_X12_dropMark_11 {N p1 p2 z148 z149 z161 z179 : Int} (h0 : (9 - z148) < N + 1) (h1 : z149 ≤ z148) (h2 : z148 ≤ 8) (h3 : z148 < z161) (h4 : ((((40 * p1) + 26) + z148) % 40 = 0 → -1 ≤ z179 ∧ z179 ≤ 9)) (h5 : ((((40 * p1) + 26) + z148) % 40 = 4 → 0 ≤ z179 ∧ z179 ≤ 20)) (h6 : ((((40 * p1) + 26) + z148) % 40 = 5 → 0 ≤ z179 ∧ z179 ≤ 8)) (h7 : z179 = p2) (h8 : 0 ≤ p1 ∧ p1 ≤ 2099) (h9 : (-2147483648) ≤ p2 ∧ p2 ≤ 2147483647) (h10 : 0 ≤ z148 ∧ z148 ≤ 7) (h11 : 0 ≤ z149 ∧ z149 ≤ 8) (h12 : 1 ≤ z161 ∧ z161 ≤ 8) (h13 : (-2147483648) ≤ z179 ∧ z179 ≤ 2147483647) : (9 - (z148 + 1)) < N := by omega
theorem vc_X12_dropMark_12 {p1 p2 z148 z149 z161 z179 : Int} (h0 : ((((40 * p1) + 26) + z148) % 40 = 0 → -1 ≤ z179 ∧ z179 ≤ 9)) (h1 : ((((40 * p1) + 26) + z148) % 40 = 4 → 0 ≤ z179 ∧ z179 ≤ 20)) (h2 : ((((40 * p1) + 26) + z148) % 40 = 5 → 0 ≤ z179 ∧ z179 ≤ 8)) (h3 : z149 ≤ z148) (h4 : z148 ≤ 8) (h5 : z148 < z161) (h6 : z179 = p2) (h7 : 0 ≤ p1 ∧ p1 ≤ 2099) (h8 : (-2147483648) ≤ p2 ∧ p2 ≤ 2147483647) (h9 : 0 ≤ z148 ∧ z148 ≤ 7) (h10 : 0 ≤ z149 ∧ z149 ≤ 8) (h11 : 1 ≤ z161 ∧ z161 ≤ 8) (h12 : (-2147483648) ≤ z179 ∧ z179 ≤ 2147483647) : ((40 * p1) + 1) ≤ ((40 * p1) + 1) ∧ ((40 * p1) + 40) ≤ ((40 * p1) + 40) := by omega
theorem vc_X12_dropMark_13 {p1 p2 z148 z149 z161 z179 : Int} (h0 : z149 ≤ z148) (h1 : ((((40 * p1) + 26) + z148) % 40 = 0 → -1 ≤ z179 ∧ z179 ≤ 9)) (h2 : ((((40 * p1) + 26) + z148) % 40 = 4 → 0 ≤ z179 ∧ z179 ≤ 20)) (h3 : ((((40 * p1) + 26) + z148) % 40 = 5 → 0 ≤ z179 ∧ z179 ≤ 8)) (h4 : ¬ z179 = p2) (h5 : z148 ≤ 8) (h6 : z148 < z161) (h7 : 0 ≤ p1 ∧ p1 ≤ 2099) (h8 : (-2147483648) ≤ p2 ∧ p2 ≤ 2147483647) (h9 : 0 ≤ z148 ∧ z148 ≤ 7) (h10 : 0 ≤ z149 ∧ z149 ≤ 8) (h11 : 1 ≤ z161 ∧ z161 ≤ 8) (h12 : (-2147483648) ≤ z179 ∧ z179 ≤ 2147483647) : (-2147483648 ≤ z179 ∧ z179 ≤ 2147483647) ∧ ((((40 * p1) + 26) + z149) % 40 = 0 → -1 ≤ z179 ∧ z179 ≤ 9) ∧ ((((40 * p1) + 26) + z149) % 40 = 4 → 0 ≤ z179 ∧ z179 ≤ 20) ∧ ((((40 * p1) + 26) + z149) % 40 = 5 → 0 ≤ z179 ∧ z179 ≤ 8) := by omega
theorem vc_X12_dropMark_14 {p1 z148 z149 z161 z179 : Int} (h0 : z149 ≤ z148) (h1 : z148 ≤ 8) (h2 : z148 < z161) (h3 : ((((40 * p1) + 26) + z148) % 40 = 0 → -1 ≤ z179 ∧ z179 ≤ 9)) (h4 : ((((40 * p1) + 26) + z148) % 40 = 4 → 0 ≤ z179 ∧ z179 ≤ 20)) (h5 : ((((40 * p1) + 26) + z148) % 40 = 5 → 0 ≤ z179 ∧ z179 ≤ 8)) (h6 : 0 ≤ p1 ∧ p1 ≤ 2099) (h7 : 0 ≤ z148 ∧ z148 ≤ 7) (h8 : 0 ≤ z149 ∧ z149 ≤ 8) (h9 : 1 ≤ z161 ∧ z161 ≤ 8) (h10 : (-2147483648) ≤ z179 ∧ z179 ≤ 2147483647) : 0 ≤ (z149 + 1) ∧ (z149 + 1) ≤ 8 := by omega
theorem vc_X12_dropMark_15 {p1 p2 z148 z149 z161 z179 : Int} (h0 : z149 ≤ z148) (h1 : z148 ≤ 8) (h2 : z148 < z161) (h3 : ((((40 * p1) + 26) + z148) % 40 = 0 → -1 ≤ z179 ∧ z179 ≤ 9)) (h4 : ((((40 * p1) + 26) + z148) % 40 = 4 → 0 ≤ z179 ∧ z179 ≤ 20)) (h5 : ((((40 * p1) + 26) + z148) % 40 = 5 → 0 ≤ z179 ∧ z179 ≤ 8)) (h6 : ¬ z179 = p2) (h7 : 0 ≤ p1 ∧ p1 ≤ 2099) (h8 : (-2147483648) ≤ p2 ∧ p2 ≤ 2147483647) (h9 : 0 ≤ z148 ∧ z148 ≤ 7) (h10 : 0 ≤ z149 ∧ z149 ≤ 8) (h11 : 1 ≤ z161 ∧ z161 ≤ 8) (h12 : (-2147483648) ≤ z179 ∧ z179 ≤ 2147483647) : (z149 + 1) ≤ (z148 + 1) := by omega
theorem vc_X12_dropMark_16 {p1 p2 z148 z149 z161 z179 : Int} (h0 : z149 ≤ z148) (h1 : z148 ≤ 8) (h2 : z148 < z161) (h3 : ((((40 * p1) + 26) + z148) % 40 = 0 → -1 ≤ z179 ∧ z179 ≤ 9)) (h4 : ((((40 * p1) + 26) + z148) % 40 = 4 → 0 ≤ z179 ∧ z179 ≤ 20)) (h5 : ((((40 * p1) + 26) + z148) % 40 = 5 → 0 ≤ z179 ∧ z179 ≤ 8)) (h6 : ¬ z179 = p2) (h7 : 0 ≤ p1 ∧ p1 ≤ 2099) (h8 : (-2147483648) ≤ p2 ∧ p2 ≤ 2147483647) (h9 : 0 ≤ z148 ∧ z148 ≤ 7) (h10 : 0 ≤ z149 ∧ z149 ≤ 8) (h11 : 1 ≤ z161 ∧ z161 ≤ 8) (h12 : (-2147483648) ≤ z179 ∧ z179 ≤ 2147483647) : (z148 + 1) ≤ 8 := by omega
theorem vc_X12_dropMark_17 {N p1 p2 z148 z149 z161 z179 : Int} (h0 : (9 - z148) < N + 1) (h1 : z149 ≤ z148) (h2 : z148 ≤ 8) (h3 : z148 < z161) (h4 : ((((40 * p1) + 26) + z148) % 40 = 0 → -1 ≤ z179 ∧ z179 ≤ 9)) (h5 : ((((40 * p1) + 26) + z148) % 40 = 4 → 0 ≤ z179 ∧ z179 ≤ 20)) (h6 : ((((40 * p1) + 26) + z148) % 40 = 5 → 0 ≤ z179 ∧ z179 ≤ 8)) (h7 : ¬ z179 = p2) (h8 : 0 ≤ p1 ∧ p1 ≤ 2099) (h9 : (-2147483648) ≤ p2 ∧ p2 ≤ 2147483647) (h10 : 0 ≤ z148 ∧ z148 ≤ 7) (h11 : 0 ≤ z149 ∧ z149 ≤ 8) (h12 : 1 ≤ z161 ∧ z161 ≤ 8) (h13 : (-2147483648) ≤ z179 ∧ z179 ≤ 2147483647) : (9 - (z148 + 1)) < N := by omega
theorem vc_X12_dropMark_18 {p1 p2 z148 z149 z161 z179 : Int} (h0 : ((((40 * p1) + 26) + z148) % 40 = 0 → -1 ≤ z179 ∧ z179 ≤ 9)) (h1 : ((((40 * p1) + 26) + z148) % 40 = 4 → 0 ≤ z179 ∧ z179 ≤ 20)) (h2 : ((((40 * p1) + 26) + z148) % 40 = 5 → 0 ≤ z179 ∧ z179 ≤ 8)) (h3 : z149 ≤ z148) (h4 : z148 ≤ 8) (h5 : z148 < z161) (h6 : ¬ z179 = p2) (h7 : 0 ≤ p1 ∧ p1 ≤ 2099) (h8 : (-2147483648) ≤ p2 ∧ p2 ≤ 2147483647) (h9 : 0 ≤ z148 ∧ z148 ≤ 7) (h10 : 0 ≤ z149 ∧ z149 ≤ 8) (h11 : 1 ≤ z161 ∧ z161 ≤ 8) (h12 : (-2147483648) ≤ z179 ∧ z179 ≤ 2147483647) : ((40 * p1) + 1) ≤ ((40 * p1) + 1) ∧ ((40 * p1) + 40) ≤ ((40 * p1) + 40) := by omega
theorem vc_X12_dropMark_19 {p1 p2 z148 z149 z161 z179 : Int} (h0 : z149 ≤ z148) (h1 : ((((40 * p1) + 26) + z148) % 40 = 0 → -1 ≤ z179 ∧ z179 ≤ 9)) (h2 : ((((40 * p1) + 26) + z148) % 40 = 4 → 0 ≤ z179 ∧ z179 ≤ 20)) (h3 : ((((40 * p1) + 26) + z148) % 40 = 5 → 0 ≤ z179 ∧ z179 ≤ 8)) (h4 : z148 ≤ 8) (h5 : z148 < z161) (h6 : ¬ z179 = p2) (h7 : 0 ≤ p1 ∧ p1 ≤ 2099) (h8 : (-2147483648) ≤ p2 ∧ p2 ≤ 2147483647) (h9 : 0 ≤ z148 ∧ z148 ≤ 7) (h10 : 0 ≤ z149 ∧ z149 ≤ 8) (h11 : 1 ≤ z161 ∧ z161 ≤ 8) (h12 : (-2147483648) ≤ z179 ∧ z179 ≤ 2147483647) : 0 ≤ (((40 * p1) + 26) + z149) ∧ ((40 * p1) + 1) ≤ (((40 * p1) + 26) + z149) ∧ (((40 * p1) + 26) + z149) < ((40 * p1) + 40) := by omega
theorem vc_X12_dropMark_20  : ((0 : Int) : Int) ≤ ((0 : Int) : Int) := by omega
theorem vc_X12_dropMark_21  : ((0 : Int) : Int) ≤ (8 : Int) := by omega
theorem vc_X12_dropMark_22  : (9 - 0) < ((10 : Nat) : Int) := by omega
theorem vc_X12_dropMark_23 {z5 : Int} (h0 : z5 = 0) (h1 : 0 ≤ z5 ∧ z5 ≤ 1) : 0 ≤ z5 ∧ z5 ≤ 0 := by omega
set_option maxRecDepth 4000 in
set_option maxHeartbeats 4000000 in
theorem c_X12_dropMark {l : Launch} {D : va_G} {c : Nat → ClassId} {H0 : Heap} {sa : Nat × Nat × (Nat → Int32)} {w : mW} {μ : mM} (hw : mWF w) (hT : mT w μ) {p1 : Int} (hp1 : 0 ≤ p1 ∧ p1 ≤ 2099) {p2 : Int} (hp2 : (-2147483648) ≤ p2 ∧ p2 ≤ 2147483647) : sC (gG l D c H0 sa) mX12_dropMark 2 0 0 [.ref 106, iv p1, iv p2] (mk w μ) (qV w [126999] μ (fun μ1 => mG [(((40 * p1) + 1), ((40 * p1) + 40))] μ μ1 ∧ True)) := by
  refine sC.of rfl (by decide) (le_t rfl) ?_
  refine mr_lvE (lv' := [(0, .ref 106), (1, iv p1), (2, iv p2)]) rfl ?_
  refine sv_aload_n (pc := 0) dX12_dropMark_0 rfl rfl ?_
  refine mr_iload_n (pc := 1) (z := p1) dX12_dropMark_1 rfl rfl ?_
  refine mr_iload_n (pc := 2) (z := p2) dX12_dropMark_2 rfl rfl ?_
  refine mr_cVP (pc := 3) (c_X12_marked hw hT hp1 hp2) (gOk _ _ _ _ _) dX12_dropMark_3 (tX12_marked _ _ _ _ _) ⟨wV_X12_marked, wL_X12_marked⟩ wM_X12_154 (gCX12 _ _ _ _ _) rfl (A_106 hw) rfl ⟨le_t rfl, le_t rfl⟩ ⟨le_t rfl, le_t rfl⟩ rfl (le_t rfl) fun z5 h4 => ?_
  refine mr_if_ne (pc := 6) (tgt := 10) dX12_dropMark_6 (by decide) (r32 h4.1 rfl) (fun h6 => ?_) (fun h6 => ?_)
  · have h7 : 1 ≤ z5 ∧ z5 ≤ 1 := (vc_X12_dropMark_1 h6 h4.1)
    refine mr_iconst (pc := 10) (z := 0) dX12_dropMark_10 ?_
    refine mr_istore_n (pc := 11) (lv' := [(3, iv 0), (0, .ref 106), (1, iv p1), (2, iv p2)]) dX12_dropMark_11 rfl (by decide) rfl ?_
    refine mr_iconst (pc := 12) (z := 0) dX12_dropMark_12 ?_
    refine mr_istore (pc := 13) (lv' := [(4, iv 0), (3, iv 0), (0, .ref 106), (1, iv p1), (2, iv p2)]) dX12_dropMark_13 (by decide) rfl ?_
    have L151 : ∀ (nL151 : Nat) (z149 z148 : Int) (μ150 : mM), mT w μ150 → mF [126999] w μ μ150 → mG [(((40 * p1) + 1), ((40 * p1) + 40))] μ μ150 → (0 ≤ z149 ∧ z149 ≤ 8) → (0 ≤ z148 ∧ z148 ≤ 8) → (z149 ≤ z148) → (z148 ≤ 8) → (9 - z148) < (nL151 : Int) → sV (gG l D c H0 sa) mX12_dropMark (sRm 2 0 0) (sZ (gG l D c H0 sa) 0 0 (qV w [126999] μ (fun μ1 => mG [(((40 * p1) + 1), ((40 * p1) + 40))] μ μ1 ∧ True))) 15 [(0, .ref 106), (1, iv p1), (2, iv p2), (3, iv z149), (4, iv z148)] [] (mk w μ150) 0 0 := by
      intro nL151
      induction nL151 with
      | zero => intro z149 z148 μ150 T154 F155 G156 h152 h153 h157 h158 h159; exact ((vc_X12_dropMark_2 h159 h157 h158 h153 h152)).elim
      | succ nL151 ih160 =>
        intro z149 z148 μ150 T154 F155 G156 h152 h153 h157 h158 h159
        refine mr_iload (pc := 15) (z := z148) dX12_dropMark_15 rfl ?_
        refine sv_aload_n (pc := 17) dX12_dropMark_17 rfl rfl ?_
        refine gf_X12_32 (pc := 18) dX12_dropMark_18 wF_X12_148 (A_106 hw) T154 ?_
        refine mr_bipush (pc := 21) (z := 40) dX12_dropMark_21 (by decide) ?_
        refine mr_iload_n (pc := 23) (z := p1) dX12_dropMark_23 rfl rfl ?_
        refine mr_imul (pc := 24) (x := 40) (y := p1) dX12_dropMark_24 ?_
        refine mr_iconst (pc := 25) (z := 5) dX12_dropMark_25 ?_
        refine mr_iadd (pc := 26) (x := (40 * p1)) (y := 5) dX12_dropMark_26 ?_
        refine la_126 (pc := 27) dX12_dropMark_27 (A_126 hw) T154 (rIx (n := 84000) (rAdd (e := 5) (f := 83965) (rMulL (n := 40) (e := 0) (f := 83960) hp1 rfl) (rR (x := 5)) rfl) rfl) fun z161 q162 h163 => ?_
        have h164 : 0 ≤ z161 ∧ z161 ≤ 8 := h163.2.2.2 (vc_X12_dropMark_3 hp1)
        refine mr_icmp_ge (pc := 28) (tgt := 79) dX12_dropMark_28 (by decide) (r32 h153 rfl) (r32 h164 rfl) (fun h173 => ?_) (fun h173 => ?_)
        · refine sv_aload_n (pc := 79) dX12_dropMark_79 rfl rfl ?_
          refine gf_X12_32 (pc := 80) dX12_dropMark_80 wF_X12_148 (A_106 hw) T154 ?_
          refine mr_bipush (pc := 83) (z := 40) dX12_dropMark_83 (by decide) ?_
          refine mr_iload_n (pc := 85) (z := p1) dX12_dropMark_85 rfl rfl ?_
          refine mr_imul (pc := 86) (x := 40) (y := p1) dX12_dropMark_86 ?_
          refine mr_iconst (pc := 87) (z := 5) dX12_dropMark_87 ?_
          refine mr_iadd (pc := 88) (x := (40 * p1)) (y := 5) dX12_dropMark_88 ?_
          refine mr_iload_n (pc := 89) (z := z149) dX12_dropMark_89 rfl rfl ?_
          refine ss_126 (pc := 90) dX12_dropMark_90 (A_126 hw) T154 (rIx (n := 84000) (rAdd (e := 5) (f := 83965) (rMulL (n := 40) (e := 0) (f := 83960) hp1 rfl) (rR (x := 5)) rfl) rfl) (vc_X12_dropMark_4 h157 h158 h173 hp1 h153 h152 h164) fun μ174 u175 T176 => ?_
          exact mr_vret dX12_dropMark_91 rfl (le_t rfl) (le_t rfl) T176 (mF.up (mF.call mF.refl F155 rfl) (A_126 hw) u175 rfl) ⟨(mG.up (mG.call mG.refl G156 (List.forall_mem_cons.mpr ⟨⟨_, List.mem_cons_self, (vc_X12_dropMark_5 hp1)⟩, (fun _ h => absurd h List.not_mem_nil)⟩)) u175 List.mem_cons_self (vc_X12_dropMark_6 hp1)), trivial⟩
        have h177 : 0 ≤ z148 ∧ z148 ≤ 7 := (vc_X12_dropMark_7 h173 h157 h158 h153 h152 h164)
        have h178 : 1 ≤ z161 ∧ z161 ≤ 8 := (vc_X12_dropMark_8 h173 h157 h158 h177 h152 h164)
        refine sv_aload_n (pc := 31) dX12_dropMark_31 rfl rfl ?_
        refine gf_X12_32 (pc := 32) dX12_dropMark_32 wF_X12_148 (A_106 hw) T154 ?_
        refine mr_bipush (pc := 35) (z := 40) dX12_dropMark_35 (by decide) ?_
        refine mr_iload_n (pc := 37) (z := p1) dX12_dropMark_37 rfl rfl ?_
        refine mr_imul (pc := 38) (x := 40) (y := p1) dX12_dropMark_38 ?_
        refine mr_bipush (pc := 39) (z := 26) dX12_dropMark_39 (by decide) ?_
        refine mr_iadd (pc := 41) (x := (40 * p1)) (y := 26) dX12_dropMark_41 ?_
        refine mr_iload (pc := 42) (z := z148) dX12_dropMark_42 rfl ?_
        refine mr_iadd (pc := 44) (x := ((40 * p1) + 26)) (y := z148) dX12_dropMark_44 ?_
        refine la_126 (pc := 45) dX12_dropMark_45 (A_126 hw) T154 (rIx (n := 84000) (rAdd (e := 26) (f := 83993) (rAdd (e := 26) (f := 83986) (rMulL (n := 40) (e := 0) (f := 83960) hp1 rfl) (rR (x := 26)) rfl) h177 rfl) rfl) fun z179 q180 h181 => ?_
        refine mr_istore (pc := 46) (lv' := [(5, iv z179), (0, .ref 106), (1, iv p1), (2, iv p2), (3, iv z149), (4, iv z148)]) dX12_dropMark_46 (by decide) rfl ?_
        refine mr_iload (pc := 48) (z := z179) dX12_dropMark_48 rfl ?_
        refine mr_iload_n (pc := 50) (z := p2) dX12_dropMark_50 rfl rfl ?_
        refine mr_icmp_eq (pc := 51) (tgt := 73) dX12_dropMark_51 (by decide) h181.1 hp2 (fun h185 => ?_) (fun h185 => ?_)
        · refine mr_iinc (pc := 73) (lv' := [(4, iv (z148 + 1)), (5, iv z179), (0, .ref 106), (1, iv p1), (2, iv p2), (3, iv z149)]) dX12_dropMark_73 rfl (by decide) rfl ?_
          refine sv_goto (pc := 76) (tgt := 15) dX12_dropMark_76 (by decide) ?_
          refine mr_lvS (lv' := [(0, .ref 106), (1, iv p1), (2, iv p2), (3, iv z149), (4, iv (z148 + 1))]) (List.forall_mem_cons.mpr ⟨rfl, List.forall_mem_cons.mpr ⟨rfl, List.forall_mem_cons.mpr ⟨rfl, List.forall_mem_cons.mpr ⟨rfl, List.forall_mem_cons.mpr ⟨rfl, fun _ h => absurd h List.not_mem_nil⟩⟩⟩⟩⟩) ?_
          exact ih160 z149 (z148 + 1) μ150 T154 (mF.call mF.refl F155 rfl) (mG.call mG.refl G156 (List.forall_mem_cons.mpr ⟨⟨_, List.mem_cons_self, (vc_X12_dropMark_12 h181.2.1 h181.2.2.1 h181.2.2.2 h157 h158 h173 h185 hp1 hp2 h177 h152 h178 h181.1)⟩, (fun _ h => absurd h List.not_mem_nil)⟩)) h152 (rW (c := 0) (d := 8) (rAdd (e := 1) (f := 8) h177 (rR (x := 1)) rfl) rfl) (vc_X12_dropMark_9 h157 h158 h173 h181.2.1 h181.2.2.1 h181.2.2.2 h185 hp1 hp2 h177 h152 h178 h181.1) (vc_X12_dropMark_10 h157 h158 h173 h181.2.1 h181.2.2.1 h181.2.2.2 h185 hp1 hp2 h177 h152 h178 h181.1) (vc_X12_dropMark_11 (nS h159) h157 h158 h173 h181.2.1 h181.2.2.1 h181.2.2.2 h185 hp1 hp2 h177 h152 h178 h181.1)
        refine sv_aload_n (pc := 54) dX12_dropMark_54 rfl rfl ?_
        refine gf_X12_32 (pc := 55) dX12_dropMark_55 wF_X12_148 (A_106 hw) T154 ?_
        refine mr_bipush (pc := 58) (z := 40) dX12_dropMark_58 (by decide) ?_
        refine mr_iload_n (pc := 60) (z := p1) dX12_dropMark_60 rfl rfl ?_
        refine mr_imul (pc := 61) (x := 40) (y := p1) dX12_dropMark_61 ?_
        refine mr_bipush (pc := 62) (z := 26) dX12_dropMark_62 (by decide) ?_
        refine mr_iadd (pc := 64) (x := (40 * p1)) (y := 26) dX12_dropMark_64 ?_
        refine mr_iload_n (pc := 65) (z := z149) dX12_dropMark_65 rfl rfl ?_
        refine mr_iadd (pc := 66) (x := ((40 * p1) + 26)) (y := z149) dX12_dropMark_66 ?_
        refine mr_iload (pc := 67) (z := z179) dX12_dropMark_67 rfl ?_
        refine ss_126 (pc := 69) dX12_dropMark_69 (A_126 hw) T154 (rIx (n := 84000) (rAdd (e := 26) (f := 83994) (rAdd (e := 26) (f := 83986) (rMulL (n := 40) (e := 0) (f := 83960) hp1 rfl) (rR (x := 26)) rfl) h152 rfl) rfl) (vc_X12_dropMark_13 h157 h181.2.1 h181.2.2.1 h181.2.2.2 h185 h158 h173 hp1 hp2 h177 h152 h178 h181.1) fun μ186 u187 T188 => ?_
        refine mr_iinc (pc := 70) (lv' := [(3, iv (z149 + 1)), (5, iv z179), (0, .ref 106), (1, iv p1), (2, iv p2), (4, iv z148)]) dX12_dropMark_70 rfl (by decide) rfl ?_
        refine mr_iinc (pc := 73) (lv' := [(4, iv (z148 + 1)), (3, iv (z149 + 1)), (5, iv z179), (0, .ref 106), (1, iv p1), (2, iv p2)]) dX12_dropMark_73 rfl (by decide) rfl ?_
        refine sv_goto (pc := 76) (tgt := 15) dX12_dropMark_76 (by decide) ?_
        refine mr_lvS (lv' := [(0, .ref 106), (1, iv p1), (2, iv p2), (3, iv (z149 + 1)), (4, iv (z148 + 1))]) (List.forall_mem_cons.mpr ⟨rfl, List.forall_mem_cons.mpr ⟨rfl, List.forall_mem_cons.mpr ⟨rfl, List.forall_mem_cons.mpr ⟨rfl, List.forall_mem_cons.mpr ⟨rfl, fun _ h => absurd h List.not_mem_nil⟩⟩⟩⟩⟩) ?_
        exact ih160 (z149 + 1) (z148 + 1) μ186 T188 (mF.up (mF.call mF.refl F155 rfl) (A_126 hw) u187 rfl) (mG.up (mG.call mG.refl G156 (List.forall_mem_cons.mpr ⟨⟨_, List.mem_cons_self, (vc_X12_dropMark_18 h181.2.1 h181.2.2.1 h181.2.2.2 h157 h158 h173 h185 hp1 hp2 h177 h152 h178 h181.1)⟩, (fun _ h => absurd h List.not_mem_nil)⟩)) u187 List.mem_cons_self (vc_X12_dropMark_19 h157 h181.2.1 h181.2.2.1 h181.2.2.2 h158 h173 h185 hp1 hp2 h177 h152 h178 h181.1)) (vc_X12_dropMark_14 h157 h158 h173 h181.2.1 h181.2.2.1 h181.2.2.2 hp1 h177 h152 h178 h181.1) (rW (c := 0) (d := 8) (rAdd (e := 1) (f := 8) h177 (rR (x := 1)) rfl) rfl) (vc_X12_dropMark_15 h157 h158 h173 h181.2.1 h181.2.2.1 h181.2.2.2 h185 hp1 hp2 h177 h152 h178 h181.1) (vc_X12_dropMark_16 h157 h158 h173 h181.2.1 h181.2.2.1 h181.2.2.2 h185 hp1 hp2 h177 h152 h178 h181.1) (vc_X12_dropMark_17 (nS h159) h157 h158 h173 h181.2.1 h181.2.2.1 h181.2.2.2 h185 hp1 hp2 h177 h152 h178 h181.1)
    refine mr_lvS (lv' := [(0, .ref 106), (1, iv p1), (2, iv p2), (3, iv 0), (4, iv 0)]) (List.forall_mem_cons.mpr ⟨rfl, List.forall_mem_cons.mpr ⟨rfl, List.forall_mem_cons.mpr ⟨rfl, List.forall_mem_cons.mpr ⟨rfl, List.forall_mem_cons.mpr ⟨rfl, fun _ h => absurd h List.not_mem_nil⟩⟩⟩⟩⟩) ?_
    exact L151 10 0 0 μ hT mF.refl mG.refl (rW (c := 0) (d := 8) (rR (x := 0)) rfl) (rW (c := 0) (d := 8) (rR (x := 0)) rfl) vc_X12_dropMark_20 vc_X12_dropMark_21 vc_X12_dropMark_22
  have h189 : 0 ≤ z5 ∧ z5 ≤ 0 := (vc_X12_dropMark_23 h6 h4.1)
  exact mr_vret dX12_dropMark_9 rfl (le_t rfl) (le_t rfl) hT mF.refl ⟨mG.refl, trivial⟩
theorem vc_X12_front_1 {p1 : Int} (h0 : 0 ≤ p1 ∧ p1 ≤ 2099) : ((40 * p1) + 4) % 40 = 4 := by omega
theorem vc_X12_front_2 {z1 : Int} (h0 : ¬ z1 = 20) (h1 : 0 ≤ z1 ∧ z1 ≤ 20) : 0 ≤ z1 ∧ z1 ≤ 19 := by omega
theorem vc_X12_front_3 {z45 : Int} (h0 : (z45 - (-1)) < ((0 : Nat) : Int)) (h1 : 0 ≤ z45 ∧ z45 ≤ 19) : False := by omega
theorem vc_X12_front_4 {p1 : Int} (h0 : 0 ≤ p1 ∧ p1 ≤ 2099) : 0 ≤ ((40 * p1) + 4) := by omega
theorem vc_X12_front_5 {z45 : Int} (h0 : z45 ≤ 0) (h1 : 0 ≤ z45 ∧ z45 ≤ 19) : 0 ≤ z45 ∧ z45 ≤ 0 := by omega
theorem vc_X12_front_6 {p1 p2 : Int} (h0 : 0 ≤ p1 ∧ p1 ≤ 2099) (h1 : (-2147483648) ≤ p2 ∧ p2 ≤ 2147483647) : (-2147483648 ≤ p2 ∧ p2 ≤ 2147483647) ∧ (((40 * p1) + 6) % 40 = 0 → -1 ≤ p2 ∧ p2 ≤ 9) ∧ (((40 * p1) + 6) % 40 = 4 → 0 ≤ p2 ∧ p2 ≤ 20) ∧ (((40 * p1) + 6) % 40 = 5 → 0 ≤ p2 ∧ p2 ≤ 8) := by omega
theorem vc_X12_front_7 {p1 : Int} (h0 : 0 ≤ p1 ∧ p1 ≤ 2099) : ((40 * p1) + 4).toNat ≠ ((40 * p1) + 6).toNat := by omega
theorem vc_X12_front_8 {f_n p1 : Int} (h0 : f_n ≤ 19) (h1 : 0 ≤ f_n ∧ f_n ≤ 20) (h2 : 0 ≤ p1 ∧ p1 ≤ 2099) : (-2147483648 ≤ (f_n + 1) ∧ (f_n + 1) ≤ 2147483647) ∧ (((40 * p1) + 4) % 40 = 0 → -1 ≤ (f_n + 1) ∧ (f_n + 1) ≤ 9) ∧ (((40 * p1) + 4) % 40 = 4 → 0 ≤ (f_n + 1) ∧ (f_n + 1) ≤ 20) ∧ (((40 * p1) + 4) % 40 = 5 → 0 ≤ (f_n + 1) ∧ (f_n + 1) ≤ 8) := by omega
theorem vc_X12_front_9 {p1 : Int} (h0 : 0 ≤ p1 ∧ p1 ≤ 2099) : ((40 * p1) + 1) ≤ ((40 * p1) + 1) ∧ ((40 * p1) + 40) ≤ ((40 * p1) + 40) := by omega
theorem vc_X12_front_10 {p1 : Int} (h0 : 0 ≤ p1 ∧ p1 ≤ 2099) : 0 ≤ ((40 * p1) + 6) ∧ ((40 * p1) + 1) ≤ ((40 * p1) + 6) ∧ ((40 * p1) + 6) < ((40 * p1) + 40) := by omega
theorem vc_X12_front_11 {p1 : Int} (h0 : 0 ≤ p1 ∧ p1 ≤ 2099) : 0 ≤ ((40 * p1) + 4) ∧ ((40 * p1) + 1) ≤ ((40 * p1) + 4) ∧ ((40 * p1) + 4) < ((40 * p1) + 40) := by omega
theorem vc_X12_front_12 {z45 : Int} (h0 : 0 < z45) (h1 : 0 ≤ z45 ∧ z45 ≤ 19) : 1 ≤ z45 ∧ z45 ≤ 19 := by omega
theorem vc_X12_front_13 {p1 z45 z75 : Int} (h0 : 0 < z45) (h1 : ((((40 * p1) + 5) + z45) % 40 = 0 → -1 ≤ z75 ∧ z75 ≤ 9)) (h2 : ((((40 * p1) + 5) + z45) % 40 = 4 → 0 ≤ z75 ∧ z75 ≤ 20)) (h3 : ((((40 * p1) + 5) + z45) % 40 = 5 → 0 ≤ z75 ∧ z75 ≤ 8)) (h4 : 0 ≤ p1 ∧ p1 ≤ 2099) (h5 : 1 ≤ z45 ∧ z45 ≤ 19) (h6 : (-2147483648) ≤ z75 ∧ z75 ≤ 2147483647) : (-2147483648 ≤ z75 ∧ z75 ≤ 2147483647) ∧ ((((40 * p1) + 6) + z45) % 40 = 0 → -1 ≤ z75 ∧ z75 ≤ 9) ∧ ((((40 * p1) + 6) + z45) % 40 = 4 → 0 ≤ z75 ∧ z75 ≤ 20) ∧ ((((40 * p1) + 6) + z45) % 40 = 5 → 0 ≤ z75 ∧ z75 ≤ 8) := by omega
theorem vc_X12_front_14 {p1 z45 z75 : Int} (h0 : 0 < z45) (h1 : ((((40 * p1) + 5) + z45) % 40 = 0 → -1 ≤ z75 ∧ z75 ≤ 9)) (h2 : ((((40 * p1) + 5) + z45) % 40 = 4 → 0 ≤ z75 ∧ z75 ≤ 20)) (h3 : ((((40 * p1) + 5) + z45) % 40 = 5 → 0 ≤ z75 ∧ z75 ≤ 8)) (h4 : 0 ≤ p1 ∧ p1 ≤ 2099) (h5 : 1 ≤ z45 ∧ z45 ≤ 19) (h6 : (-2147483648) ≤ z75 ∧ z75 ≤ 2147483647) : ((40 * p1) + 4).toNat ≠ (((40 * p1) + 6) + z45).toNat := by omega
theorem vc_X12_front_15 {f_n : Int} (h0 : f_n ≤ 19) (h1 : 0 ≤ f_n ∧ f_n ≤ 20) : f_n ≤ 19 := by omega
theorem vc_X12_front_16 {N p1 z45 z75 : Int} (h0 : (z45 - (-1)) < N + 1) (h1 : 0 < z45) (h2 : ((((40 * p1) + 5) + z45) % 40 = 0 → -1 ≤ z75 ∧ z75 ≤ 9)) (h3 : ((((40 * p1) + 5) + z45) % 40 = 4 → 0 ≤ z75 ∧ z75 ≤ 20)) (h4 : ((((40 * p1) + 5) + z45) % 40 = 5 → 0 ≤ z75 ∧ z75 ≤ 8)) (h5 : 0 ≤ p1 ∧ p1 ≤ 2099) (h6 : 1 ≤ z45 ∧ z45 ≤ 19) (h7 : (-2147483648) ≤ z75 ∧ z75 ≤ 2147483647) : ((z45 + (-1)) - (-1)) < N := by omega
theorem vc_X12_front_17 {p1 z45 z75 : Int} (h0 : ((((40 * p1) + 5) + z45) % 40 = 0 → -1 ≤ z75 ∧ z75 ≤ 9)) (h1 : ((((40 * p1) + 5) + z45) % 40 = 4 → 0 ≤ z75 ∧ z75 ≤ 20)) (h2 : ((((40 * p1) + 5) + z45) % 40 = 5 → 0 ≤ z75 ∧ z75 ≤ 8)) (h3 : 0 < z45) (h4 : 0 ≤ p1 ∧ p1 ≤ 2099) (h5 : 1 ≤ z45 ∧ z45 ≤ 19) (h6 : (-2147483648) ≤ z75 ∧ z75 ≤ 2147483647) : ((40 * p1) + 1) ≤ ((40 * p1) + 1) ∧ ((40 * p1) + 40) ≤ ((40 * p1) + 40) := by omega
theorem vc_X12_front_18 {p1 z45 z75 : Int} (h0 : 0 < z45) (h1 : ((((40 * p1) + 5) + z45) % 40 = 0 → -1 ≤ z75 ∧ z75 ≤ 9)) (h2 : ((((40 * p1) + 5) + z45) % 40 = 4 → 0 ≤ z75 ∧ z75 ≤ 20)) (h3 : ((((40 * p1) + 5) + z45) % 40 = 5 → 0 ≤ z75 ∧ z75 ≤ 8)) (h4 : 0 ≤ p1 ∧ p1 ≤ 2099) (h5 : 1 ≤ z45 ∧ z45 ≤ 19) (h6 : (-2147483648) ≤ z75 ∧ z75 ≤ 2147483647) : 0 ≤ (((40 * p1) + 6) + z45) ∧ ((40 * p1) + 1) ≤ (((40 * p1) + 6) + z45) ∧ (((40 * p1) + 6) + z45) < ((40 * p1) + 40) := by omega
theorem vc_X12_front_19 {z1 : Int} (h0 : ¬ z1 = 20) (h1 : 0 ≤ z1 ∧ z1 ≤ 19) : z1 ≤ 19 := by omega
theorem vc_X12_front_20 {z1 : Int} (h0 : ¬ z1 = 20) (h1 : 0 ≤ z1 ∧ z1 ≤ 19) : (z1 - (-1)) < ((21 : Nat) : Int) := by omega
theorem vc_X12_front_21 {z1 : Int} (h0 : z1 = 20) (h1 : 0 ≤ z1 ∧ z1 ≤ 20) : 20 ≤ z1 ∧ z1 ≤ 20 := by omega
set_option maxRecDepth 4000 in
set_option maxHeartbeats 4000000 in
theorem c_X12_front {l : Launch} {D : va_G} {c : Nat → ClassId} {H0 : Heap} {sa : Nat × Nat × (Nat → Int32)} {w : mW} {μ : mM} (hw : mWF w) (hT : mT w μ) {p1 : Int} (hp1 : 0 ≤ p1 ∧ p1 ≤ 2099) {p2 : Int} (hp2 : (-2147483648) ≤ p2 ∧ p2 ≤ 2147483647) : sC (gG l D c H0 sa) mX12_front 1 0 0 [.ref 106, iv p1, iv p2] (mk w μ) (qI w [126999] μ (fun z μ1 => (0 ≤ z ∧ z ≤ 1) ∧ mG [(((40 * p1) + 1), ((40 * p1) + 40))] μ μ1 ∧ True)) := by
  refine sC.of rfl (by decide) (le_t rfl) ?_
  refine mr_lvE (lv' := [(0, .ref 106), (1, iv p1), (2, iv p2)]) rfl ?_
  refine sv_aload_n (pc := 0) dX12_front_0 rfl rfl ?_
  refine gf_X12_32 (pc := 1) dX12_front_1 wF_X12_148 (A_106 hw) hT ?_
  refine mr_bipush (pc := 4) (z := 40) dX12_front_4 (by decide) ?_
  refine mr_iload_n (pc := 6) (z := p1) dX12_front_6 rfl rfl ?_
  refine mr_imul (pc := 7) (x := 40) (y := p1) dX12_front_7 ?_
  refine mr_iconst (pc := 8) (z := 4) dX12_front_8 ?_
  refine mr_iadd (pc := 9) (x := (40 * p1)) (y := 4) dX12_front_9 ?_
  refine la_126 (pc := 10) dX12_front_10 (A_126 hw) hT (rIx (n := 84000) (rAdd (e := 4) (f := 83964) (rMulL (n := 40) (e := 0) (f := 83960) hp1 rfl) (rR (x := 4)) rfl) rfl) fun z1 q2 h3 => ?_
  have h4 : 0 ≤ z1 ∧ z1 ≤ 20 := h3.2.2.1 (vc_X12_front_1 hp1)
  refine mr_istore_n (pc := 11) (lv' := [(3, iv z1), (0, .ref 106), (1, iv p1), (2, iv p2)]) dX12_front_11 rfl (by decide) rfl ?_
  refine mr_iload_n (pc := 12) (z := z1) dX12_front_12 rfl rfl ?_
  refine mr_bipush (pc := 13) (z := 20) dX12_front_13 (by decide) ?_
  refine mr_icmp_ne (pc := 15) (tgt := 20) dX12_front_15 (by decide) (r32 h4 rfl) (r32 (rR (x := 20)) rfl) (fun h5 => ?_) (fun h5 => ?_)
  · have h6 : 0 ≤ z1 ∧ z1 ≤ 19 := (vc_X12_front_2 h5 h4)
    refine mr_iload_n (pc := 20) (z := z1) dX12_front_20 rfl rfl ?_
    refine mr_istore (pc := 21) (lv' := [(4, iv z1), (3, iv z1), (0, .ref 106), (1, iv p1), (2, iv p2)]) dX12_front_21 (by decide) rfl ?_
    have L47 : ∀ (nL47 : Nat) (z45 : Int) (μ46 : mM) (f_n : Int), mT w μ46 → mF [126999] w μ μ46 → mG [(((40 * p1) + 1), ((40 * p1) + 40))] μ μ46 → μ46 126 (((40 * p1) + 4).toNat) = f_n → (0 ≤ z45 ∧ z45 ≤ 19) → (f_n ≤ 19) → (z45 - (-1)) < (nL47 : Int) → sV (gG l D c H0 sa) mX12_front (sRm 1 0 0) (sZ (gG l D c H0 sa) 0 0 (qI w [126999] μ (fun z μ1 => (0 ≤ z ∧ z ≤ 1) ∧ mG [(((40 * p1) + 1), ((40 * p1) + 40))] μ μ1 ∧ True))) 23 [(0, .ref 106), (1, iv p1), (2, iv p2), (4, iv z45)] [] (mk w μ46) 0 0 := by
      intro nL47
      induction nL47 with
      | zero => intro z45 μ46 f_n T49 F50 G51 q54 h48 h52 h53; exact ((vc_X12_front_3 h53 h48)).elim
      | succ nL47 ih55 =>
        intro z45 μ46 f_n T49 F50 G51 q54 h48 h52 h53
        have h56 := rt7 T49 (A_126 hw) (vc_X12_front_4 hp1) q54
        have h57 : 0 ≤ f_n ∧ f_n ≤ 20 := h56.2.2.1 (vc_X12_front_1 hp1)
        refine mr_iload (pc := 23) (z := z45) dX12_front_23 rfl ?_
        refine mr_if_le (pc := 25) (tgt := 63) dX12_front_25 (by decide) (r32 h48 rfl) (fun h66 => ?_) (fun h66 => ?_)
        · have h67 : 0 ≤ z45 ∧ z45 ≤ 0 := (vc_X12_front_5 h66 h48)
          refine sv_aload_n (pc := 63) dX12_front_63 rfl rfl ?_
          refine gf_X12_32 (pc := 64) dX12_front_64 wF_X12_148 (A_106 hw) T49 ?_
          refine mr_bipush (pc := 67) (z := 40) dX12_front_67 (by decide) ?_
          refine mr_iload_n (pc := 69) (z := p1) dX12_front_69 rfl rfl ?_
          refine mr_imul (pc := 70) (x := 40) (y := p1) dX12_front_70 ?_
          refine mr_bipush (pc := 71) (z := 6) dX12_front_71 (by decide) ?_
          refine mr_iadd (pc := 73) (x := (40 * p1)) (y := 6) dX12_front_73 ?_
          refine mr_iload_n (pc := 74) (z := p2) dX12_front_74 rfl rfl ?_
          refine ss_126 (pc := 75) dX12_front_75 (A_126 hw) T49 (rIx (n := 84000) (rAdd (e := 6) (f := 83966) (rMulL (n := 40) (e := 0) (f := 83960) hp1 rfl) (rR (x := 6)) rfl) rfl) (vc_X12_front_6 hp1 hp2) fun μ68 u69 T70 => ?_
          refine sv_aload_n (pc := 76) dX12_front_76 rfl rfl ?_
          refine gf_X12_32 (pc := 77) dX12_front_77 wF_X12_148 (A_106 hw) T70 ?_
          refine mr_bipush (pc := 80) (z := 40) dX12_front_80 (by decide) ?_
          refine mr_iload_n (pc := 82) (z := p1) dX12_front_82 rfl rfl ?_
          refine mr_imul (pc := 83) (x := 40) (y := p1) dX12_front_83 ?_
          refine mr_iconst (pc := 84) (z := 4) dX12_front_84 ?_
          refine mr_iadd (pc := 85) (x := (40 * p1)) (y := 4) dX12_front_85 ?_
          refine sv_dup2 (pc := 86) dX12_front_86 rfl rfl ?_
          refine lk_126 (pc := 87) dX12_front_87 (A_126 hw) (rIx (n := 84000) (rAdd (e := 4) (f := 83964) (rMulL (n := 40) (e := 0) (f := 83960) hp1 rfl) (rR (x := 4)) rfl) rfl) (u69.f (Or.inr (vc_X12_front_7 hp1)) q54) ?_
          refine mr_iconst (pc := 88) (z := 1) dX12_front_88 ?_
          refine mr_iadd (pc := 89) (x := f_n) (y := 1) dX12_front_89 ?_
          refine ss_126 (pc := 90) dX12_front_90 (A_126 hw) T70 (rIx (n := 84000) (rAdd (e := 4) (f := 83964) (rMulL (n := 40) (e := 0) (f := 83960) hp1 rfl) (rR (x := 4)) rfl) rfl) (vc_X12_front_8 h52 h57 hp1) fun μ71 u72 T73 => ?_
          refine mr_iconst (pc := 91) (z := 1) dX12_front_91 ?_
          exact mr_zret dX12_front_92 rfl (rW (c := 0) (d := 1) (rR (x := 1)) rfl) (le_t rfl) (le_t rfl) T73 (mF.up (mF.up (mF.call mF.refl F50 rfl) (A_126 hw) u69 rfl) (A_126 hw) u72 rfl) ⟨(rW (c := 0) (d := 1) (rR (x := 1)) rfl), (mG.up (mG.up (mG.call mG.refl G51 (List.forall_mem_cons.mpr ⟨⟨_, List.mem_cons_self, (vc_X12_front_9 hp1)⟩, (fun _ h => absurd h List.not_mem_nil)⟩)) u69 List.mem_cons_self (vc_X12_front_10 hp1)) u72 List.mem_cons_self (vc_X12_front_11 hp1)), trivial⟩
        have h74 : 1 ≤ z45 ∧ z45 ≤ 19 := (vc_X12_front_12 h66 h48)
        refine sv_aload_n (pc := 28) dX12_front_28 rfl rfl ?_
        refine gf_X12_32 (pc := 29) dX12_front_29 wF_X12_148 (A_106 hw) T49 ?_
        refine mr_bipush (pc := 32) (z := 40) dX12_front_32 (by decide) ?_
        refine mr_iload_n (pc := 34) (z := p1) dX12_front_34 rfl rfl ?_
        refine mr_imul (pc := 35) (x := 40) (y := p1) dX12_front_35 ?_
        refine mr_bipush (pc := 36) (z := 6) dX12_front_36 (by decide) ?_
        refine mr_iadd (pc := 38) (x := (40 * p1)) (y := 6) dX12_front_38 ?_
        refine mr_iload (pc := 39) (z := z45) dX12_front_39 rfl ?_
        refine mr_iadd (pc := 41) (x := ((40 * p1) + 6)) (y := z45) dX12_front_41 ?_
        refine sv_aload_n (pc := 42) dX12_front_42 rfl rfl ?_
        refine gf_X12_32 (pc := 43) dX12_front_43 wF_X12_148 (A_106 hw) T49 ?_
        refine mr_bipush (pc := 46) (z := 40) dX12_front_46 (by decide) ?_
        refine mr_iload_n (pc := 48) (z := p1) dX12_front_48 rfl rfl ?_
        refine mr_imul (pc := 49) (x := 40) (y := p1) dX12_front_49 ?_
        refine mr_iconst (pc := 50) (z := 5) dX12_front_50 ?_
        refine mr_iadd (pc := 51) (x := (40 * p1)) (y := 5) dX12_front_51 ?_
        refine mr_iload (pc := 52) (z := z45) dX12_front_52 rfl ?_
        refine mr_iadd (pc := 54) (x := ((40 * p1) + 5)) (y := z45) dX12_front_54 ?_
        refine la_126 (pc := 55) dX12_front_55 (A_126 hw) T49 (rIx (n := 84000) (rAdd (e := 6) (f := 83984) (rAdd (e := 5) (f := 83965) (rMulL (n := 40) (e := 0) (f := 83960) hp1 rfl) (rR (x := 5)) rfl) h74 rfl) rfl) fun z75 q76 h77 => ?_
        refine ss_126 (pc := 56) dX12_front_56 (A_126 hw) T49 (rIx (n := 84000) (rAdd (e := 7) (f := 83985) (rAdd (e := 6) (f := 83966) (rMulL (n := 40) (e := 0) (f := 83960) hp1 rfl) (rR (x := 6)) rfl) h74 rfl) rfl) (vc_X12_front_13 h66 h77.2.1 h77.2.2.1 h77.2.2.2 hp1 h74 h77.1) fun μ78 u79 T80 => ?_
        refine mr_iinc (pc := 57) (lv' := [(4, iv (z45 + (-1))), (0, .ref 106), (1, iv p1), (2, iv p2)]) dX12_front_57 rfl (by decide) rfl ?_
        refine sv_goto (pc := 60) (tgt := 23) dX12_front_60 (by decide) ?_
        refine mr_lvS (lv' := [(0, .ref 106), (1, iv p1), (2, iv p2), (4, iv (z45 + (-1)))]) (List.forall_mem_cons.mpr ⟨rfl, List.forall_mem_cons.mpr ⟨rfl, List.forall_mem_cons.mpr ⟨rfl, List.forall_mem_cons.mpr ⟨rfl, fun _ h => absurd h List.not_mem_nil⟩⟩⟩⟩) ?_
        exact ih55 (z45 + (-1)) μ78 f_n T80 (mF.up (mF.call mF.refl F50 rfl) (A_126 hw) u79 rfl) (mG.up (mG.call mG.refl G51 (List.forall_mem_cons.mpr ⟨⟨_, List.mem_cons_self, (vc_X12_front_17 h77.2.1 h77.2.2.1 h77.2.2.2 h66 hp1 h74 h77.1)⟩, (fun _ h => absurd h List.not_mem_nil)⟩)) u79 List.mem_cons_self (vc_X12_front_18 h66 h77.2.1 h77.2.2.1 h77.2.2.2 hp1 h74 h77.1)) (u79.f (Or.inr (vc_X12_front_14 h66 h77.2.1 h77.2.2.1 h77.2.2.2 hp1 h74 h77.1)) q54) (rW (c := 0) (d := 19) (rAdd (e := 0) (f := 18) h74 (rR (x := (-1))) rfl) rfl) (vc_X12_front_15 h52 h57) (vc_X12_front_16 (nS h53) h66 h77.2.1 h77.2.2.1 h77.2.2.2 hp1 h74 h77.1)
    refine mr_lvS (lv' := [(0, .ref 106), (1, iv p1), (2, iv p2), (4, iv z1)]) (List.forall_mem_cons.mpr ⟨rfl, List.forall_mem_cons.mpr ⟨rfl, List.forall_mem_cons.mpr ⟨rfl, List.forall_mem_cons.mpr ⟨rfl, fun _ h => absurd h List.not_mem_nil⟩⟩⟩⟩) ?_
    exact L47 21 z1 μ z1 hT mF.refl mG.refl q2 h6 (vc_X12_front_19 h5 h6) (vc_X12_front_20 h5 h6)
  have h81 : 20 ≤ z1 ∧ z1 ≤ 20 := (vc_X12_front_21 h5 h4)
  refine mr_iconst (pc := 18) (z := 0) dX12_front_18 ?_
  exact mr_zret dX12_front_19 rfl (rW (c := 0) (d := 1) (rR (x := 0)) rfl) (le_t rfl) (le_t rfl) hT mF.refl ⟨(rW (c := 0) (d := 1) (rR (x := 0)) rfl), mG.refl, trivial⟩
theorem vc_X12_isIn_1 {z181 : Int} (h0 : (21 - z181) < ((0 : Nat) : Int)) (h1 : 0 ≤ z181 ∧ z181 ≤ 20) : False := by omega
theorem vc_X12_isIn_2 {p1 : Int} (h0 : 0 ≤ p1 ∧ p1 ≤ 2099) : ((40 * p1) + 4) % 40 = 4 := by omega
theorem vc_X12_isIn_3 {z181 z191 : Int} (h0 : z181 < z191) (h1 : 0 ≤ z181 ∧ z181 ≤ 20) (h2 : 0 ≤ z191 ∧ z191 ≤ 20) : 0 ≤ z181 ∧ z181 ≤ 19 := by omega
theorem vc_X12_isIn_4 {z181 z191 : Int} (h0 : z181 < z191) (h1 : 0 ≤ z181 ∧ z181 ≤ 19) (h2 : 0 ≤ z191 ∧ z191 ≤ 20) : 1 ≤ z191 ∧ z191 ≤ 20 := by omega
theorem vc_X12_isIn_5 {z182 : Int} (h0 : ¬ z182 = 0) (h1 : 0 ≤ z182 ∧ z182 ≤ 1) : 1 ≤ z182 ∧ z182 ≤ 1 := by omega
theorem vc_X12_isIn_6 {N z181 z191 : Int} (h0 : (21 - z181) < N + 1) (h1 : z181 < z191) (h2 : 0 ≤ z181 ∧ z181 ≤ 19) (h3 : 1 ≤ z191 ∧ z191 ≤ 20) : (21 - (z181 + 1)) < N := by omega
theorem vc_X12_isIn_7 {z182 : Int} (h0 : z182 = 0) (h1 : 0 ≤ z182 ∧ z182 ≤ 1) : 0 ≤ z182 ∧ z182 ≤ 0 := by omega
theorem vc_X12_isIn_8 {N p1 p2 z181 z191 z213 : Int} (h0 : (21 - z181) < N + 1) (h1 : z181 < z191) (h2 : ((((40 * p1) + 6) + z181) % 40 = 0 → -1 ≤ z213 ∧ z213 ≤ 9)) (h3 : ((((40 * p1) + 6) + z181) % 40 = 4 → 0 ≤ z213 ∧ z213 ≤ 20)) (h4 : ((((40 * p1) + 6) + z181) % 40 = 5 → 0 ≤ z213 ∧ z213 ≤ 8)) (h5 : ¬ z213 = p2) (h6 : 0 ≤ p1 ∧ p1 ≤ 2099) (h7 : (-2147483648) ≤ p2 ∧ p2 ≤ 2147483647) (h8 : 0 ≤ z181 ∧ z181 ≤ 19) (h9 : 1 ≤ z191 ∧ z191 ≤ 20) (h10 : (-2147483648) ≤ z213 ∧ z213 ≤ 2147483647) : (21 - (z181 + 1)) < N := by omega
theorem vc_X12_isIn_9 {N p1 p2 z181 z191 z213 : Int} (h0 : (21 - z181) < N + 1) (h1 : z181 < z191) (h2 : ((((40 * p1) + 6) + z181) % 40 = 0 → -1 ≤ z213 ∧ z213 ≤ 9)) (h3 : ((((40 * p1) + 6) + z181) % 40 = 4 → 0 ≤ z213 ∧ z213 ≤ 20)) (h4 : ((((40 * p1) + 6) + z181) % 40 = 5 → 0 ≤ z213 ∧ z213 ≤ 8)) (h5 : z213 = p2) (h6 : 0 ≤ p1 ∧ p1 ≤ 2099) (h7 : (-2147483648) ≤ p2 ∧ p2 ≤ 2147483647) (h8 : 0 ≤ z181 ∧ z181 ≤ 19) (h9 : 1 ≤ z191 ∧ z191 ≤ 20) (h10 : (-2147483648) ≤ z213 ∧ z213 ≤ 2147483647) : (21 - (z181 + 1)) < N := by omega
theorem vc_X12_isIn_10  : (21 - 0) < ((22 : Nat) : Int) := by omega
