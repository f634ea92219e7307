theorem vc_X2_unitsThat_1 {z207 : Int} (h0 : (17 - z207) < ((0 : Nat) : Int)) (h1 : 0 ≤ z207 ∧ z207 ≤ 16) : False := by omega
theorem vc_X2_unitsThat_2 {n0 z207 z218 : Int} (h0 : z207 < z218) (h1 : (z218 = 0 ∨ 0 < n0)) (h2 : 0 ≤ z207 ∧ z207 ≤ 16) (h3 : 0 ≤ z218 ∧ z218 ≤ 16) : 0 ≤ z207 ∧ z207 ≤ 15 := by omega
theorem vc_X2_unitsThat_3 {n0 z207 z218 : Int} (h0 : z207 < z218) (h1 : (z218 = 0 ∨ 0 < n0)) (h2 : 0 ≤ z207 ∧ z207 ≤ 15) (h3 : 0 ≤ z218 ∧ z218 ≤ 16) : 1 ≤ z218 ∧ z218 ≤ 16 := by omega
theorem vc_X2_unitsThat_4 {n0 z207 z218 z244 : Int} (h0 : (z218 = 0 ∨ 0 < n0)) (h1 : (z244 = 0 ∨ z244 < n0)) (h2 : z207 < z218) (h3 : 0 ≤ z207 ∧ z207 ≤ 15) (h4 : 1 ≤ z218 ∧ z218 ≤ 16) (h5 : 0 ≤ z244 ∧ z244 ≤ 9) : z244 < n0 := by omega
theorem vc_X2_unitsThat_5 {N n0 z207 z218 : Int} (h0 : (17 - z207) < N + 1) (h1 : z207 < z218) (h2 : (z218 = 0 ∨ 0 < n0)) (h3 : 0 ≤ z207 ∧ z207 ≤ 15) (h4 : 1 ≤ z218 ∧ z218 ≤ 16) : (17 - (z207 + 1)) < N := by omega
theorem vc_X2_unitsThat_6  : (17 - 0) < ((18 : Nat) : Int) := by omega
set_option maxRecDepth 4000 in
set_option maxHeartbeats 4000000 in
theorem c_X2_unitsThat {l : Launch} {D : va_G} {c : Nat → ClassId} {H0 : Heap} {sa : Nat × Nat × (Nat → Int32)} {w : mW} {μ : mM} (hw : mWF w) (hT : mT w μ) {p1 : Int} (hp1 : (-2147483648) ≤ p1 ∧ p1 ≤ 2147483647) : sC (gG l D c H0 sa) mX2_unitsThat 4 0 0 [.ref 87, iv p1] (mk w μ) (qI w [87006, 88999] μ (fun z μ1 => ((-2147483648) ≤ z ∧ z ≤ 2147483647) ∧ True)) := by
  refine sC.of rfl (by decide) (le_t rfl) ?_
  refine mr_lvE (lv' := [(0, .ref 87), (1, iv p1)]) rfl ?_
  refine mr_iconst (pc := 0) (z := 0) dX2_unitsThat_0 ?_
  refine mr_istore_n (pc := 1) (lv' := [(2, iv 0), (0, .ref 87), (1, iv p1)]) dX2_unitsThat_1 rfl (by decide) rfl ?_
  refine mr_iconst (pc := 2) (z := 0) dX2_unitsThat_2 ?_
  refine mr_istore_n (pc := 3) (lv' := [(3, iv 0), (2, iv 0), (0, .ref 87), (1, iv p1)]) dX2_unitsThat_3 rfl (by decide) rfl ?_
  have L210 : ∀ (nL210 : Nat) (z208 z207 : Int) (μ209 : mM), mT w μ209 → mF [87006, 88999] w μ μ209 → ((-2147483648) ≤ z208 ∧ z208 ≤ 2147483647) → (0 ≤ z207 ∧ z207 ≤ 16) → (17 - z207) < (nL210 : Int) → sV (gG l D c H0 sa) mX2_unitsThat (sRm 4 0 0) (sZ (gG l D c H0 sa) 0 0 (qI w [87006, 88999] μ (fun z μ1 => ((-2147483648) ≤ z ∧ z ≤ 2147483647) ∧ True))) 4 [(0, .ref 87), (1, iv p1), (2, iv z208), (3, iv z207)] [] (mk w μ209) 0 0 := by
    intro nL210
    induction nL210 with
    | zero => intro z208 z207 μ209 T213 F214 h211 h212 h216; exact ((vc_X2_unitsThat_1 h216 h212)).elim
    | succ nL210 ih217 =>
      intro z208 z207 μ209 T213 F214 h211 h212 h216
      refine mr_iload_n (pc := 4) (z := z207) dX2_unitsThat_4 rfl rfl ?_
      refine sv_aload_n (pc := 5) dX2_unitsThat_5 rfl rfl ?_
      refine gf_X2_10 (pc := 6) dX2_unitsThat_6 wF_X2_95 (A_87 hw) T213 fun z218 q219 h220 => ?_
      have h221 : 0 ≤ z218 ∧ z218 ≤ 16 := ⟨h220.1, h220.2.1⟩
      refine mr_icmp_ge (pc := 9) (tgt := 47) dX2_unitsThat_9 (by decide) (r32 h212 rfl) (r32 h221 rfl) (fun h241 => ?_) (fun h241 => ?_)
      · refine mr_iload_n (pc := 47) (z := z208) dX2_unitsThat_47 rfl rfl ?_
        exact mr_iret dX2_unitsThat_48 rfl (le_t rfl) (le_t rfl) T213 (mF.call mF.refl F214 rfl) ⟨h211, trivial⟩
      have h242 : 0 ≤ z207 ∧ z207 ≤ 15 := (vc_X2_unitsThat_2 h241 h220.2.2 h212 h221)
      have h243 : 1 ≤ z218 ∧ z218 ≤ 16 := (vc_X2_unitsThat_3 h241 h220.2.2 h242 h221)
      refine sv_aload_n (pc := 12) dX2_unitsThat_12 rfl rfl ?_
      refine sv_aload_n (pc := 13) dX2_unitsThat_13 rfl rfl ?_
      refine gf_X2_2 (pc := 14) dX2_unitsThat_14 wF_X2_22 (A_87 hw) T213 ?_
      refine mr_iload_n (pc := 17) (z := z207) dX2_unitsThat_17 rfl rfl ?_
      refine la_90 (pc := 18) dX2_unitsThat_18 (A_90 hw) T213 (rIx (n := 16) h242 rfl) fun z244 q245 h246 => ?_
      have h247 : 0 ≤ z244 ∧ z244 ≤ 9 := ⟨h246.1, h246.2.1⟩
      refine sv_aload_n (pc := 19) dX2_unitsThat_19 rfl rfl ?_
      refine gf_X2_3 (pc := 20) dX2_unitsThat_20 wF_X2_25 (A_87 hw) T213 ?_
      refine mr_iload_n (pc := 23) (z := z207) dX2_unitsThat_23 rfl rfl ?_
      refine la_91 (pc := 24) dX2_unitsThat_24 (A_91 hw) T213 (rIx (n := 16) h242 rfl) fun z248 q249 h250 => ?_
      refine mr_cVI (pc := 25) (c_X2_travel hw T213 h247 h250 (vc_X2_unitsThat_4 h220.2.2 h246.2.2 h241 h242 h243 h247)) (gOk _ _ _ _ _) dX2_unitsThat_25 (tX2_travel _ _ _ _ _) ⟨wV_X2_travel, wL_X2_travel⟩ wM_X2_83 (gCX2 _ _ _ _ _) rfl (A_87 hw) rfl ⟨le_t rfl, le_t rfl⟩ ⟨le_t rfl, le_t rfl⟩ rfl (le_t rfl) fun z255 μ251 T252 F253 h254 => ?_
      refine mr_iload_n (pc := 28) (z := p1) dX2_unitsThat_28 rfl rfl ?_
      refine mr_icmp_ne (pc := 29) (tgt := 41) dX2_unitsThat_29 (by decide) h254.1 hp1 (fun h261 => ?_) (fun h261 => ?_)
      · refine mr_iinc (pc := 41) (lv' := [(3, iv (z207 + 1)), (0, .ref 87), (1, iv p1), (2, iv z208)]) dX2_unitsThat_41 rfl (by decide) rfl ?_
        refine sv_goto (pc := 44) (tgt := 4) dX2_unitsThat_44 (by decide) ?_
        refine mr_lvS (lv' := [(0, .ref 87), (1, iv p1), (2, iv z208), (3, iv (z207 + 1))]) (List.forall_mem_cons.mpr ⟨rfl, List.forall_mem_cons.mpr ⟨rfl, List.forall_mem_cons.mpr ⟨rfl, List.forall_mem_cons.mpr ⟨rfl, fun _ h => absurd h List.not_mem_nil⟩⟩⟩⟩) ?_
        exact ih217 z208 (z207 + 1) μ251 T252 (mF.call (mF.call mF.refl F214 rfl) F253 rfl) h211 (rW (c := 0) (d := 16) (rAdd (e := 1) (f := 16) h242 (rR (x := 1)) rfl) rfl) (vc_X2_unitsThat_5 (nS h216) h241 h220.2.2 h242 h243)
      refine mr_iload_n (pc := 32) (z := z208) dX2_unitsThat_32 rfl rfl ?_
      refine sv_aload_n (pc := 33) dX2_unitsThat_33 rfl rfl ?_
      refine gf_X2_4 (pc := 34) dX2_unitsThat_34 wF_X2_28 (A_87 hw) T252 ?_
      refine mr_iload_n (pc := 37) (z := z207) dX2_unitsThat_37 rfl rfl ?_
      refine la_92 (pc := 38) dX2_unitsThat_38 (A_92 hw) T252 (rIx (n := 16) h242 rfl) fun z262 q263 h264 => ?_
      refine mr_iadd (pc := 39) (x := z208) (y := z262) dX2_unitsThat_39 ?_
      refine mr_wrap fun z265 h266 => ?_
      refine mr_istore_n (pc := 40) (lv' := [(2, iv z265), (0, .ref 87), (1, iv p1), (3, iv z207)]) dX2_unitsThat_40 rfl (by decide) rfl ?_
      refine mr_iinc (pc := 41) (lv' := [(3, iv (z207 + 1)), (2, iv z265), (0, .ref 87), (1, iv p1)]) dX2_unitsThat_41 rfl (by decide) rfl ?_
      refine sv_goto (pc := 44) (tgt := 4) dX2_unitsThat_44 (by decide) ?_
      refine mr_lvS (lv' := [(0, .ref 87), (1, iv p1), (2, iv z265), (3, iv (z207 + 1))]) (List.forall_mem_cons.mpr ⟨rfl, List.forall_mem_cons.mpr ⟨rfl, List.forall_mem_cons.mpr ⟨rfl, List.forall_mem_cons.mpr ⟨rfl, fun _ h => absurd h List.not_mem_nil⟩⟩⟩⟩) ?_
      exact ih217 z265 (z207 + 1) μ251 T252 (mF.call (mF.call mF.refl F214 rfl) F253 rfl) h266 (rW (c := 0) (d := 16) (rAdd (e := 1) (f := 16) h242 (rR (x := 1)) rfl) rfl) (vc_X2_unitsThat_5 (nS h216) h241 h220.2.2 h242 h243)
  refine mr_lvS (lv' := [(0, .ref 87), (1, iv p1), (2, iv 0), (3, iv 0)]) (List.forall_mem_cons.mpr ⟨rfl, List.forall_mem_cons.mpr ⟨rfl, List.forall_mem_cons.mpr ⟨rfl, List.forall_mem_cons.mpr ⟨rfl, fun _ h => absurd h List.not_mem_nil⟩⟩⟩⟩) ?_
  exact L210 18 0 0 μ hT mF.refl (rW (c := (-2147483648)) (d := 2147483647) (rR (x := 0)) rfl) (rW (c := 0) (d := 16) (rR (x := 0)) rfl) vc_X2_unitsThat_6
theorem vc_X2_unlikeAddresses_1 {z238 : Int} (h0 : (20 - z238) < ((0 : Nat) : Int)) (h1 : 0 ≤ z238 ∧ z238 ≤ 19) : False := by omega
theorem vc_X2_unlikeAddresses_2 {z238 z5 : Int} (h0 : (z238 + 1) < z5) (h1 : 0 ≤ z238 ∧ z238 ≤ 19) (h2 : 0 ≤ z5 ∧ z5 ≤ 20) : 0 ≤ z238 ∧ z238 ≤ 18 := by omega
theorem vc_X2_unlikeAddresses_3 {z238 z5 : Int} (h0 : (z238 + 1) < z5) (h1 : 0 ≤ z238 ∧ z238 ≤ 18) (h2 : 0 ≤ z5 ∧ z5 ≤ 20) : 2 ≤ z5 ∧ z5 ≤ 20 := by omega
theorem vc_X2_unlikeAddresses_4 {n0 p1 p2 : Int} (h0 : p1 < n0) (h1 : p2 < n0) (h2 : 0 ≤ p1 ∧ p1 ≤ 9) (h3 : 0 ≤ p2 ∧ p2 ≤ 9) : p1 < n0 := by omega
theorem vc_X2_unlikeAddresses_5 {n0 p1 p2 z288 : Int} (h0 : p1 < n0) (h1 : p2 < n0) (h2 : z288 < n0) (h3 : z288 = -99999999 ∨ z288 = -4 ∨ (0 ≤ z288 ∧ z288 ≤ 9)) (h4 : 0 ≤ p1 ∧ p1 ≤ 9) (h5 : 0 ≤ p2 ∧ p2 ≤ 9) (h6 : (-99999999) ≤ z288 ∧ z288 ≤ 9) : p2 < n0 := by omega
theorem vc_X2_unlikeAddresses_6 {N z238 z5 : Int} (h0 : (20 - z238) < N + 1) (h1 : (z238 + 1) < z5) (h2 : 0 ≤ z238 ∧ z238 ≤ 18) (h3 : 2 ≤ z5 ∧ z5 ≤ 20) : (20 - (z238 + 1)) < N := by omega
theorem vc_X2_unlikeAddresses_7  : (20 - 0) < ((21 : Nat) : Int) := by omega
set_option maxRecDepth 4000 in
set_option maxHeartbeats 4000000 in
theorem c_X2_unlikeAddresses {l : Launch} {D : va_G} {c : Nat → ClassId} {H0 : Heap} {sa : Nat × Nat × (Nat → Int32)} {w : mW} {μ : mM} (hw : mWF w) (hT : mT w μ) {p1 : Int} (hp1 : 0 ≤ p1 ∧ p1 ≤ 9) {p2 : Int} (hp2 : 0 ≤ p2 ∧ p2 ≤ 9) (hq0 : p1 < w.2.2.2 0) (hq1 : p2 < w.2.2.2 0) : sC (gG l D c H0 sa) mX2_unlikeAddresses 3 0 0 [.ref 87, iv p1, iv p2] (mk w μ) (qJ w [93999] μ (fun z μ1 => ((-9223372036854775808) ≤ z ∧ z ≤ 9223372036854775807) ∧ True)) := by
  refine sC.of rfl (by decide) (le_t rfl) ?_
  refine mr_lvE (lv' := [(0, .ref 87), (1, iv p1), (2, iv p2)]) rfl ?_
  refine sv_aload_n (pc := 0) dX2_unlikeAddresses_0 rfl rfl ?_
  refine mr_cVI (pc := 1) (c_X2_layBorders hw hT) (gOk _ _ _ _ _) dX2_unlikeAddresses_1 (tX2_layBorders _ _ _ _ _) ⟨wV_X2_layBorders, wL_X2_layBorders⟩ wM_X2_117 (gCX2 _ _ _ _ _) rfl (A_87 hw) rfl ⟨le_t rfl, le_t rfl⟩ ⟨le_t rfl, le_t rfl⟩ rfl (le_t rfl) fun z5 μ1 T2 F3 h4 => ?_
  refine mr_istore_n (pc := 4) (lv' := [(3, iv z5), (0, .ref 87), (1, iv p1), (2, iv p2)]) dX2_unlikeAddresses_4 rfl (by decide) rfl ?_
  refine mr_lconst (pc := 5) (z := 0) dX2_unlikeAddresses_5 (by decide) ?_
  refine mr_lstore (pc := 6) (lv' := [(4, jv 0), (3, iv z5), (0, .ref 87), (1, iv p1), (2, iv p2)]) dX2_unlikeAddresses_6 (by decide) rfl ?_
  refine mr_iconst (pc := 8) (z := 0) dX2_unlikeAddresses_8 ?_
  refine mr_istore (pc := 9) (lv' := [(6, iv 0), (4, jv 0), (3, iv z5), (0, .ref 87), (1, iv p1), (2, iv p2)]) dX2_unlikeAddresses_9 (by decide) rfl ?_
  have L240 : ∀ (nL240 : Nat) (z239 z238 : Int), True → ((-9223372036854775808) ≤ z239 ∧ z239 ≤ 9223372036854775807) → (0 ≤ z238 ∧ z238 ≤ 19) → (20 - z238) < (nL240 : Int) → sV (gG l D c H0 sa) mX2_unlikeAddresses (sRm 3 0 0) (sZ (gG l D c H0 sa) 0 0 (qJ w [93999] μ (fun z μ1 => ((-9223372036854775808) ≤ z ∧ z ≤ 9223372036854775807) ∧ True))) 11 [(0, .ref 87), (1, iv p1), (2, iv p2), (3, iv z5), (4, jv z239), (6, iv z238)] [] (mk w μ1) 0 0 := by
    intro nL240
    induction nL240 with
    | zero => intro z239 z238 _ h241 h242 h246; exact ((vc_X2_unlikeAddresses_1 h246 h242)).elim
    | succ nL240 ih247 =>
      intro z239 z238 _ h241 h242 h246
      refine mr_iload (pc := 11) (z := z238) dX2_unlikeAddresses_11 rfl ?_
      refine mr_iconst (pc := 13) (z := 1) dX2_unlikeAddresses_13 ?_
      refine mr_iadd (pc := 14) (x := z238) (y := 1) dX2_unlikeAddresses_14 ?_
      refine mr_iload_n (pc := 15) (z := z5) dX2_unlikeAddresses_15 rfl rfl ?_
      refine mr_icmp_ge (pc := 16) (tgt := 74) dX2_unlikeAddresses_16 (by decide) (r32 (rAdd (e := 1) (f := 20) h242 (rR (x := 1)) rfl) rfl) (r32 h4.1 rfl) (fun h275 => ?_) (fun h275 => ?_)
      · refine mr_lload (pc := 74) (z := z239) dX2_unlikeAddresses_74 rfl ?_
        exact mr_lret dX2_unlikeAddresses_76 rfl (le_t rfl) (le_t rfl) T2 (mF.call mF.refl F3 rfl) ⟨h241, trivial⟩
      have h276 : 0 ≤ z238 ∧ z238 ≤ 18 := (vc_X2_unlikeAddresses_2 h275 h242 h4.1)
      have h277 : 2 ≤ z5 ∧ z5 ≤ 20 := (vc_X2_unlikeAddresses_3 h275 h276 h4.1)
      refine sv_aload_n (pc := 19) dX2_unlikeAddresses_19 rfl rfl ?_
      refine gf_X2_5 (pc := 20) dX2_unlikeAddresses_20 wF_X2_31 (A_87 hw) T2 ?_
      refine mr_iload (pc := 23) (z := z238) dX2_unlikeAddresses_23 rfl ?_
      refine la_93 (pc := 25) dX2_unlikeAddresses_25 (A_93 hw) T2 (rIx (n := 20) h276 rfl) fun z278 q279 h280 => ?_
      refine mr_l2i (pc := 26) dX2_unlikeAddresses_26 ?_
      refine mr_gen (P := fun z => (-2147483648) ≤ z ∧ z ≤ 2147483647) (r32i _) fun z281 q282 h283 => ?_
      refine mr_istore (pc := 27) (lv' := [(7, iv z281), (0, .ref 87), (1, iv p1), (2, iv p2), (3, iv z5), (4, jv z239), (6, iv z238)]) dX2_unlikeAddresses_27 (by decide) rfl ?_
      refine sv_aload_n (pc := 29) dX2_unlikeAddresses_29 rfl rfl ?_
      refine mr_iload_n (pc := 30) (z := p1) dX2_unlikeAddresses_30 rfl rfl ?_
      refine mr_iload (pc := 31) (z := z281) dX2_unlikeAddresses_31 rfl ?_
      refine mr_cVP (pc := 33) (c_X2_partnerFor hw T2 hp1 h283 (vc_X2_unlikeAddresses_4 hq0 hq1 hp1 hp2)) (gOk _ _ _ _ _) dX2_unlikeAddresses_33 (tX2_partnerFor _ _ _ _ _) ⟨wV_X2_partnerFor, wL_X2_partnerFor⟩ wM_X2_80 (gCX2 _ _ _ _ _) rfl (A_87 hw) rfl ⟨le_t rfl, le_t rfl⟩ ⟨le_t rfl, le_t rfl⟩ rfl (le_t rfl) fun z288 h287 => ?_
      refine sv_aload_n (pc := 36) dX2_unlikeAddresses_36 rfl rfl ?_
      refine mr_iload_n (pc := 37) (z := p2) dX2_unlikeAddresses_37 rfl rfl ?_
      refine mr_iload (pc := 38) (z := z281) dX2_unlikeAddresses_38 rfl ?_
      refine mr_cVP (pc := 40) (c_X2_partnerFor hw T2 hp2 h283 (vc_X2_unlikeAddresses_5 hq0 hq1 h287.2.2.1 h287.2.1 hp1 hp2 h287.1)) (gOk _ _ _ _ _) dX2_unlikeAddresses_40 (tX2_partnerFor _ _ _ _ _) ⟨wV_X2_partnerFor, wL_X2_partnerFor⟩ wM_X2_80 (gCX2 _ _ _ _ _) rfl (A_87 hw) rfl ⟨le_t rfl, le_t rfl⟩ ⟨le_t rfl, le_t rfl⟩ rfl (le_t rfl) fun z293 h292 => ?_
      refine mr_icmp_eq (pc := 43) (tgt := 68) dX2_unlikeAddresses_43 (by decide) (r32 h287.1 rfl) (r32 h292.1 rfl) (fun h303 => ?_) (fun h303 => ?_)
      · refine mr_iinc (pc := 68) (lv' := [(6, iv (z238 + 1)), (7, iv z281), (0, .ref 87), (1, iv p1), (2, iv p2), (3, iv z5), (4, jv z239)]) dX2_unlikeAddresses_68 rfl (by decide) rfl ?_
        refine sv_goto (pc := 71) (tgt := 11) dX2_unlikeAddresses_71 (by decide) ?_
        refine mr_lvS (lv' := [(0, .ref 87), (1, iv p1), (2, iv p2), (3, iv z5), (4, jv z239), (6, iv (z238 + 1))]) (List.forall_mem_cons.mpr ⟨rfl, List.forall_mem_cons.mpr ⟨rfl, List.forall_mem_cons.mpr ⟨rfl, List.forall_mem_cons.mpr ⟨rfl, List.forall_mem_cons.mpr ⟨rfl, List.forall_mem_cons.mpr ⟨rfl, fun _ h => absurd h List.not_mem_nil⟩⟩⟩⟩⟩⟩) ?_
        exact ih247 z239 (z238 + 1) trivial h241 (rW (c := 0) (d := 19) (rAdd (e := 1) (f := 19) h276 (rR (x := 1)) rfl) rfl) (vc_X2_unlikeAddresses_6 (nS h246) h275 h276 h277)
      refine mr_lload (pc := 46) (z := z239) dX2_unlikeAddresses_46 rfl ?_
      refine sv_aload_n (pc := 48) dX2_unlikeAddresses_48 rfl rfl ?_
      refine gf_X2_5 (pc := 49) dX2_unlikeAddresses_49 wF_X2_31 (A_87 hw) T2 ?_
      refine mr_iload (pc := 52) (z := z238) dX2_unlikeAddresses_52 rfl ?_
      refine mr_iconst (pc := 54) (z := 1) dX2_unlikeAddresses_54 ?_
      refine mr_iadd (pc := 55) (x := z238) (y := 1) dX2_unlikeAddresses_55 ?_
      refine la_93 (pc := 56) dX2_unlikeAddresses_56 (A_93 hw) T2 (rIx (n := 20) (rAdd (e := 1) (f := 19) h276 (rR (x := 1)) rfl) rfl) fun z304 q305 h306 => ?_
      refine sv_aload_n (pc := 57) dX2_unlikeAddresses_57 rfl rfl ?_
      refine gf_X2_5 (pc := 58) dX2_unlikeAddresses_58 wF_X2_31 (A_87 hw) T2 ?_
      refine mr_iload (pc := 61) (z := z238) dX2_unlikeAddresses_61 rfl ?_
      refine lk_93 (pc := 63) dX2_unlikeAddresses_63 (A_93 hw) (rIx (n := 20) h276 rfl) q279 ?_
      refine mr_lsub (pc := 64) dX2_unlikeAddresses_64 ?_
      refine mr_genL (r64i _) fun z307 q308 h309 => ?_
      refine mr_ladd (pc := 65) dX2_unlikeAddresses_65 ?_
      refine mr_genL (r64i _) fun z310 q311 h312 => ?_
      refine mr_lstore (pc := 66) (lv' := [(4, jv z310), (7, iv z281), (0, .ref 87), (1, iv p1), (2, iv p2), (3, iv z5), (6, iv z238)]) dX2_unlikeAddresses_66 (by decide) rfl ?_
      refine mr_iinc (pc := 68) (lv' := [(6, iv (z238 + 1)), (4, jv z310), (7, iv z281), (0, .ref 87), (1, iv p1), (2, iv p2), (3, iv z5)]) dX2_unlikeAddresses_68 rfl (by decide) rfl ?_
      refine sv_goto (pc := 71) (tgt := 11) dX2_unlikeAddresses_71 (by decide) ?_
      refine mr_lvS (lv' := [(0, .ref 87), (1, iv p1), (2, iv p2), (3, iv z5), (4, jv z310), (6, iv (z238 + 1))]) (List.forall_mem_cons.mpr ⟨rfl, List.forall_mem_cons.mpr ⟨rfl, List.forall_mem_cons.mpr ⟨rfl, List.forall_mem_cons.mpr ⟨rfl, List.forall_mem_cons.mpr ⟨rfl, List.forall_mem_cons.mpr ⟨rfl, fun _ h => absurd h List.not_mem_nil⟩⟩⟩⟩⟩⟩) ?_
      exact ih247 z310 (z238 + 1) trivial h312 (rW (c := 0) (d := 19) (rAdd (e := 1) (f := 19) h276 (rR (x := 1)) rfl) rfl) (vc_X2_unlikeAddresses_6 (nS h246) h275 h276 h277)
  refine mr_lvS (lv' := [(0, .ref 87), (1, iv p1), (2, iv p2), (3, iv z5), (4, jv 0), (6, iv 0)]) (List.forall_mem_cons.mpr ⟨rfl, List.forall_mem_cons.mpr ⟨rfl, List.forall_mem_cons.mpr ⟨rfl, List.forall_mem_cons.mpr ⟨rfl, List.forall_mem_cons.mpr ⟨rfl, List.forall_mem_cons.mpr ⟨rfl, fun _ h => absurd h List.not_mem_nil⟩⟩⟩⟩⟩⟩) ?_
  exact L240 21 0 0 trivial (rW (c := -9223372036854775808) (d := 9223372036854775807) (rR (x := 0)) rfl) (rW (c := 0) (d := 19) (rR (x := 0)) rfl) vc_X2_unlikeAddresses_7
theorem vc_X11_letter_1 {p1 z1 z8 : Int} (h0 : z8 = 0) (h1 : (z8 = 1 → 0 ≤ p1 ∧ p1 < z1)) (h2 : (z8 = 0 → p1 < 0 ∨ z1 ≤ p1)) (h3 : (-2147483648) ≤ p1 ∧ p1 ≤ 2147483647) (h4 : 0 ≤ z1 ∧ z1 ≤ 10) (h5 : 0 ≤ z8 ∧ z8 ≤ 1) : 0 ≤ z8 ∧ z8 ≤ 0 := by omega
theorem vc_X11_letter_2 {n0 p1 z1 z8 : Int} (h0 : (z8 = 1 → 0 ≤ p1 ∧ p1 < z1)) (h1 : (z8 = 0 → p1 < 0 ∨ z1 ≤ p1)) (h2 : z8 = 0) (h3 : z1 = n0) (h4 : (-2147483648) ≤ p1 ∧ p1 ≤ 2147483647) (h5 : 0 ≤ z1 ∧ z1 ≤ 10) (h6 : 0 ≤ z8 ∧ z8 ≤ 0) : z8 = 0 := by omega
theorem vc_X11_letter_3 {p1 z1 z8 : Int} (h0 : ¬ z8 = 0) (h1 : (z8 = 1 → 0 ≤ p1 ∧ p1 < z1)) (h2 : (z8 = 0 → p1 < 0 ∨ z1 ≤ p1)) (h3 : (-2147483648) ≤ p1 ∧ p1 ≤ 2147483647) (h4 : 0 ≤ z1 ∧ z1 ≤ 10) (h5 : 0 ≤ z8 ∧ z8 ≤ 1) : 1 ≤ z8 ∧ z8 ≤ 1 := by omega
theorem vc_X11_letter_4 {n0 p1 z1 z8 : Int} (h0 : (z8 = 1 → 0 ≤ p1 ∧ p1 < z1)) (h1 : (z8 = 0 → p1 < 0 ∨ z1 ≤ p1)) (h2 : ¬ z8 = 0) (h3 : z1 = n0) (h4 : (-2147483648) ≤ p1 ∧ p1 ≤ 2147483647) (h5 : 0 ≤ z1 ∧ z1 ≤ 10) (h6 : 1 ≤ z8 ∧ z8 ≤ 1) : z8 = 1 := by omega
theorem vc_X11_letter_5 {n0 p1 z1 z8 : Int} (h0 : 0 ≤ p1 ∧ p1 < z1) (h1 : z1 = n0) (h2 : (z8 = 1 → 0 ≤ p1 ∧ p1 < z1)) (h3 : (z8 = 0 → p1 < 0 ∨ z1 ≤ p1)) (h4 : (-2147483648) ≤ p1 ∧ p1 ≤ 2147483647) (h5 : 0 ≤ z1 ∧ z1 ≤ 10) (h6 : 1 ≤ z8 ∧ z8 ≤ 1) : 0 ≤ p1 ∧ p1 ≤ 9 := by omega
theorem vc_X11_letter_6 {n0 p1 z1 z8 : Int} (h0 : 0 ≤ p1 ∧ p1 < z1) (h1 : z1 = n0) (h2 : (z8 = 1 → 0 ≤ p1 ∧ p1 < z1)) (h3 : (z8 = 0 → p1 < 0 ∨ z1 ≤ p1)) (h4 : 0 ≤ p1 ∧ p1 ≤ 9) (h5 : 0 ≤ z1 ∧ z1 ≤ 10) (h6 : 1 ≤ z8 ∧ z8 ≤ 1) : 1 ≤ z1 ∧ z1 ≤ 10 := by omega
theorem vc_X11_letter_7 {n0 p1 z1 z8 : Int} (h0 : z1 = n0) (h1 : (z8 = 1 → 0 ≤ p1 ∧ p1 < z1)) (h2 : (z8 = 0 → p1 < 0 ∨ z1 ≤ p1)) (h3 : 0 ≤ p1 ∧ p1 < z1) (h4 : ¬ z8 = 0) (h5 : 0 ≤ p1 ∧ p1 ≤ 9) (h6 : 1 ≤ z1 ∧ z1 ≤ 10) (h7 : 1 ≤ z8 ∧ z8 ≤ 1) : p1 < n0 := by omega
set_option maxRecDepth 4000 in
set_option maxHeartbeats 4000000 in
theorem c_X11_letter {l : Launch} {D : va_G} {c : Nat → ClassId} {H0 : Heap} {sa : Nat × Nat × (Nat → Int32)} {w : mW} {μ : mM} (hw : mWF w) (hT : mT w μ) {p1 : Int} (hp1 : (-2147483648) ≤ p1 ∧ p1 ≤ 2147483647) {p2 : Int} (hp2 : (-2147483648) ≤ p2 ∧ p2 ≤ 2147483647) : sC (gG l D c H0 sa) mX11_letter 5 0 0 [.ref 0, iv p1, iv p2] (mk w μ) (qI w [87006, 87009, 88999, 89999] μ (fun z μ1 => ((-2147483648) ≤ z ∧ z ≤ 2147483647) ∧ True)) := by
  refine sC.of rfl (by decide) (le_t rfl) ?_
  refine mr_lvE (lv' := [(0, .ref 0), (1, iv p1), (2, iv p2)]) rfl ?_
  refine sv_aload_n (pc := 0) dX11_letter_0 rfl rfl ?_
  refine mr_iload_n (pc := 1) (z := p1) dX11_letter_1 rfl rfl ?_
  obtain ⟨z1, q2⟩ : ∃ z, μ 6 15 = z := ⟨_, rfl⟩
  have h3 : (z1 = w.2.2.2 0 ∧ 0 ≤ z1 ∧ z1 ≤ 10) := by rw [← q2]; exact hT 6 6 (A_6 hw) 15
  refine mr_cVP (pc := 2) (c_X11_isDomain hw hT hp1 q2) (gOk _ _ _ _ _) dX11_letter_2 (tX11_isDomain _ _ _ _ _) ⟨wV_X11_isDomain, wL_X11_isDomain⟩ wM_X11_105 (gCX11 _ _ _ _ _) rfl (A_0 hw) rfl ⟨le_t rfl, le_t rfl⟩ ⟨le_t rfl, le_t rfl⟩ rfl (le_t rfl) fun z8 h7 => ?_
  refine mr_if_eq (pc := 5) (tgt := 20) dX11_letter_5 (by decide) (r32 h7.1 rfl) (fun h20 => ?_) (fun h20 => ?_)
  · have h21 : 0 ≤ z8 ∧ z8 ≤ 0 := (vc_X11_letter_1 h20 h7.2.1 h7.2.2.1 hp1 h3.2 h7.1)
    have h22 : p1 < 0 ∨ z1 ≤ p1 := (h7.2.2.1 (vc_X11_letter_2 h7.2.1 h7.2.2.1 h20 h3.1 hp1 h3.2 h21))
    refine mr_iconst (pc := 20) (z := (-1)) dX11_letter_20 ?_
    exact mr_iret dX11_letter_21 rfl (le_t rfl) (le_t rfl) hT mF.refl ⟨(rW (c := (-2147483648)) (d := 2147483647) (rR (x := (-1))) rfl), trivial⟩
  have h23 : 1 ≤ z8 ∧ z8 ≤ 1 := (vc_X11_letter_3 h20 h7.2.1 h7.2.2.1 hp1 h3.2 h7.1)
  have h24 : 0 ≤ p1 ∧ p1 < z1 := (h7.2.1 (vc_X11_letter_4 h7.2.1 h7.2.2.1 h20 h3.1 hp1 h3.2 h23))
  have h25 : 0 ≤ p1 ∧ p1 ≤ 9 := (vc_X11_letter_5 h24 h3.1 h7.2.1 h7.2.2.1 hp1 h3.2 h23)
  have h26 : 1 ≤ z1 ∧ z1 ≤ 10 := (vc_X11_letter_6 h24 h3.1 h7.2.1 h7.2.2.1 h25 h3.2 h23)
  refine sv_aload_n (pc := 8) dX11_letter_8 rfl rfl ?_
  refine gf_X11_8 (pc := 9) dX11_letter_9 wF_X11_65 (A_0 hw) hT ?_
  refine mr_iload_n (pc := 12) (z := p1) dX11_letter_12 rfl rfl ?_
  refine mr_iload_n (pc := 13) (z := p2) dX11_letter_13 rfl rfl ?_
  refine mr_cVI (pc := 14) (c_X2_send hw hT h25 hp2 (vc_X11_letter_7 h3.1 h7.2.1 h7.2.2.1 h24 h20 h25 h26 h23)) (gOk _ _ _ _ _) dX11_letter_14 (tX2_send _ _ _ _ _) ⟨wV_X2_send, wL_X2_send⟩ wM_X11_364 (gCX2 _ _ _ _ _) rfl (A_87 hw) rfl ⟨le_t rfl, le_t rfl⟩ ⟨le_t rfl, le_t rfl⟩ rfl (le_t rfl) fun z31 μ27 T28 F29 h30 => ?_
  refine sv_goto (pc := 17) (tgt := 21) dX11_letter_17 (by decide) ?_
  exact mr_iret dX11_letter_21 rfl (le_t rfl) (le_t rfl) T28 (mF.call mF.refl F29 rfl) ⟨h30.1, trivial⟩
theorem vc_X11_demand_1 {p1 z1 z8 : Int} (h0 : z8 = 0) (h1 : (z8 = 1 → 0 ≤ p1 ∧ p1 < z1)) (h2 : (z8 = 0 → p1 < 0 ∨ z1 ≤ p1)) (h3 : (-2147483648) ≤ p1 ∧ p1 ≤ 2147483647) (h4 : 0 ≤ z1 ∧ z1 ≤ 10) (h5 : 0 ≤ z8 ∧ z8 ≤ 1) : 0 ≤ z8 ∧ z8 ≤ 0 := by omega
theorem vc_X11_demand_2 {n0 p1 z1 z8 : Int} (h0 : (z8 = 1 → 0 ≤ p1 ∧ p1 < z1)) (h1 : (z8 = 0 → p1 < 0 ∨ z1 ≤ p1)) (h2 : z8 = 0) (h3 : z1 = n0) (h4 : (-2147483648) ≤ p1 ∧ p1 ≤ 2147483647) (h5 : 0 ≤ z1 ∧ z1 ≤ 10) (h6 : 0 ≤ z8 ∧ z8 ≤ 0) : z8 = 0 := by omega
theorem vc_X11_demand_3 {p1 z1 z8 : Int} (h0 : ¬ z8 = 0) (h1 : (z8 = 1 → 0 ≤ p1 ∧ p1 < z1)) (h2 : (z8 = 0 → p1 < 0 ∨ z1 ≤ p1)) (h3 : (-2147483648) ≤ p1 ∧ p1 ≤ 2147483647) (h4 : 0 ≤ z1 ∧ z1 ≤ 10) (h5 : 0 ≤ z8 ∧ z8 ≤ 1) : 1 ≤ z8 ∧ z8 ≤ 1 := by omega
theorem vc_X11_demand_4 {n0 p1 z1 z8 : Int} (h0 : (z8 = 1 → 0 ≤ p1 ∧ p1 < z1)) (h1 : (z8 = 0 → p1 < 0 ∨ z1 ≤ p1)) (h2 : ¬ z8 = 0) (h3 : z1 = n0) (h4 : (-2147483648) ≤ p1 ∧ p1 ≤ 2147483647) (h5 : 0 ≤ z1 ∧ z1 ≤ 10) (h6 : 1 ≤ z8 ∧ z8 ≤ 1) : z8 = 1 := by omega
theorem vc_X11_demand_5 {n0 p1 z1 z8 : Int} (h0 : 0 ≤ p1 ∧ p1 < z1) (h1 : z1 = n0) (h2 : (z8 = 1 → 0 ≤ p1 ∧ p1 < z1)) (h3 : (z8 = 0 → p1 < 0 ∨ z1 ≤ p1)) (h4 : (-2147483648) ≤ p1 ∧ p1 ≤ 2147483647) (h5 : 0 ≤ z1 ∧ z1 ≤ 10) (h6 : 1 ≤ z8 ∧ z8 ≤ 1) : 0 ≤ p1 ∧ p1 ≤ 9 := by omega
theorem vc_X11_demand_6 {n0 p1 z1 z8 : Int} (h0 : 0 ≤ p1 ∧ p1 < z1) (h1 : z1 = n0) (h2 : (z8 = 1 → 0 ≤ p1 ∧ p1 < z1)) (h3 : (z8 = 0 → p1 < 0 ∨ z1 ≤ p1)) (h4 : 0 ≤ p1 ∧ p1 ≤ 9) (h5 : 0 ≤ z1 ∧ z1 ≤ 10) (h6 : 1 ≤ z8 ∧ z8 ≤ 1) : 1 ≤ z1 ∧ z1 ≤ 10 := by omega
theorem vc_X11_demand_7 {p3 : Int} (h0 : p3 < 1) (h1 : (-2147483648) ≤ p3 ∧ p3 ≤ 2147483647) : (-2147483648) ≤ p3 ∧ p3 ≤ 0 := by omega
theorem vc_X11_demand_8 {p3 : Int} (h0 : 1 ≤ p3) (h1 : (-2147483648) ≤ p3 ∧ p3 ≤ 2147483647) : 1 ≤ p3 ∧ p3 ≤ 2147483647 := by omega
theorem vc_X11_demand_9 {p3 : Int} (h0 : p3 ≤ 1000000) (h1 : 1 ≤ p3) (h2 : 1 ≤ p3 ∧ p3 ≤ 2147483647) : 1 ≤ p3 ∧ p3 ≤ 1000000 := by omega
theorem vc_X11_demand_10 {n0 z21 : Int} (h0 : z21 < 16) (h1 : (z21 = 0 ∨ 0 < n0)) (h2 : 0 ≤ z21 ∧ z21 ≤ 16) : 0 ≤ z21 ∧ z21 ≤ 15 := by omega
theorem vc_X11_demand_11 {n0 p1 z1 z21 z8 : Int} (h0 : z1 = n0) (h1 : (z8 = 1 → 0 ≤ p1 ∧ p1 < z1)) (h2 : (z8 = 0 → p1 < 0 ∨ z1 ≤ p1)) (h3 : 0 ≤ p1 ∧ p1 < z1) (h4 : (z21 = 0 ∨ 0 < n0)) (h5 : ¬ z8 = 0) (h6 : z21 < 16) (h7 : 0 ≤ p1 ∧ p1 ≤ 9) (h8 : 1 ≤ z1 ∧ z1 ≤ 10) (h9 : 0 ≤ z21 ∧ z21 ≤ 15) (h10 : 1 ≤ z8 ∧ z8 ≤ 1) : p1 < n0 := by omega
theorem vc_X11_demand_12 {n0 z1 z21 : Int} (h0 : (z21 = 0 ∨ 0 < n0)) (h1 : z21 < 16) (h2 : z1 = n0) (h3 : 1 ≤ z1 ∧ z1 ≤ 10) (h4 : 0 ≤ z21 ∧ z21 ≤ 15) : z21 ≤ 15 := by omega
theorem vc_X11_demand_13 {n0 z21 : Int} (h0 : 16 ≤ z21) (h1 : (z21 = 0 ∨ 0 < n0)) (h2 : 0 ≤ z21 ∧ z21 ≤ 16) : 16 ≤ z21 ∧ z21 ≤ 16 := by omega
theorem vc_X11_demand_14 {p3 : Int} (h0 : 1000000 < p3) (h1 : 1 ≤ p3) (h2 : 1 ≤ p3 ∧ p3 ≤ 2147483647) : 1000001 ≤ p3 ∧ p3 ≤ 2147483647 := by omega
set_option maxRecDepth 4000 in
set_option maxHeartbeats 4000000 in
theorem c_X11_demand {l : Launch} {D : va_G} {c : Nat → ClassId} {H0 : Heap} {sa : Nat × Nat × (Nat → Int32)} {w : mW} {μ : mM} (hw : mWF w) (hT : mT w μ) {p1 : Int} (hp1 : (-2147483648) ≤ p1 ∧ p1 ≤ 2147483647) {p2 : Int} (hp2 : (-2147483648) ≤ p2 ∧ p2 ≤ 2147483647) {p3 : Int} (hp3 : (-2147483648) ≤ p3 ∧ p3 ≤ 2147483647) : sC (gG l D c H0 sa) mX11_demand 2 0 0 [.ref 0, iv p1, iv p2, iv p3] (mk w μ) (qI w [87010, 90999, 91999, 92999] μ (fun z μ1 => ((-2147483648) ≤ z ∧ z ≤ 2147483647) ∧ True)) := by
  refine sC.of rfl (by decide) (le_t rfl) ?_
  refine mr_lvE (lv' := [(0, .ref 0), (1, iv p1), (2, iv p2), (3, iv p3)]) rfl ?_
  refine sv_aload_n (pc := 0) dX11_demand_0 rfl rfl ?_
  refine mr_iload_n (pc := 1) (z := p1) dX11_demand_1 rfl rfl ?_
  obtain ⟨z1, q2⟩ : ∃ z, μ 6 15 = z := ⟨_, rfl⟩
  have h3 : (z1 = w.2.2.2 0 ∧ 0 ≤ z1 ∧ z1 ≤ 10) := by rw [← q2]; exact hT 6 6 (A_6 hw) 15
  refine mr_cVP (pc := 2) (c_X11_isDomain hw hT hp1 q2) (gOk _ _ _ _ _) dX11_demand_2 (tX11_isDomain _ _ _ _ _) ⟨wV_X11_isDomain, wL_X11_isDomain⟩ wM_X11_105 (gCX11 _ _ _ _ _) rfl (A_0 hw) rfl ⟨le_t rfl, le_t rfl⟩ ⟨le_t rfl, le_t rfl⟩ rfl (le_t rfl) fun z8 h7 => ?_
  refine mr_if_eq (pc := 5) (tgt := 19) dX11_demand_5 (by decide) (r32 h7.1 rfl) (fun h9 => ?_) (fun h9 => ?_)
  · have h10 : 0 ≤ z8 ∧ z8 ≤ 0 := (vc_X11_demand_1 h9 h7.2.1 h7.2.2.1 hp1 h3.2 h7.1)
    have h11 : p1 < 0 ∨ z1 ≤ p1 := (h7.2.2.1 (vc_X11_demand_2 h7.2.1 h7.2.2.1 h9 h3.1 hp1 h3.2 h10))
    refine mr_iconst (pc := 19) (z := (-1)) dX11_demand_19 ?_
    exact mr_iret dX11_demand_20 rfl (le_t rfl) (le_t rfl) hT mF.refl ⟨(rW (c := (-2147483648)) (d := 2147483647) (rR (x := (-1))) rfl), trivial⟩
  have h12 : 1 ≤ z8 ∧ z8 ≤ 1 := (vc_X11_demand_3 h9 h7.2.1 h7.2.2.1 hp1 h3.2 h7.1)
  have h13 : 0 ≤ p1 ∧ p1 < z1 := (h7.2.1 (vc_X11_demand_4 h7.2.1 h7.2.2.1 h9 h3.1 hp1 h3.2 h12))
  have h14 : 0 ≤ p1 ∧ p1 ≤ 9 := (vc_X11_demand_5 h13 h3.1 h7.2.1 h7.2.2.1 hp1 h3.2 h12)
  have h15 : 1 ≤ z1 ∧ z1 ≤ 10 := (vc_X11_demand_6 h13 h3.1 h7.2.1 h7.2.2.1 h14 h3.2 h12)
  refine mr_iload_n (pc := 8) (z := p3) dX11_demand_8 rfl rfl ?_
  refine mr_iconst (pc := 9) (z := 1) dX11_demand_9 ?_
  refine mr_icmp_lt (pc := 10) (tgt := 19) dX11_demand_10 (by decide) hp3 (r32 (rR (x := 1)) rfl) (fun h16 => ?_) (fun h16 => ?_)
  · have h17 : (-2147483648) ≤ p3 ∧ p3 ≤ 0 := (vc_X11_demand_7 h16 hp3)
    refine mr_iconst (pc := 19) (z := (-1)) dX11_demand_19 ?_
    exact mr_iret dX11_demand_20 rfl (le_t rfl) (le_t rfl) hT mF.refl ⟨(rW (c := (-2147483648)) (d := 2147483647) (rR (x := (-1))) rfl), trivial⟩
  have h18 : 1 ≤ p3 ∧ p3 ≤ 2147483647 := (vc_X11_demand_8 h16 hp3)
  refine mr_iload_n (pc := 13) (z := p3) dX11_demand_13 rfl rfl ?_
  refine mr_ldc (pc := 14) (z := 1000000) dX11_demand_14 wG_X11_226 (by decide) ?_
  refine mr_icmp_le (pc := 16) (tgt := 21) dX11_demand_16 (by decide) (r32 h18 rfl) (r32 (rR (x := 1000000)) rfl) (fun h19 => ?_) (fun h19 => ?_)
  · have h20 : 1 ≤ p3 ∧ p3 ≤ 1000000 := (vc_X11_demand_9 h19 h16 h18)
    refine sv_aload_n (pc := 21) dX11_demand_21 rfl rfl ?_
    refine gf_X11_8 (pc := 22) dX11_demand_22 wF_X11_65 (A_0 hw) hT ?_
    refine gf_X2_10 (pc := 25) dX11_demand_25 wF_X11_373 (A_87 hw) hT fun z21 q22 h23 => ?_
    have h24 : 0 ≤ z21 ∧ z21 ≤ 16 := ⟨h23.1, h23.2.1⟩
    refine mr_bipush (pc := 28) (z := 16) dX11_demand_28 (by decide) ?_
    refine mr_icmp_lt (pc := 30) (tgt := 36) dX11_demand_30 (by decide) (r32 h24 rfl) (r32 (rR (x := 16)) rfl) (fun h25 => ?_) (fun h25 => ?_)
    · have h26 : 0 ≤ z21 ∧ z21 ≤ 15 := (vc_X11_demand_10 h25 h23.2.2 h24)
      refine sv_aload_n (pc := 36) dX11_demand_36 rfl rfl ?_
      refine gf_X11_8 (pc := 37) dX11_demand_37 wF_X11_65 (A_0 hw) hT ?_
      refine mr_iload_n (pc := 40) (z := p1) dX11_demand_40 rfl rfl ?_
      refine mr_iload_n (pc := 41) (z := p2) dX11_demand_41 rfl rfl ?_
      refine mr_iload_n (pc := 42) (z := p3) dX11_demand_42 rfl rfl ?_
      refine mr_cVI (pc := 43) (c_X2_addDemand hw hT h14 hp2 (rW (c := (-2147483648)) (d := 2147483647) h20 rfl) q22 (vc_X11_demand_11 h3.1 h7.2.1 h7.2.2.1 h13 h23.2.2 h9 h25 h14 h15 h26 h12) (vc_X11_demand_12 h23.2.2 h25 h3.1 h15 h26)) (gOk _ _ _ _ _) dX11_demand_43 (tX2_addDemand _ _ _ _ _) ⟨wV_X2_addDemand, wL_X2_addDemand⟩ wM_X11_376 (gCX2 _ _ _ _ _) rfl (A_87 hw) rfl ⟨le_t rfl, le_t rfl⟩ ⟨le_t rfl, le_t rfl⟩ rfl (le_t rfl) fun z31 μ27 T28 F29 h30 => ?_
      exact mr_iret dX11_demand_46 rfl (le_t rfl) (le_t rfl) T28 (mF.call mF.refl F29 rfl) ⟨h30.1, trivial⟩
    have h32 : 16 ≤ z21 ∧ z21 ≤ 16 := (vc_X11_demand_13 h25 h23.2.2 h24)
    refine mr_bipush (pc := 33) (z := (-3)) dX11_demand_33 (by decide) ?_
    exact mr_iret dX11_demand_35 rfl (le_t rfl) (le_t rfl) hT mF.refl ⟨(rW (c := (-2147483648)) (d := 2147483647) (rR (x := (-3))) rfl), trivial⟩
  have h33 : 1000001 ≤ p3 ∧ p3 ≤ 2147483647 := (vc_X11_demand_14 h19 h16 h18)
  refine mr_iconst (pc := 19) (z := (-1)) dX11_demand_19 ?_
  exact mr_iret dX11_demand_20 rfl (le_t rfl) (le_t rfl) hT mF.refl ⟨(rW (c := (-2147483648)) (d := 2147483647) (rR (x := (-1))) rfl), trivial⟩
theorem vc_X11_load_1 {p1 z1 z8 : Int} (h0 : z8 = 0) (h1 : (z8 = 1 → 0 ≤ p1 ∧ p1 < z1)) (h2 : (z8 = 0 → p1 < 0 ∨ z1 ≤ p1)) (h3 : (-2147483648) ≤ p1 ∧ p1 ≤ 2147483647) (h4 : 0 ≤ z1 ∧ z1 ≤ 20) (h5 : 0 ≤ z8 ∧ z8 ≤ 1) : 0 ≤ z8 ∧ z8 ≤ 0 := by omega
theorem vc_X11_load_2 {n1 p1 z1 z8 : Int} (h0 : (z8 = 1 → 0 ≤ p1 ∧ p1 < z1)) (h1 : (z8 = 0 → p1 < 0 ∨ z1 ≤ p1)) (h2 : z8 = 0) (h3 : z1 = n1) (h4 : (-2147483648) ≤ p1 ∧ p1 ≤ 2147483647) (h5 : 0 ≤ z1 ∧ z1 ≤ 20) (h6 : 0 ≤ z8 ∧ z8 ≤ 0) : z8 = 0 := by omega
theorem vc_X11_load_3 {p1 z1 z8 : Int} (h0 : ¬ z8 = 0) (h1 : (z8 = 1 → 0 ≤ p1 ∧ p1 < z1)) (h2 : (z8 = 0 → p1 < 0 ∨ z1 ≤ p1)) (h3 : (-2147483648) ≤ p1 ∧ p1 ≤ 2147483647) (h4 : 0 ≤ z1 ∧ z1 ≤ 20) (h5 : 0 ≤ z8 ∧ z8 ≤ 1) : 1 ≤ z8 ∧ z8 ≤ 1 := by omega
theorem vc_X11_load_4 {n1 p1 z1 z8 : Int} (h0 : (z8 = 1 → 0 ≤ p1 ∧ p1 < z1)) (h1 : (z8 = 0 → p1 < 0 ∨ z1 ≤ p1)) (h2 : ¬ z8 = 0) (h3 : z1 = n1) (h4 : (-2147483648) ≤ p1 ∧ p1 ≤ 2147483647) (h5 : 0 ≤ z1 ∧ z1 ≤ 20) (h6 : 1 ≤ z8 ∧ z8 ≤ 1) : z8 = 1 := by omega
theorem vc_X11_load_5 {n1 p1 z1 z8 : Int} (h0 : 0 ≤ p1 ∧ p1 < z1) (h1 : z1 = n1) (h2 : (z8 = 1 → 0 ≤ p1 ∧ p1 < z1)) (h3 : (z8 = 0 → p1 < 0 ∨ z1 ≤ p1)) (h4 : (-2147483648) ≤ p1 ∧ p1 ≤ 2147483647) (h5 : 0 ≤ z1 ∧ z1 ≤ 20) (h6 : 1 ≤ z8 ∧ z8 ≤ 1) : 0 ≤ p1 ∧ p1 ≤ 19 := by omega
theorem vc_X11_load_6 {n1 p1 z1 z8 : Int} (h0 : 0 ≤ p1 ∧ p1 < z1) (h1 : z1 = n1) (h2 : (z8 = 1 → 0 ≤ p1 ∧ p1 < z1)) (h3 : (z8 = 0 → p1 < 0 ∨ z1 ≤ p1)) (h4 : 0 ≤ p1 ∧ p1 ≤ 19) (h5 : 0 ≤ z1 ∧ z1 ≤ 20) (h6 : 1 ≤ z8 ∧ z8 ≤ 1) : 1 ≤ z1 ∧ z1 ≤ 20 := by omega
theorem vc_X11_load_7 {p2 z20 : Int} (h0 : ¬ z20 = 0) (h1 : (z20 = 1 → 0 ≤ p2 ∧ p2 ≤ 1)) (h2 : (z20 = 0 → p2 < 0 ∨ 1 < p2)) (h3 : (-2147483648) ≤ p2 ∧ p2 ≤ 2147483647) (h4 : 0 ≤ z20 ∧ z20 ≤ 1) : 1 ≤ z20 ∧ z20 ≤ 1 := by omega
theorem vc_X11_load_8 {p2 z20 : Int} (h0 : (z20 = 1 → 0 ≤ p2 ∧ p2 ≤ 1)) (h1 : (z20 = 0 → p2 < 0 ∨ 1 < p2)) (h2 : ¬ z20 = 0) (h3 : (-2147483648) ≤ p2 ∧ p2 ≤ 2147483647) (h4 : 1 ≤ z20 ∧ z20 ≤ 1) : z20 = 1 := by omega
theorem vc_X11_load_9 {p2 z20 : Int} (h0 : 0 ≤ p2 ∧ p2 ≤ 1) (h1 : (z20 = 1 → 0 ≤ p2 ∧ p2 ≤ 1)) (h2 : (z20 = 0 → p2 < 0 ∨ 1 < p2)) (h3 : (-2147483648) ≤ p2 ∧ p2 ≤ 2147483647) (h4 : 1 ≤ z20 ∧ z20 ≤ 1) : 0 ≤ p2 ∧ p2 ≤ 1 := by omega
theorem vc_X11_load_10 {n1 p1 z1 z8 : Int} (h0 : z1 = n1) (h1 : (z8 = 1 → 0 ≤ p1 ∧ p1 < z1)) (h2 : (z8 = 0 → p1 < 0 ∨ z1 ≤ p1)) (h3 : 0 ≤ p1 ∧ p1 < z1) (h4 : ¬ z8 = 0) (h5 : 0 ≤ p1 ∧ p1 ≤ 19) (h6 : 1 ≤ z1 ∧ z1 ≤ 20) (h7 : 1 ≤ z8 ∧ z8 ≤ 1) : p1 < n1 := by omega
theorem vc_X11_load_11 {p2 z20 : Int} (h0 : z20 = 0) (h1 : (z20 = 1 → 0 ≤ p2 ∧ p2 ≤ 1)) (h2 : (z20 = 0 → p2 < 0 ∨ 1 < p2)) (h3 : (-2147483648) ≤ p2 ∧ p2 ≤ 2147483647) (h4 : 0 ≤ z20 ∧ z20 ≤ 1) : 0 ≤ z20 ∧ z20 ≤ 0 := by omega
theorem vc_X11_load_12 {p2 z20 : Int} (h0 : (z20 = 1 → 0 ≤ p2 ∧ p2 ≤ 1)) (h1 : (z20 = 0 → p2 < 0 ∨ 1 < p2)) (h2 : z20 = 0) (h3 : (-2147483648) ≤ p2 ∧ p2 ≤ 2147483647) (h4 : 0 ≤ z20 ∧ z20 ≤ 0) : z20 = 0 := by omega
set_option maxRecDepth 4000 in
set_option maxHeartbeats 4000000 in
theorem c_X11_load {l : Launch} {D : va_G} {c : Nat → ClassId} {H0 : Heap} {sa : Nat × Nat × (Nat → Int32)} {w : mW} {μ : mM} (hw : mWF w) (hT : mT w μ) {p1 : Int} (hp1 : (-2147483648) ≤ p1 ∧ p1 ≤ 2147483647) {p2 : Int} (hp2 : (-2147483648) ≤ p2 ∧ p2 ≤ 2147483647) : sC (gG l D c H0 sa) mX11_load 5 0 0 [.ref 0, iv p1, iv p2] (mk w μ) (qI w [87006, 88999] μ (fun z μ1 => ((-2147483648) ≤ z ∧ z ≤ 2147483647) ∧ True)) := by
  refine sC.of rfl (by decide) (le_t rfl) ?_
  refine mr_lvE (lv' := [(0, .ref 0), (1, iv p1), (2, iv p2)]) rfl ?_
  refine sv_aload_n (pc := 0) dX11_load_0 rfl rfl ?_
  refine mr_iload_n (pc := 1) (z := p1) dX11_load_1 rfl rfl ?_
  obtain ⟨z1, q2⟩ : ∃ z, μ 6 16 = z := ⟨_, rfl⟩
  have h3 : (z1 = w.2.2.2 1 ∧ 0 ≤ z1 ∧ z1 ≤ 20) := by rw [← q2]; exact hT 6 6 (A_6 hw) 16
  refine mr_cVP (pc := 2) (c_X11_isTie hw hT hp1 q2) (gOk _ _ _ _ _) dX11_load_2 (tX11_isTie _ _ _ _ _) ⟨wV_X11_isTie, wL_X11_isTie⟩ wM_X11_119 (gCX11 _ _ _ _ _) rfl (A_0 hw) rfl ⟨le_t rfl, le_t rfl⟩ ⟨le_t rfl, le_t rfl⟩ rfl (le_t rfl) fun z8 h7 => ?_
  refine mr_if_eq (pc := 5) (tgt := 15) dX11_load_5 (by decide) (r32 h7.1 rfl) (fun h9 => ?_) (fun h9 => ?_)
  · have h10 : 0 ≤ z8 ∧ z8 ≤ 0 := (vc_X11_load_1 h9 h7.2.1 h7.2.2.1 hp1 h3.2 h7.1)
    have h11 : p1 < 0 ∨ z1 ≤ p1 := (h7.2.2.1 (vc_X11_load_2 h7.2.1 h7.2.2.1 h9 h3.1 hp1 h3.2 h10))
    refine mr_iconst (pc := 15) (z := (-1)) dX11_load_15 ?_
    exact mr_iret dX11_load_16 rfl (le_t rfl) (le_t rfl) hT mF.refl ⟨(rW (c := (-2147483648)) (d := 2147483647) (rR (x := (-1))) rfl), trivial⟩
  have h12 : 1 ≤ z8 ∧ z8 ≤ 1 := (vc_X11_load_3 h9 h7.2.1 h7.2.2.1 hp1 h3.2 h7.1)
  have h13 : 0 ≤ p1 ∧ p1 < z1 := (h7.2.1 (vc_X11_load_4 h7.2.1 h7.2.2.1 h9 h3.1 hp1 h3.2 h12))
  have h14 : 0 ≤ p1 ∧ p1 ≤ 19 := (vc_X11_load_5 h13 h3.1 h7.2.1 h7.2.2.1 hp1 h3.2 h12)
  have h15 : 1 ≤ z1 ∧ z1 ≤ 20 := (vc_X11_load_6 h13 h3.1 h7.2.1 h7.2.2.1 h14 h3.2 h12)
  refine mr_iload_n (pc := 8) (z := p2) dX11_load_8 rfl rfl ?_
  refine mr_cSP (pc := 9) (c_X11_isEither hw hT hp2) (gOk _ _ _ _ _) dX11_load_9 (tX11_isEither _ _ _ _ _) wS_X11_isEither wM_X11_271 ⟨le_t rfl, le_t rfl⟩ ⟨le_t rfl, le_t rfl⟩ rfl (le_t rfl) fun z20 h19 => ?_
  refine mr_if_ne (pc := 12) (tgt := 17) dX11_load_12 (by decide) (r32 h19.1 rfl) (fun h21 => ?_) (fun h21 => ?_)
  · have h22 : 1 ≤ z20 ∧ z20 ≤ 1 := (vc_X11_load_7 h21 h19.2.1 h19.2.2.1 hp2 h19.1)
    have h23 : 0 ≤ p2 ∧ p2 ≤ 1 := (h19.2.1 (vc_X11_load_8 h19.2.1 h19.2.2.1 h21 hp2 h22))
    have h24 : 0 ≤ p2 ∧ p2 ≤ 1 := (vc_X11_load_9 h23 h19.2.1 h19.2.2.1 hp2 h22)
    refine sv_aload_n (pc := 17) dX11_load_17 rfl rfl ?_
    refine gf_X11_3 (pc := 18) dX11_load_18 wF_X11_26 (A_0 hw) hT ?_
    refine gf_X10_4 (pc := 21) dX11_load_21 wF_X11_122 (A_6 hw) hT ?_
    refine mr_iload_n (pc := 24) (z := p1) dX11_load_24 rfl rfl ?_
    refine la_11 (pc := 25) dX11_load_25 (A_11 hw) hT (rIx (n := 20) h14 rfl) (vc_X11_load_10 h3.1 h7.2.1 h7.2.2.1 h13 h9 h14 h15 h12) fun b25 q26 A27 => ?_
    refine mr_astore_n (pc := 26) (lv' := [(3, .ref b25), (0, .ref 0), (1, iv p1), (2, iv p2)]) dX11_load_26 rfl (by decide) rfl ?_
    refine sv_aload_n (pc := 27) dX11_load_27 rfl rfl ?_
    refine gf_X11_8 (pc := 28) dX11_load_28 wF_X11_65 (A_0 hw) hT ?_
    refine sv_aload_n (pc := 31) dX11_load_31 rfl rfl ?_
    refine mr_iload_n (pc := 32) (z := p2) dX11_load_32 rfl rfl ?_
    refine mr_cVP (pc := 33) (c_X9_end hw hT A27 (rW (c := (-2147483648)) (d := 2147483647) h24 rfl)) (gOk _ _ _ _ _) dX11_load_33 (tX9_end _ _ _ _ _) ⟨wV_X9_end, wL_X9_end⟩ wM_X11_277 (gCX9 _ _ _ _ _) rfl A27 rfl ⟨le_t rfl, le_t rfl⟩ ⟨le_t rfl, le_t rfl⟩ rfl (le_t rfl) fun z32 h31 => ?_
    refine sv_aload_n (pc := 36) dX11_load_36 rfl rfl ?_
    refine mr_iconst (pc := 37) (z := 1) dX11_load_37 ?_
    refine mr_iload_n (pc := 38) (z := p2) dX11_load_38 rfl rfl ?_
    refine mr_isub (pc := 39) (x := 1) (y := p2) dX11_load_39 ?_
    refine mr_cVP (pc := 40) (c_X9_end hw hT A27 (rW (c := (-2147483648)) (d := 2147483647) (rSub (e := 0) (f := 1) (rR (x := 1)) h24 rfl) rfl)) (gOk _ _ _ _ _) dX11_load_40 (tX9_end _ _ _ _ _) ⟨wV_X9_end, wL_X9_end⟩ wM_X11_277 (gCX9 _ _ _ _ _) rfl A27 rfl ⟨le_t rfl, le_t rfl⟩ ⟨le_t rfl, le_t rfl⟩ rfl (le_t rfl) fun z37 h36 => ?_
    refine mr_cVI (pc := 43) (c_X2_unitsOver hw hT (rW (c := (-2147483648)) (d := 2147483647) h31.1 rfl) (rW (c := (-2147483648)) (d := 2147483647) h36.1 rfl)) (gOk _ _ _ _ _) dX11_load_43 (tX2_unitsOver _ _ _ _ _) ⟨wV_X2_unitsOver, wL_X2_unitsOver⟩ wM_X11_379 (gCX2 _ _ _ _ _) rfl (A_87 hw) rfl ⟨le_t rfl, le_t rfl⟩ ⟨le_t rfl, le_t rfl⟩ rfl (le_t rfl) fun z42 μ38 T39 F40 h41 => ?_
    exact mr_iret dX11_load_46 rfl (le_t rfl) (le_t rfl) T39 (mF.call mF.refl F40 rfl) ⟨h41.1, trivial⟩
  have h43 : 0 ≤ z20 ∧ z20 ≤ 0 := (vc_X11_load_11 h21 h19.2.1 h19.2.2.1 hp2 h19.1)
  have h44 : p2 < 0 ∨ 1 < p2 := (h19.2.2.1 (vc_X11_load_12 h19.2.1 h19.2.2.1 h21 hp2 h43))
  refine mr_iconst (pc := 15) (z := (-1)) dX11_load_15 ?_
  exact mr_iret dX11_load_16 rfl (le_t rfl) (le_t rfl) hT mF.refl ⟨(rW (c := (-2147483648)) (d := 2147483647) (rR (x := (-1))) rfl), trivial⟩
theorem vc_X11_units_1 {p1 : Int} (h0 : p1 < 0) (h1 : (-2147483648) ≤ p1 ∧ p1 ≤ 2147483647) : (-2147483648) ≤ p1 ∧ p1 ≤ (-1) := by omega
theorem vc_X11_units_2 {p1 : Int} (h0 : 0 ≤ p1) (h1 : (-2147483648) ≤ p1 ∧ p1 ≤ 2147483647) : 0 ≤ p1 ∧ p1 ≤ 2147483647 := by omega
theorem vc_X11_units_3 {p1 : Int} (h0 : p1 ≤ 2) (h1 : 0 ≤ p1) (h2 : 0 ≤ p1 ∧ p1 ≤ 2147483647) : 0 ≤ p1 ∧ p1 ≤ 2 := by omega
theorem vc_X11_units_4 {p1 : Int} (h0 : 2 < p1) (h1 : 0 ≤ p1) (h2 : 0 ≤ p1 ∧ p1 ≤ 2147483647) : 3 ≤ p1 ∧ p1 ≤ 2147483647 := by omega
set_option maxRecDepth 4000 in
set_option maxHeartbeats 4000000 in
theorem c_X11_units {l : Launch} {D : va_G} {c : Nat → ClassId} {H0 : Heap} {sa : Nat × Nat × (Nat → Int32)} {w : mW} {μ : mM} (hw : mWF w) (hT : mT w μ) {p1 : Int} (hp1 : (-2147483648) ≤ p1 ∧ p1 ≤ 2147483647) : sC (gG l D c H0 sa) mX11_units 5 0 0 [.ref 0, iv p1] (mk w μ) (qI w [87006, 88999] μ (fun z μ1 => ((-2147483648) ≤ z ∧ z ≤ 2147483647) ∧ True)) := by
  refine sC.of rfl (by decide) (le_t rfl) ?_
  refine mr_lvE (lv' := [(0, .ref 0), (1, iv p1)]) rfl ?_
  refine mr_iload_n (pc := 0) (z := p1) dX11_units_0 rfl rfl ?_
  refine mr_if_lt (pc := 1) (tgt := 9) dX11_units_1 (by decide) hp1 (fun h10 => ?_) (fun h10 => ?_)
  · have h11 : (-2147483648) ≤ p1 ∧ p1 ≤ (-1) := (vc_X11_units_1 h10 hp1)
    refine mr_iconst (pc := 9) (z := (-1)) dX11_units_9 ?_
    refine sv_goto (pc := 10) (tgt := 21) dX11_units_10 (by decide) ?_
    exact mr_iret dX11_units_21 rfl (le_t rfl) (le_t rfl) hT mF.refl ⟨(rW (c := (-2147483648)) (d := 2147483647) (rR (x := (-1))) rfl), trivial⟩
  have h12 : 0 ≤ p1 ∧ p1 ≤ 2147483647 := (vc_X11_units_2 h10 hp1)
  refine mr_iload_n (pc := 4) (z := p1) dX11_units_4 rfl rfl ?_
  refine mr_iconst (pc := 5) (z := 2) dX11_units_5 ?_
  refine mr_icmp_le (pc := 6) (tgt := 13) dX11_units_6 (by decide) (r32 h12 rfl) (r32 (rR (x := 2)) rfl) (fun h20 => ?_) (fun h20 => ?_)
  · have h21 : 0 ≤ p1 ∧ p1 ≤ 2 := (vc_X11_units_3 h20 h10 h12)
    refine sv_aload_n (pc := 13) dX11_units_13 rfl rfl ?_
    refine gf_X11_8 (pc := 14) dX11_units_14 wF_X11_65 (A_0 hw) hT ?_
    refine mr_iload_n (pc := 17) (z := p1) dX11_units_17 rfl rfl ?_
    refine mr_cVI (pc := 18) (c_X2_unitsThat hw hT (rW (c := (-2147483648)) (d := 2147483647) h21 rfl)) (gOk _ _ _ _ _) dX11_units_18 (tX2_unitsThat _ _ _ _ _) ⟨wV_X2_unitsThat, wL_X2_unitsThat⟩ wM_X11_382 (gCX2 _ _ _ _ _) rfl (A_87 hw) rfl ⟨le_t rfl, le_t rfl⟩ ⟨le_t rfl, le_t rfl⟩ rfl (le_t rfl) fun z26 μ22 T23 F24 h25 => ?_
    exact mr_iret dX11_units_21 rfl (le_t rfl) (le_t rfl) T23 (mF.call mF.refl F24 rfl) ⟨h25.1, trivial⟩
  have h27 : 3 ≤ p1 ∧ p1 ≤ 2147483647 := (vc_X11_units_4 h20 h10 h12)
  refine mr_iconst (pc := 9) (z := (-1)) dX11_units_9 ?_
  refine sv_goto (pc := 10) (tgt := 21) dX11_units_10 (by decide) ?_
  exact mr_iret dX11_units_21 rfl (le_t rfl) (le_t rfl) hT mF.refl ⟨(rW (c := (-2147483648)) (d := 2147483647) (rR (x := (-1))) rfl), trivial⟩
theorem vc_X11_differ_1 {p1 z1 z8 : Int} (h0 : z8 = 0) (h1 : (z8 = 1 → 0 ≤ p1 ∧ p1 < z1)) (h2 : (z8 = 0 → p1 < 0 ∨ z1 ≤ p1)) (h3 : (-2147483648) ≤ p1 ∧ p1 ≤ 2147483647) (h4 : 0 ≤ z1 ∧ z1 ≤ 10) (h5 : 0 ≤ z8 ∧ z8 ≤ 1) : 0 ≤ z8 ∧ z8 ≤ 0 := by omega
theorem vc_X11_differ_2 {n0 p1 z1 z8 : Int} (h0 : (z8 = 1 → 0 ≤ p1 ∧ p1 < z1)) (h1 : (z8 = 0 → p1 < 0 ∨ z1 ≤ p1)) (h2 : z8 = 0) (h3 : z1 = n0) (h4 : (-2147483648) ≤ p1 ∧ p1 ≤ 2147483647) (h5 : 0 ≤ z1 ∧ z1 ≤ 10) (h6 : 0 ≤ z8 ∧ z8 ≤ 0) : z8 = 0 := by omega
theorem vc_X11_differ_3 {p1 z1 z8 : Int} (h0 : ¬ z8 = 0) (h1 : (z8 = 1 → 0 ≤ p1 ∧ p1 < z1)) (h2 : (z8 = 0 → p1 < 0 ∨ z1 ≤ p1)) (h3 : (-2147483648) ≤ p1 ∧ p1 ≤ 2147483647) (h4 : 0 ≤ z1 ∧ z1 ≤ 10) (h5 : 0 ≤ z8 ∧ z8 ≤ 1) : 1 ≤ z8 ∧ z8 ≤ 1 := by omega
theorem vc_X11_differ_4 {n0 p1 z1 z8 : Int} (h0 : (z8 = 1 → 0 ≤ p1 ∧ p1 < z1)) (h1 : (z8 = 0 → p1 < 0 ∨ z1 ≤ p1)) (h2 : ¬ z8 = 0) (h3 : z1 = n0) (h4 : (-2147483648) ≤ p1 ∧ p1 ≤ 2147483647) (h5 : 0 ≤ z1 ∧ z1 ≤ 10) (h6 : 1 ≤ z8 ∧ z8 ≤ 1) : z8 = 1 := by omega
theorem vc_X11_differ_5 {n0 p1 z1 z8 : Int} (h0 : 0 ≤ p1 ∧ p1 < z1) (h1 : z1 = n0) (h2 : (z8 = 1 → 0 ≤ p1 ∧ p1 < z1)) (h3 : (z8 = 0 → p1 < 0 ∨ z1 ≤ p1)) (h4 : (-2147483648) ≤ p1 ∧ p1 ≤ 2147483647) (h5 : 0 ≤ z1 ∧ z1 ≤ 10) (h6 : 1 ≤ z8 ∧ z8 ≤ 1) : 0 ≤ p1 ∧ p1 ≤ 9 := by omega
theorem vc_X11_differ_6 {n0 p1 z1 z8 : Int} (h0 : 0 ≤ p1 ∧ p1 < z1) (h1 : z1 = n0) (h2 : (z8 = 1 → 0 ≤ p1 ∧ p1 < z1)) (h3 : (z8 = 0 → p1 < 0 ∨ z1 ≤ p1)) (h4 : 0 ≤ p1 ∧ p1 ≤ 9) (h5 : 0 ≤ z1 ∧ z1 ≤ 10) (h6 : 1 ≤ z8 ∧ z8 ≤ 1) : 1 ≤ z1 ∧ z1 ≤ 10 := by omega
theorem vc_X11_differ_7 {p2 z1 z41 : Int} (h0 : z41 = 0) (h1 : (z41 = 1 → 0 ≤ p2 ∧ p2 < z1)) (h2 : (z41 = 0 → p2 < 0 ∨ z1 ≤ p2)) (h3 : (-2147483648) ≤ p2 ∧ p2 ≤ 2147483647) (h4 : 1 ≤ z1 ∧ z1 ≤ 10) (h5 : 0 ≤ z41 ∧ z41 ≤ 1) : 0 ≤ z41 ∧ z41 ≤ 0 := by omega
theorem vc_X11_differ_8 {n0 p1 p2 z1 z41 z8 : Int} (h0 : (z41 = 1 → 0 ≤ p2 ∧ p2 < z1)) (h1 : (z41 = 0 → p2 < 0 ∨ z1 ≤ p2)) (h2 : z41 = 0) (h3 : z1 = n0) (h4 : (z8 = 1 → 0 ≤ p1 ∧ p1 < z1)) (h5 : (z8 = 0 → p1 < 0 ∨ z1 ≤ p1)) (h6 : 0 ≤ p1 ∧ p1 < z1) (h7 : 0 ≤ p1 ∧ p1 ≤ 9) (h8 : (-2147483648) ≤ p2 ∧ p2 ≤ 2147483647) (h9 : 1 ≤ z1 ∧ z1 ≤ 10) (h10 : 0 ≤ z41 ∧ z41 ≤ 0) (h11 : 1 ≤ z8 ∧ z8 ≤ 1) : z41 = 0 := by omega
theorem vc_X11_differ_9 {p2 z1 z41 : Int} (h0 : ¬ z41 = 0) (h1 : (z41 = 1 → 0 ≤ p2 ∧ p2 < z1)) (h2 : (z41 = 0 → p2 < 0 ∨ z1 ≤ p2)) (h3 : (-2147483648) ≤ p2 ∧ p2 ≤ 2147483647) (h4 : 1 ≤ z1 ∧ z1 ≤ 10) (h5 : 0 ≤ z41 ∧ z41 ≤ 1) : 1 ≤ z41 ∧ z41 ≤ 1 := by omega
theorem vc_X11_differ_10 {n0 p1 p2 z1 z41 z8 : Int} (h0 : (z41 = 1 → 0 ≤ p2 ∧ p2 < z1)) (h1 : (z41 = 0 → p2 < 0 ∨ z1 ≤ p2)) (h2 : ¬ z41 = 0) (h3 : z1 = n0) (h4 : (z8 = 1 → 0 ≤ p1 ∧ p1 < z1)) (h5 : (z8 = 0 → p1 < 0 ∨ z1 ≤ p1)) (h6 : 0 ≤ p1 ∧ p1 < z1) (h7 : 0 ≤ p1 ∧ p1 ≤ 9) (h8 : (-2147483648) ≤ p2 ∧ p2 ≤ 2147483647) (h9 : 1 ≤ z1 ∧ z1 ≤ 10) (h10 : 1 ≤ z41 ∧ z41 ≤ 1) (h11 : 1 ≤ z8 ∧ z8 ≤ 1) : z41 = 1 := by omega
theorem vc_X11_differ_11 {n0 p1 p2 z1 z41 z8 : Int} (h0 : 0 ≤ p2 ∧ p2 < z1) (h1 : z1 = n0) (h2 : (z8 = 1 → 0 ≤ p1 ∧ p1 < z1)) (h3 : (z8 = 0 → p1 < 0 ∨ z1 ≤ p1)) (h4 : 0 ≤ p1 ∧ p1 < z1) (h5 : (z41 = 1 → 0 ≤ p2 ∧ p2 < z1)) (h6 : (z41 = 0 → p2 < 0 ∨ z1 ≤ p2)) (h7 : 0 ≤ p1 ∧ p1 ≤ 9) (h8 : (-2147483648) ≤ p2 ∧ p2 ≤ 2147483647) (h9 : 1 ≤ z1 ∧ z1 ≤ 10) (h10 : 1 ≤ z41 ∧ z41 ≤ 1) (h11 : 1 ≤ z8 ∧ z8 ≤ 1) : 0 ≤ p2 ∧ p2 ≤ 9 := by omega
theorem vc_X11_differ_12 {n0 p1 p2 z1 z41 z8 : Int} (h0 : z1 = n0) (h1 : (z8 = 1 → 0 ≤ p1 ∧ p1 < z1)) (h2 : (z8 = 0 → p1 < 0 ∨ z1 ≤ p1)) (h3 : 0 ≤ p1 ∧ p1 < z1) (h4 : ¬ z8 = 0) (h5 : (z41 = 1 → 0 ≤ p2 ∧ p2 < z1)) (h6 : (z41 = 0 → p2 < 0 ∨ z1 ≤ p2)) (h7 : 0 ≤ p2 ∧ p2 < z1) (h8 : 0 ≤ p1 ∧ p1 ≤ 9) (h9 : 0 ≤ p2 ∧ p2 ≤ 9) (h10 : 1 ≤ z1 ∧ z1 ≤ 10) (h11 : 1 ≤ z41 ∧ z41 ≤ 1) (h12 : 1 ≤ z8 ∧ z8 ≤ 1) : p1 < n0 := by omega
theorem vc_X11_differ_13 {n0 p1 p2 z1 z41 z8 : Int} (h0 : z1 = n0) (h1 : (z41 = 1 → 0 ≤ p2 ∧ p2 < z1)) (h2 : (z41 = 0 → p2 < 0 ∨ z1 ≤ p2)) (h3 : 0 ≤ p2 ∧ p2 < z1) (h4 : (z8 = 1 → 0 ≤ p1 ∧ p1 < z1)) (h5 : (z8 = 0 → p1 < 0 ∨ z1 ≤ p1)) (h6 : 0 ≤ p1 ∧ p1 < z1) (h7 : ¬ z41 = 0) (h8 : 0 ≤ p1 ∧ p1 ≤ 9) (h9 : 0 ≤ p2 ∧ p2 ≤ 9) (h10 : 1 ≤ z1 ∧ z1 ≤ 10) (h11 : 1 ≤ z41 ∧ z41 ≤ 1) (h12 : 1 ≤ z8 ∧ z8 ≤ 1) : p2 < n0 := by omega
set_option maxRecDepth 4000 in
set_option maxHeartbeats 4000000 in
theorem c_X11_differ {l : Launch} {D : va_G} {c : Nat → ClassId} {H0 : Heap} {sa : Nat × Nat × (Nat → Int32)} {w : mW} {μ : mM} (hw : mWF w) (hT : mT w μ) {p1 : Int} (hp1 : (-2147483648) ≤ p1 ∧ p1 ≤ 2147483647) {p2 : Int} (hp2 : (-2147483648) ≤ p2 ∧ p2 ≤ 2147483647) : sC (gG l D c H0 sa) mX11_differ 4 0 0 [.ref 0, iv p1, iv p2] (mk w μ) (qJ w [93999] μ (fun z μ1 => ((-9223372036854775808) ≤ z ∧ z ≤ 9223372036854775807) ∧ True)) := by
  refine sC.of rfl (by decide) (le_t rfl) ?_
  refine mr_lvE (lv' := [(0, .ref 0), (1, iv p1), (2, iv p2)]) rfl ?_
  refine sv_aload_n (pc := 0) dX11_differ_0 rfl rfl ?_
  refine mr_iload_n (pc := 1) (z := p1) dX11_differ_1 rfl rfl ?_
  obtain ⟨z1, q2⟩ : ∃ z, μ 6 15 = z := ⟨_, rfl⟩
  have h3 : (z1 = w.2.2.2 0 ∧ 0 ≤ z1 ∧ z1 ≤ 10) := by rw [← q2]; exact hT 6 6 (A_6 hw) 15
  refine mr_cVP (pc := 2) (c_X11_isDomain hw hT hp1 q2) (gOk _ _ _ _ _) dX11_differ_2 (tX11_isDomain _ _ _ _ _) ⟨wV_X11_isDomain, wL_X11_isDomain⟩ wM_X11_105 (gCX11 _ _ _ _ _) rfl (A_0 hw) rfl ⟨le_t rfl, le_t rfl⟩ ⟨le_t rfl, le_t rfl⟩ rfl (le_t rfl) fun z8 h7 => ?_
  refine mr_if_eq (pc := 5) (tgt := 28) dX11_differ_5 (by decide) (r32 h7.1 rfl) (fun h30 => ?_) (fun h30 => ?_)
  · have h31 : 0 ≤ z8 ∧ z8 ≤ 0 := (vc_X11_differ_1 h30 h7.2.1 h7.2.2.1 hp1 h3.2 h7.1)
    have h32 : p1 < 0 ∨ z1 ≤ p1 := (h7.2.2.1 (vc_X11_differ_2 h7.2.1 h7.2.2.1 h30 h3.1 hp1 h3.2 h31))
    refine mr_ldc2 (pc := 28) (z := (-1)) dX11_differ_28 wH_X11_392 (by decide) ?_
    exact mr_lret dX11_differ_31 rfl (le_t rfl) (le_t rfl) hT mF.refl ⟨(rW (c := -9223372036854775808) (d := 9223372036854775807) (rR (x := (-1))) rfl), trivial⟩
  have h33 : 1 ≤ z8 ∧ z8 ≤ 1 := (vc_X11_differ_3 h30 h7.2.1 h7.2.2.1 hp1 h3.2 h7.1)
  have h34 : 0 ≤ p1 ∧ p1 < z1 := (h7.2.1 (vc_X11_differ_4 h7.2.1 h7.2.2.1 h30 h3.1 hp1 h3.2 h33))
  have h35 : 0 ≤ p1 ∧ p1 ≤ 9 := (vc_X11_differ_5 h34 h3.1 h7.2.1 h7.2.2.1 hp1 h3.2 h33)
  have h36 : 1 ≤ z1 ∧ z1 ≤ 10 := (vc_X11_differ_6 h34 h3.1 h7.2.1 h7.2.2.1 h35 h3.2 h33)
  refine sv_aload_n (pc := 8) dX11_differ_8 rfl rfl ?_
  refine mr_iload_n (pc := 9) (z := p2) dX11_differ_9 rfl rfl ?_
  refine mr_cVP (pc := 10) (c_X11_isDomain hw hT hp2 q2) (gOk _ _ _ _ _) dX11_differ_10 (tX11_isDomain _ _ _ _ _) ⟨wV_X11_isDomain, wL_X11_isDomain⟩ wM_X11_105 (gCX11 _ _ _ _ _) rfl (A_0 hw) rfl ⟨le_t rfl, le_t rfl⟩ ⟨le_t rfl, le_t rfl⟩ rfl (le_t rfl) fun z41 h40 => ?_
  refine mr_if_eq (pc := 13) (tgt := 28) dX11_differ_13 (by decide) (r32 h40.1 rfl) (fun h52 => ?_) (fun h52 => ?_)
  · have h53 : 0 ≤ z41 ∧ z41 ≤ 0 := (vc_X11_differ_7 h52 h40.2.1 h40.2.2.1 hp2 h36 h40.1)
    have h54 : p2 < 0 ∨ z1 ≤ p2 := (h40.2.2.1 (vc_X11_differ_8 h40.2.1 h40.2.2.1 h52 h3.1 h7.2.1 h7.2.2.1 h34 h35 hp2 h36 h53 h33))
    refine mr_ldc2 (pc := 28) (z := (-1)) dX11_differ_28 wH_X11_392 (by decide) ?_
    exact mr_lret dX11_differ_31 rfl (le_t rfl) (le_t rfl) hT mF.refl ⟨(rW (c := -9223372036854775808) (d := 9223372036854775807) (rR (x := (-1))) rfl), trivial⟩
  have h55 : 1 ≤ z41 ∧ z41 ≤ 1 := (vc_X11_differ_9 h52 h40.2.1 h40.2.2.1 hp2 h36 h40.1)
  have h56 : 0 ≤ p2 ∧ p2 < z1 := (h40.2.1 (vc_X11_differ_10 h40.2.1 h40.2.2.1 h52 h3.1 h7.2.1 h7.2.2.1 h34 h35 hp2 h36 h55 h33))
  have h57 : 0 ≤ p2 ∧ p2 ≤ 9 := (vc_X11_differ_11 h56 h3.1 h7.2.1 h7.2.2.1 h34 h40.2.1 h40.2.2.1 h35 hp2 h36 h55 h33)
  refine sv_aload_n (pc := 16) dX11_differ_16 rfl rfl ?_
  refine gf_X11_8 (pc := 17) dX11_differ_17 wF_X11_65 (A_0 hw) hT ?_
  refine mr_iload_n (pc := 20) (z := p1) dX11_differ_20 rfl rfl ?_
  refine mr_iload_n (pc := 21) (z := p2) dX11_differ_21 rfl rfl ?_
  refine mr_cVJ (pc := 22) (c_X2_unlikeAddresses hw hT h35 h57 (vc_X11_differ_12 h3.1 h7.2.1 h7.2.2.1 h34 h30 h40.2.1 h40.2.2.1 h56 h35 h57 h36 h55 h33) (vc_X11_differ_13 h3.1 h40.2.1 h40.2.2.1 h56 h7.2.1 h7.2.2.1 h34 h52 h35 h57 h36 h55 h33)) (gOk _ _ _ _ _) dX11_differ_22 (tX2_unlikeAddresses _ _ _ _ _) ⟨wV_X2_unlikeAddresses, wL_X2_unlikeAddresses⟩ wM_X11_388 (gCX2 _ _ _ _ _) rfl (A_87 hw) rfl ⟨le_t rfl, le_t rfl⟩ ⟨le_t rfl, le_t rfl⟩ rfl (le_t rfl) fun z62 μ58 T59 F60 h61 => ?_
  refine sv_goto (pc := 25) (tgt := 31) dX11_differ_25 (by decide) ?_
  exact mr_lret dX11_differ_31 rfl (le_t rfl) (le_t rfl) T59 (mF.call mF.refl F60 rfl) ⟨h61.1, trivial⟩
set_option maxRecDepth 4000 in
set_option maxHeartbeats 4000000 in
theorem c_X3_pairAt {l : Launch} {D : va_G} {c : Nat → ClassId} {H0 : Heap} {sa : Nat × Nat × (Nat → Int32)} {w : mW} {μ : mM} (hw : mWF w) (hT : mT w μ) {p1 : Int} (hp1 : 0 ≤ p1 ∧ p1 ≤ 998) (hIOC : OC μ) : sC (gG l D c H0 sa) mX3_pairAt 1 0 0 [.ref 76, iv p1] (mk w μ) (qP w μ (fun z => (0 ≤ z ∧ z ≤ 65535) ∧ True)) := by
  refine sC.of rfl (by decide) (le_t rfl) ?_
  refine mr_lvE (lv' := [(0, .ref 76), (1, iv p1)]) rfl ?_
  refine sv_aload_n (pc := 0) dX3_pairAt_0 rfl rfl ?_
  refine gf_X3_4 (pc := 1) dX3_pairAt_1 wF_X3_41 (A_76 hw) hT hIOC fun b1 q2 A3 => ?_
  refine mr_iload_n (pc := 4) (z := p1) dX3_pairAt_4 rfl rfl ?_
  refine la_1 (pc := 5) dX3_pairAt_5 A3 hT (rIx (n := 1000) hp1 rfl) fun z4 q5 h6 => ?_
  refine mr_bipush (pc := 6) (z := 8) dX3_pairAt_6 (by decide) ?_
  refine mr_ishl (pc := 8) (x := z4) (y := 8) dX3_pairAt_8 ?_
  refine mr_gen (P := fun z => 0 ≤ z ∧ z ≤ 65280) (rShl (k := 8) h6 rfl) fun z7 q8 h9 => ?_
  refine sv_aload_n (pc := 9) dX3_pairAt_9 rfl rfl ?_
  refine gk_X3_4 (pc := 10) dX3_pairAt_10 wF_X3_41 (A_76 hw) q2 ?_
  refine mr_iload_n (pc := 13) (z := p1) dX3_pairAt_13 rfl rfl ?_
  refine mr_iconst (pc := 14) (z := 1) dX3_pairAt_14 ?_
  refine mr_iadd (pc := 15) (x := p1) (y := 1) dX3_pairAt_15 ?_
  refine la_1 (pc := 16) dX3_pairAt_16 A3 hT (rIx (n := 1000) (rAdd (e := 1) (f := 999) hp1 (rR (x := 1)) rfl) rfl) fun z10 q11 h12 => ?_
  refine mr_ior (pc := 17) (x := z7) (y := z10) dX3_pairAt_17 ?_
  refine mr_gen (P := fun z => 0 ≤ z ∧ z ≤ 65535) (rOr 16 h9 h12 rfl) fun z13 q14 h15 => ?_
  exact mr_iretP dX3_pairAt_18 rfl (le_t rfl) (le_t rfl) ⟨h15, trivial⟩
set_option maxRecDepth 4000 in
set_option maxHeartbeats 4000000 in
theorem c_X3_fourAt {l : Launch} {D : va_G} {c : Nat → ClassId} {H0 : Heap} {sa : Nat × Nat × (Nat → Int32)} {w : mW} {μ : mM} (hw : mWF w) (hT : mT w μ) {p1 : Int} (hp1 : 0 ≤ p1 ∧ p1 ≤ 996) (hIOC : OC μ) : sC (gG l D c H0 sa) mX3_fourAt 2 0 0 [.ref 76, iv p1] (mk w μ) (qP w μ (fun z => ((-2147483648) ≤ z ∧ z ≤ 2147483647) ∧ True)) := by
  refine sC.of rfl (by decide) (le_t rfl) ?_
  refine mr_lvE (lv' := [(0, .ref 76), (1, iv p1)]) rfl ?_
  refine sv_aload_n (pc := 0) dX3_fourAt_0 rfl rfl ?_
  refine mr_iload_n (pc := 1) (z := p1) dX3_fourAt_1 rfl rfl ?_
  refine mr_cVP (pc := 2) (c_X3_pairAt hw hT (rW (c := 0) (d := 998) hp1 rfl) hIOC) (gOk _ _ _ _ _) dX3_fourAt_2 (tX3_pairAt _ _ _ _ _) ⟨wV_X3_pairAt, wL_X3_pairAt⟩ wM_X3_88 (gCX3 _ _ _ _ _) rfl (A_76 hw) rfl ⟨le_t rfl, le_t rfl⟩ ⟨le_t rfl, le_t rfl⟩ rfl (le_t rfl) fun z5 h4 => ?_
  refine mr_bipush (pc := 5) (z := 16) dX3_fourAt_5 (by decide) ?_
  refine mr_ishl (pc := 7) (x := z5) (y := 16) dX3_fourAt_7 ?_
  refine mr_gen (P := fun z => (-2147483648) ≤ z ∧ z ≤ 2147483647) (r32i _) fun z6 q7 h8 => ?_
  refine sv_aload_n (pc := 8) dX3_fourAt_8 rfl rfl ?_
  refine mr_iload_n (pc := 9) (z := p1) dX3_fourAt_9 rfl rfl ?_
  refine mr_iconst (pc := 10) (z := 2) dX3_fourAt_10 ?_
  refine mr_iadd (pc := 11) (x := p1) (y := 2) dX3_fourAt_11 ?_
  refine mr_cVP (pc := 12) (c_X3_pairAt hw hT (rW (c := 0) (d := 998) (rAdd (e := 2) (f := 998) hp1 (rR (x := 2)) rfl) rfl) hIOC) (gOk _ _ _ _ _) dX3_fourAt_12 (tX3_pairAt _ _ _ _ _) ⟨wV_X3_pairAt, wL_X3_pairAt⟩ wM_X3_88 (gCX3 _ _ _ _ _) rfl (A_76 hw) rfl ⟨le_t rfl, le_t rfl⟩ ⟨le_t rfl, le_t rfl⟩ rfl (le_t rfl) fun z13 h12 => ?_
  refine mr_ior (pc := 15) (x := z6) (y := z13) dX3_fourAt_15 ?_
  refine mr_gen (P := fun z => (-2147483648) ≤ z ∧ z ≤ 2147483647) (r32i _) fun z14 q15 h16 => ?_
  exact mr_iretP dX3_fourAt_16 rfl (le_t rfl) (le_t rfl) ⟨h16, trivial⟩
theorem vc_X3_readPrefixes_1 {z1702 : Int} (h0 : (1001 - z1702) < ((0 : Nat) : Int)) (h1 : 0 ≤ z1702 ∧ z1702 ≤ 1000) : False := by omega
theorem vc_X3_readPrefixes_2 {p3 z1701 : Int} (h0 : z1701 + p3 ≤ 1000) (h1 : 0 ≤ p3 ∧ p3 ≤ 1000) (h2 : 0 ≤ z1701 ∧ z1701 ≤ 1000) : z1701 + p3 ≤ 1000 := by omega
theorem vc_X3_readPrefixes_3 {p2 z1702 : Int} (h0 : z1702 < p2) (h1 : 0 ≤ p2 ∧ p2 ≤ 1000) (h2 : 0 ≤ z1702 ∧ z1702 ≤ 1000) : 0 ≤ z1702 ∧ z1702 ≤ 999 := by omega
theorem vc_X3_readPrefixes_4 {p2 z1702 : Int} (h0 : z1702 < p2) (h1 : 0 ≤ p2 ∧ p2 ≤ 1000) (h2 : 0 ≤ z1702 ∧ z1702 ≤ 999) : 1 ≤ p2 ∧ p2 ≤ 1000 := by omega
theorem vc_X3_readPrefixes_5  : (0 : Int) < (8 : Int) ∧ (8 : Int) ≤ (2147483647 : Int) := by omega
theorem vc_X3_readPrefixes_6 {z1720 z1723 : Int} (h0 : 32 < z1720) (h1 : (z1720 + 7) / 8 = z1723) (h2 : 0 ≤ z1720 ∧ z1720 ≤ 255) (h3 : 0 ≤ z1723 ∧ z1723 ≤ 32) : 33 ≤ z1720 ∧ z1720 ≤ 255 := by omega
theorem vc_X3_readPrefixes_7 {z1720 z1723 : Int} (h0 : z1720 ≤ 32) (h1 : (z1720 + 7) / 8 = z1723) (h2 : 0 ≤ z1720 ∧ z1720 ≤ 255) (h3 : 0 ≤ z1723 ∧ z1723 ≤ 32) : 0 ≤ z1720 ∧ z1720 ≤ 32 := by omega
theorem vc_X3_readPrefixes_8 {p3 z1701 : Int} (h0 : (p3 + z1701) < 1000) (h1 : z1701 + p3 ≤ 1000) (h2 : 0 ≤ p3 ∧ p3 ≤ 1000) (h3 : 0 ≤ z1701 ∧ z1701 ≤ 1000) : 0 ≤ p3 ∧ p3 ≤ 999 := by omega
theorem vc_X3_readPrefixes_9 {p3 z1701 : Int} (h0 : (p3 + z1701) < 1000) (h1 : z1701 + p3 ≤ 1000) (h2 : 0 ≤ p3 ∧ p3 ≤ 999) (h3 : 0 ≤ z1701 ∧ z1701 ≤ 1000) : 0 ≤ z1701 ∧ z1701 ≤ 999 := by omega
theorem vc_X3_readPrefixes_10 {z2173 : Int} (h0 : (33 - z2173) < ((0 : Nat) : Int)) (h1 : 0 ≤ z2173 ∧ z2173 ≤ 32) : False := by omega
theorem vc_X3_readPrefixes_11 {p3 z1701 : Int} (h0 : z1701 + p3 ≤ 1000) (h1 : (p3 + z1701) < 1000) (h2 : 0 ≤ p3 ∧ p3 ≤ 999) (h3 : 0 ≤ z1701 ∧ z1701 ≤ 999) : 0 ≤ (p3 + z1701) ∧ (p3 + z1701) < 1000 := by omega
theorem vc_X3_readPrefixes_12 {p2 z1702 z1720 z1723 z2173 : Int} (h0 : z1702 < p2) (h1 : (z1720 + 7) / 8 = z1723) (h2 : ((z1702 + 1) + z1723) ≤ p2) (h3 : z1723 ≤ z2173) (h4 : z1720 ≤ 32) (h5 : 1 ≤ p2 ∧ p2 ≤ 1000) (h6 : 0 ≤ z1702 ∧ z1702 ≤ 999) (h7 : 0 ≤ z1720 ∧ z1720 ≤ 32) (h8 : 0 ≤ z1723 ∧ z1723 ≤ 32) (h9 : 0 ≤ z2173 ∧ z2173 ≤ 32) : 0 ≤ (z1702 + (1 + z1723)) ∧ (z1702 + (1 + z1723)) ≤ 1000 := by omega
theorem vc_X3_readPrefixes_13 {p3 z1701 : Int} (h0 : z1701 + p3 ≤ 1000) (h1 : (p3 + z1701) < 1000) (h2 : 0 ≤ p3 ∧ p3 ≤ 999) (h3 : 0 ≤ z1701 ∧ z1701 ≤ 999) : (z1701 + 1) + p3 ≤ 1000 := by omega
theorem vc_X3_readPrefixes_14 {N p2 z1702 z1720 z1723 z2173 : Int} (h0 : (1001 - z1702) < N + 1) (h1 : z1702 < p2) (h2 : (z1720 + 7) / 8 = z1723) (h3 : ((z1702 + 1) + z1723) ≤ p2) (h4 : z1723 ≤ z2173) (h5 : z1720 ≤ 32) (h6 : 1 ≤ p2 ∧ p2 ≤ 1000) (h7 : 0 ≤ z1702 ∧ z1702 ≤ 999) (h8 : 0 ≤ z1720 ∧ z1720 ≤ 32) (h9 : 0 ≤ z1723 ∧ z1723 ≤ 32) (h10 : 0 ≤ z2173 ∧ z2173 ≤ 32) : (1001 - (z1702 + (1 + z1723))) < N := by omega
theorem vc_X3_readPrefixes_15 {p2 z1702 z1720 z1723 z2173 : Int} (h0 : z2173 < z1723) (h1 : (z1720 + 7) / 8 = z1723) (h2 : ((z1702 + 1) + z1723) ≤ p2) (h3 : 1 ≤ p2 ∧ p2 ≤ 1000) (h4 : 0 ≤ z1702 ∧ z1702 ≤ 999) (h5 : 0 ≤ z1720 ∧ z1720 ≤ 32) (h6 : 0 ≤ z1723 ∧ z1723 ≤ 32) (h7 : 0 ≤ z2173 ∧ z2173 ≤ 32) : 0 ≤ z2173 ∧ z2173 ≤ 31 := by omega
theorem vc_X3_readPrefixes_16 {p2 z1702 z1720 z1723 z2173 : Int} (h0 : z2173 < z1723) (h1 : (z1720 + 7) / 8 = z1723) (h2 : ((z1702 + 1) + z1723) ≤ p2) (h3 : 1 ≤ p2 ∧ p2 ≤ 1000) (h4 : 0 ≤ z1702 ∧ z1702 ≤ 999) (h5 : 0 ≤ z1720 ∧ z1720 ≤ 32) (h6 : 0 ≤ z1723 ∧ z1723 ≤ 32) (h7 : 0 ≤ z2173 ∧ z2173 ≤ 31) : 1 ≤ z1723 ∧ z1723 ≤ 32 := by omega
theorem vc_X3_readPrefixes_17 {p2 z1702 z1720 z1723 z2173 : Int} (h0 : z1702 < p2) (h1 : ((z1702 + 1) + z1723) ≤ p2) (h2 : z2173 < z1723) (h3 : (z1720 + 7) / 8 = z1723) (h4 : 1 ≤ p2 ∧ p2 ≤ 1000) (h5 : 0 ≤ z1702 ∧ z1702 ≤ 999) (h6 : 0 ≤ z1720 ∧ z1720 ≤ 32) (h7 : 1 ≤ z1723 ∧ z1723 ≤ 32) (h8 : 0 ≤ z2173 ∧ z2173 ≤ 31) : 0 ≤ ((z1702 + 1) + z2173) ∧ ((z1702 + 1) + z2173) < 1000 := by omega
theorem vc_X3_readPrefixes_18 {N p2 z1702 z1720 z1723 z2173 : Int} (h0 : (33 - z2173) < N + 1) (h1 : z2173 < z1723) (h2 : (z1720 + 7) / 8 = z1723) (h3 : ((z1702 + 1) + z1723) ≤ p2) (h4 : 1 ≤ p2 ∧ p2 ≤ 1000) (h5 : 0 ≤ z1702 ∧ z1702 ≤ 999) (h6 : 0 ≤ z1720 ∧ z1720 ≤ 32) (h7 : 1 ≤ z1723 ∧ z1723 ≤ 32) (h8 : 0 ≤ z2173 ∧ z2173 ≤ 31) : (33 - (z2173 + 1)) < N := by omega
theorem vc_X3_readPrefixes_19  : (33 - 0) < ((34 : Nat) : Int) := by omega
theorem vc_X3_readPrefixes_20 {p3 z1701 : Int} (h0 : z1701 + p3 ≤ 1000) (h1 : 1000 ≤ (p3 + z1701)) (h2 : 0 ≤ p3 ∧ p3 ≤ 1000) (h3 : 0 ≤ z1701 ∧ z1701 ≤ 1000) : z1701 + p3 ≤ 1000 := by omega
theorem vc_X3_readPrefixes_21 {p3 : Int} (h0 : 0 ≤ p3 ∧ p3 ≤ 1000) : (0 : Int) + p3 ≤ 1000 := by omega
theorem vc_X3_readPrefixes_22 {p1 : Int} (h0 : 0 ≤ p1 ∧ p1 ≤ 1000) : (1001 - p1) < ((1002 : Nat) : Int) := by omega
set_option maxRecDepth 4000 in
set_option maxHeartbeats 4000000 in
theorem c_X3_readPrefixes {l : Launch} {D : va_G} {c : Nat → ClassId} {H0 : Heap} {sa : Nat × Nat × (Nat → Int32)} {w : mW} {μ : mM} (hw : mWF w) (hT : mT w μ) {p1 : Int} (hp1 : 0 ≤ p1 ∧ p1 ≤ 1000) {p2 : Int} (hp2 : 0 ≤ p2 ∧ p2 ≤ 1000) {p3 : Int} (hp3 : 0 ≤ p3 ∧ p3 ≤ 1000) (hIOC : OC μ) : sC (gG l D c H0 sa) mX3_readPrefixes 2 0 0 [.ref 76, iv p1, iv p2, iv p3] (mk w μ) (qI w [80999, 84999, 85999] μ (fun z μ1 => (0 ≤ z ∧ z ≤ 1000) ∧ (z + p3 ≤ 1000) ∧ True)) := by
  refine sC.of rfl (by decide) (le_t rfl) ?_
  refine mr_lvE (lv' := [(0, .ref 76), (1, iv p1), (2, iv p2), (3, iv p3)]) rfl ?_
  refine mr_iload_n (pc := 0) (z := p1) dX3_readPrefixes_0 rfl rfl ?_
  refine mr_istore (pc := 1) (lv' := [(4, iv p1), (0, .ref 76), (1, iv p1), (2, iv p2), (3, iv p3)]) dX3_readPrefixes_1 (by decide) rfl ?_
  refine mr_iconst (pc := 3) (z := 0) dX3_readPrefixes_3 ?_
  refine mr_istore (pc := 4) (lv' := [(5, iv 0), (4, iv p1), (0, .ref 76), (1, iv p1), (2, iv p2), (3, iv p3)]) dX3_readPrefixes_4 (by decide) rfl ?_
  have L1704 : ∀ (nL1704 : Nat) (z1702 z1701 : Int) (μ1703 : mM), mT w μ1703 → mF [84999, 85999] w μ μ1703 → (0 ≤ z1702 ∧ z1702 ≤ 1000) → (0 ≤ z1701 ∧ z1701 ≤ 1000) → (z1701 + p3 ≤ 1000) → OC μ1703 → (1001 - z1702) < (nL1704 : Int) → sV (gG l D c H0 sa) mX3_readPrefixes (sRm 2 0 0) (sZ (gG l D c H0 sa) 0 0 (qI w [80999, 84999, 85999] μ (fun z μ1 => (0 ≤ z ∧ z ≤ 1000) ∧ (z + p3 ≤ 1000) ∧ True))) 6 [(0, .ref 76), (2, iv p2), (3, iv p3), (4, iv z1702), (5, iv z1701)] [] (mk w μ1703) 0 0 := by
    intro nL1704
    induction nL1704 with
    | zero => intro z1702 z1701 μ1703 T1707 F1708 h1705 h1706 h1710 I1711 h1712; exact ((vc_X3_readPrefixes_1 h1712 h1705)).elim
    | succ nL1704 ih1713 =>
      intro z1702 z1701 μ1703 T1707 F1708 h1705 h1706 h1710 I1711 h1712
      refine mr_iload (pc := 6) (z := z1702) dX3_readPrefixes_6 rfl ?_
      refine mr_iload_n (pc := 8) (z := p2) dX3_readPrefixes_8 rfl rfl ?_
      refine mr_icmp_ge (pc := 9) (tgt := 157) dX3_readPrefixes_9 (by decide) (r32 h1705 rfl) (r32 hp2 rfl) (fun h1714 => ?_) (fun h1714 => ?_)
      · refine mr_iload (pc := 157) (z := z1701) dX3_readPrefixes_157 rfl ?_
        exact mr_iret dX3_readPrefixes_159 rfl (le_t rfl) (le_t rfl) T1707 (mF.call mF.refl F1708 rfl) ⟨h1706, (vc_X3_readPrefixes_2 h1710 hp3 h1706), trivial⟩
      have h1715 : 0 ≤ z1702 ∧ z1702 ≤ 999 := (vc_X3_readPrefixes_3 h1714 hp2 h1705)
      have h1716 : 1 ≤ p2 ∧ p2 ≤ 1000 := (vc_X3_readPrefixes_4 h1714 hp2 h1715)
      refine sv_aload_n (pc := 12) dX3_readPrefixes_12 rfl rfl ?_
      refine gf_X3_4 (pc := 13) dX3_readPrefixes_13 wF_X3_41 (A_76 hw) T1707 I1711 fun b1717 q1718 A1719 => ?_
      refine mr_iload (pc := 16) (z := z1702) dX3_readPrefixes_16 rfl ?_
      refine la_1 (pc := 18) dX3_readPrefixes_18 A1719 T1707 (rIx (n := 1000) h1715 rfl) fun z1720 q1721 h1722 => ?_
      refine mr_istore (pc := 19) (lv' := [(6, iv z1720), (0, .ref 76), (2, iv p2), (3, iv p3), (4, iv z1702), (5, iv z1701)]) dX3_readPrefixes_19 (by decide) rfl ?_
      refine mr_iload (pc := 21) (z := z1720) dX3_readPrefixes_21 rfl ?_
      refine mr_bipush (pc := 23) (z := 7) dX3_readPrefixes_23 (by decide) ?_
      refine mr_iadd (pc := 25) (x := z1720) (y := 7) dX3_readPrefixes_25 ?_
      refine mr_bipush (pc := 26) (z := 8) dX3_readPrefixes_26 (by decide) ?_
      refine mr_idiv (pc := 28) (x := (z1720 + 7)) (y := 8) dX3_readPrefixes_28 (rW (c := 0) (d := 2147483647) (rAdd (e := 7) (f := 262) h1722 (rR (x := 7)) rfl) rfl) vc_X3_readPrefixes_5 ?_
      refine mr_gen (P := fun z => 0 ≤ z ∧ z ≤ 32) (rDiv (rAdd (e := 7) (f := 262) h1722 (rR (x := 7)) rfl) rfl) fun z1723 q1724 h1725 => ?_
      refine mr_istore (pc := 29) (lv' := [(7, iv z1723), (6, iv z1720), (0, .ref 76), (2, iv p2), (3, iv p3), (4, iv z1702), (5, iv z1701)]) dX3_readPrefixes_29 (by decide) rfl ?_
      refine mr_iload (pc := 31) (z := z1720) dX3_readPrefixes_31 rfl ?_
      refine mr_bipush (pc := 33) (z := 32) dX3_readPrefixes_33 (by decide) ?_
      refine mr_icmp_gt (pc := 35) (tgt := 59) dX3_readPrefixes_35 (by decide) (r32 h1722 rfl) (r32 (rR (x := 32)) rfl) (fun h1726 => ?_) (fun h1726 => ?_)
      · have h1727 : 33 ≤ z1720 ∧ z1720 ≤ 255 := (vc_X3_readPrefixes_6 h1726 q1724 h1722 h1725)
        refine sv_aload_n (pc := 59) dX3_readPrefixes_59 rfl rfl ?_
        refine mr_iconst (pc := 60) (z := 1) dX3_readPrefixes_60 ?_
        refine mr_iload (pc := 61) (z := z1702) dX3_readPrefixes_61 rfl ?_
        refine mr_cVV (pc := 63) (c_X3_note hw T1707 (rW (c := 0) (d := 3) (rR (x := 1)) rfl) (rW (c := (-2147483648)) (d := 2147483647) h1715 rfl)) (gOk _ _ _ _ _) dX3_readPrefixes_63 (tX3_note _ _ _ _ _) ⟨wV_X3_note, wL_X3_note⟩ wM_X3_92 (gCX3 _ _ _ _ _) rfl (A_76 hw) rfl ⟨le_t rfl, le_t rfl⟩ ⟨le_t rfl, le_t rfl⟩ rfl (le_t rfl) fun μ1728 T1729 F1730 h1731 => ?_
        refine mr_iload (pc := 66) (z := z1701) dX3_readPrefixes_66 rfl ?_
        exact mr_iret dX3_readPrefixes_68 rfl (le_t rfl) (le_t rfl) T1729 (mF.call (mF.call mF.refl F1708 rfl) F1730 rfl) ⟨h1706, (vc_X3_readPrefixes_2 h1710 hp3 h1706), trivial⟩
      have h1732 : 0 ≤ z1720 ∧ z1720 ≤ 32 := (vc_X3_readPrefixes_7 h1726 q1724 h1722 h1725)
      refine mr_iload (pc := 38) (z := z1702) dX3_readPrefixes_38 rfl ?_
      refine mr_iconst (pc := 40) (z := 1) dX3_readPrefixes_40 ?_
      refine mr_iadd (pc := 41) (x := z1702) (y := 1) dX3_readPrefixes_41 ?_
      refine mr_iload (pc := 42) (z := z1723) dX3_readPrefixes_42 rfl ?_
      refine mr_iadd (pc := 44) (x := (z1702 + 1)) (y := z1723) dX3_readPrefixes_44 ?_
      refine mr_iload_n (pc := 45) (z := p2) dX3_readPrefixes_45 rfl rfl ?_
      refine mr_icmp_gt (pc := 46) (tgt := 59) dX3_readPrefixes_46 (by decide) (r32 (rAdd (e := 1) (f := 1032) (rAdd (e := 1) (f := 1000) h1715 (rR (x := 1)) rfl) h1725 rfl) rfl) (r32 h1716 rfl) (fun h1733 => ?_) (fun h1733 => ?_)
      · refine sv_aload_n (pc := 59) dX3_readPrefixes_59 rfl rfl ?_
        refine mr_iconst (pc := 60) (z := 1) dX3_readPrefixes_60 ?_
        refine mr_iload (pc := 61) (z := z1702) dX3_readPrefixes_61 rfl ?_
        refine mr_cVV (pc := 63) (c_X3_note hw T1707 (rW (c := 0) (d := 3) (rR (x := 1)) rfl) (rW (c := (-2147483648)) (d := 2147483647) h1715 rfl)) (gOk _ _ _ _ _) dX3_readPrefixes_63 (tX3_note _ _ _ _ _) ⟨wV_X3_note, wL_X3_note⟩ wM_X3_92 (gCX3 _ _ _ _ _) rfl (A_76 hw) rfl ⟨le_t rfl, le_t rfl⟩ ⟨le_t rfl, le_t rfl⟩ rfl (le_t rfl) fun μ1734 T1735 F1736 h1737 => ?_
        refine mr_iload (pc := 66) (z := z1701) dX3_readPrefixes_66 rfl ?_
        exact mr_iret dX3_readPrefixes_68 rfl (le_t rfl) (le_t rfl) T1735 (mF.call (mF.call mF.refl F1708 rfl) F1736 rfl) ⟨h1706, (vc_X3_readPrefixes_2 h1710 hp3 h1706), trivial⟩
      refine mr_iload_n (pc := 49) (z := p3) dX3_readPrefixes_49 rfl rfl ?_
      refine mr_iload (pc := 50) (z := z1701) dX3_readPrefixes_50 rfl ?_
      refine mr_iadd (pc := 52) (x := p3) (y := z1701) dX3_readPrefixes_52 ?_
      refine mr_sipush (pc := 53) (z := 1000) dX3_readPrefixes_53 (by decide) ?_
      refine mr_icmp_lt (pc := 56) (tgt := 69) dX3_readPrefixes_56 (by decide) (r32 (rAdd (e := 0) (f := 2000) hp3 h1706 rfl) rfl) (r32 (rR (x := 1000)) rfl) (fun h1738 => ?_) (fun h1738 => ?_)
      · have h1739 : 0 ≤ p3 ∧ p3 ≤ 999 := (vc_X3_readPrefixes_8 h1738 h1710 hp3 h1706)
        have h1740 : 0 ≤ z1701 ∧ z1701 ≤ 999 := (vc_X3_readPrefixes_9 h1738 h1710 h1739 h1706)
        refine mr_iconst (pc := 69) (z := 0) dX3_readPrefixes_69 ?_
        refine mr_istore (pc := 70) (lv' := [(8, iv 0), (7, iv z1723), (6, iv z1720), (0, .ref 76), (2, iv p2), (3, iv p3), (4, iv z1702), (5, iv z1701)]) dX3_readPrefixes_70 (by decide) rfl ?_
        refine mr_iconst (pc := 72) (z := 0) dX3_readPrefixes_72 ?_
        refine mr_istore (pc := 73) (lv' := [(9, iv 0), (8, iv 0), (7, iv z1723), (6, iv z1720), (0, .ref 76), (2, iv p2), (3, iv p3), (4, iv z1702), (5, iv z1701)]) dX3_readPrefixes_73 (by decide) rfl ?_
        have L2175 : ∀ (nL2175 : Nat) (z2174 z2173 : Int), True → ((-2147483648) ≤ z2174 ∧ z2174 ≤ 2147483647) → (0 ≤ z2173 ∧ z2173 ≤ 32) → (33 - z2173) < (nL2175 : Int) → sV (gG l D c H0 sa) mX3_readPrefixes (sRm 2 0 0) (sZ (gG l D c H0 sa) 0 0 (qI w [80999, 84999, 85999] μ (fun z μ1 => (0 ≤ z ∧ z ≤ 1000) ∧ (z + p3 ≤ 1000) ∧ True))) 75 [(0, .ref 76), (2, iv p2), (3, iv p3), (4, iv z1702), (5, iv z1701), (6, iv z1720), (7, iv z1723), (8, iv z2174), (9, iv z2173)] [] (mk w μ1703) 0 0 := by
          intro nL2175
          induction nL2175 with
          | zero => intro z2174 z2173 _ h2176 h2177 h2181; exact ((vc_X3_readPrefixes_10 h2181 h2177)).elim
          | succ nL2175 ih2182 =>
            intro z2174 z2173 _ h2176 h2177 h2181
            refine mr_iload (pc := 75) (z := z2173) dX3_readPrefixes_75 rfl ?_
            refine mr_iload (pc := 77) (z := z1723) dX3_readPrefixes_77 rfl ?_
            refine mr_icmp_ge (pc := 79) (tgt := 114) dX3_readPrefixes_79 (by decide) (r32 h2177 rfl) (r32 h1725 rfl) (fun h2194 => ?_) (fun h2194 => ?_)
            · refine sv_aload_n (pc := 114) dX3_readPrefixes_114 rfl rfl ?_
              refine gf_X3_10 (pc := 115) dX3_readPrefixes_115 wF_X3_32 (A_76 hw) T1707 ?_
              refine mr_iload_n (pc := 118) (z := p3) dX3_readPrefixes_118 rfl rfl ?_
              refine mr_iload (pc := 119) (z := z1701) dX3_readPrefixes_119 rfl ?_
              refine mr_iadd (pc := 121) (x := p3) (y := z1701) dX3_readPrefixes_121 ?_
              refine mr_iload (pc := 122) (z := z2174) dX3_readPrefixes_122 rfl ?_
              refine mr_iload (pc := 124) (z := z1720) dX3_readPrefixes_124 rfl ?_
              refine mr_cSP (pc := 126) (c_X10_maskOf hw T1707 (rW (c := (-2147483648)) (d := 2147483647) h1732 rfl)) (gOk _ _ _ _ _) dX3_readPrefixes_126 (tX10_maskOf _ _ _ _ _) wS_X10_maskOf wM_X3_102 ⟨le_t rfl, le_t rfl⟩ ⟨le_t rfl, le_t rfl⟩ rfl (le_t rfl) fun z2199 h2198 => ?_
              refine mr_iand (pc := 129) (x := z2174) (y := z2199) dX3_readPrefixes_129 ?_
              refine mr_gen (P := fun z => (-2147483648) ≤ z ∧ z ≤ 2147483647) (r32i _) fun z2200 q2201 h2202 => ?_
              refine ss_84 (pc := 130) dX3_readPrefixes_130 (A_84 hw) T1707 (vc_X3_readPrefixes_11 h1710 h1738 h1739 h1740) h2202 fun μ2203 u2204 T2205 => ?_
              refine sv_aload_n (pc := 131) dX3_readPrefixes_131 rfl rfl ?_
              refine gf_X3_11 (pc := 132) dX3_readPrefixes_132 wF_X3_35 (A_76 hw) T2205 ?_
              refine mr_iload_n (pc := 135) (z := p3) dX3_readPrefixes_135 rfl rfl ?_
              refine mr_iload (pc := 136) (z := z1701) dX3_readPrefixes_136 rfl ?_
              refine mr_iadd (pc := 138) (x := p3) (y := z1701) dX3_readPrefixes_138 ?_
              refine mr_iload (pc := 139) (z := z1720) dX3_readPrefixes_139 rfl ?_
              refine ss_85 (pc := 141) dX3_readPrefixes_141 (A_85 hw) T2205 (vc_X3_readPrefixes_11 h1710 h1738 h1739 h1740) (rW (c := (-2147483648)) (d := 2147483647) h1732 rfl) fun μ2206 u2207 T2208 => ?_
              refine mr_iinc (pc := 142) (lv' := [(5, iv (z1701 + 1)), (0, .ref 76), (2, iv p2), (3, iv p3), (4, iv z1702), (6, iv z1720), (7, iv z1723), (8, iv z2174), (9, iv z2173)]) dX3_readPrefixes_142 rfl (by decide) rfl ?_
              refine mr_iload (pc := 145) (z := z1702) dX3_readPrefixes_145 rfl ?_
              refine mr_iconst (pc := 147) (z := 1) dX3_readPrefixes_147 ?_
              refine mr_iload (pc := 148) (z := z1723) dX3_readPrefixes_148 rfl ?_
              refine mr_iadd (pc := 150) (x := 1) (y := z1723) dX3_readPrefixes_150 ?_
              refine mr_iadd (pc := 151) (x := z1702) (y := (1 + z1723)) dX3_readPrefixes_151 ?_
              refine mr_istore (pc := 152) (lv' := [(4, iv (z1702 + (1 + z1723))), (5, iv (z1701 + 1)), (0, .ref 76), (2, iv p2), (3, iv p3), (6, iv z1720), (7, iv z1723), (8, iv z2174), (9, iv z2173)]) dX3_readPrefixes_152 (by decide) rfl ?_
              refine sv_goto (pc := 154) (tgt := 6) dX3_readPrefixes_154 (by decide) ?_
              refine mr_lvS (lv' := [(0, .ref 76), (2, iv p2), (3, iv p3), (4, iv (z1702 + (1 + z1723))), (5, iv (z1701 + 1))]) (List.forall_mem_cons.mpr ⟨rfl, List.forall_mem_cons.mpr ⟨rfl, List.forall_mem_cons.mpr ⟨rfl, List.forall_mem_cons.mpr ⟨rfl, List.forall_mem_cons.mpr ⟨rfl, fun _ h => absurd h List.not_mem_nil⟩⟩⟩⟩⟩) ?_
              exact ih1713 (z1702 + (1 + z1723)) (z1701 + 1) μ2206 T2208 (mF.up (mF.up (mF.call mF.refl F1708 rfl) (A_84 hw) u2204 rfl) (A_85 hw) u2207 rfl) (vc_X3_readPrefixes_12 h1714 q1724 h1733 h2194 h1726 h1716 h1715 h1732 h1725 h2177) (rW (c := 0) (d := 1000) (rAdd (e := 1) (f := 1000) h1740 (rR (x := 1)) rfl) rfl) (vc_X3_readPrefixes_13 h1710 h1738 h1739 h1740) (OC.keep I1711 hw ((mF.up (mF.up mF.refl (A_84 hw) u2204 rfl) (A_85 hw) u2207 rfl) : mF [84999, 85999] w μ1703 μ2206) rfl) (vc_X3_readPrefixes_14 (nS h1712) h1714 q1724 h1733 h2194 h1726 h1716 h1715 h1732 h1725 h2177)
            have h2209 : 0 ≤ z2173 ∧ z2173 ≤ 31 := (vc_X3_readPrefixes_15 h2194 q1724 h1733 h1716 h1715 h1732 h1725 h2177)
            have h2210 : 1 ≤ z1723 ∧ z1723 ≤ 32 := (vc_X3_readPrefixes_16 h2194 q1724 h1733 h1716 h1715 h1732 h1725 h2209)
            refine mr_iload (pc := 82) (z := z2174) dX3_readPrefixes_82 rfl ?_
            refine sv_aload_n (pc := 84) dX3_readPrefixes_84 rfl rfl ?_
            refine gk_X3_4 (pc := 85) dX3_readPrefixes_85 wF_X3_41 (A_76 hw) q1718 ?_
            refine mr_iload (pc := 88) (z := z1702) dX3_readPrefixes_88 rfl ?_
            refine mr_iconst (pc := 90) (z := 1) dX3_readPrefixes_90 ?_
            refine mr_iadd (pc := 91) (x := z1702) (y := 1) dX3_readPrefixes_91 ?_
            refine mr_iload (pc := 92) (z := z2173) dX3_readPrefixes_92 rfl ?_
            refine mr_iadd (pc := 94) (x := (z1702 + 1)) (y := z2173) dX3_readPrefixes_94 ?_
            refine la_1 (pc := 95) dX3_readPrefixes_95 A1719 T1707 (vc_X3_readPrefixes_17 h1714 h1733 h2194 q1724 h1716 h1715 h1732 h2210 h2209) fun z2211 q2212 h2213 => ?_
            refine mr_bipush (pc := 96) (z := 24) dX3_readPrefixes_96 (by decide) ?_
            refine mr_bipush (pc := 98) (z := 8) dX3_readPrefixes_98 (by decide) ?_
            refine mr_iload (pc := 100) (z := z2173) dX3_readPrefixes_100 rfl ?_
            refine mr_imul (pc := 102) (x := 8) (y := z2173) dX3_readPrefixes_102 ?_
            refine mr_isub (pc := 103) (x := 24) (y := (8 * z2173)) dX3_readPrefixes_103 ?_
            refine mr_ishl (pc := 104) (x := z2211) (y := (24 - (8 * z2173))) dX3_readPrefixes_104 ?_
            refine mr_gen (P := fun z => (-2147483648) ≤ z ∧ z ≤ 2147483647) (r32i _) fun z2214 q2215 h2216 => ?_
            refine mr_ior (pc := 105) (x := z2174) (y := z2214) dX3_readPrefixes_105 ?_
            refine mr_gen (P := fun z => (-2147483648) ≤ z ∧ z ≤ 2147483647) (r32i _) fun z2217 q2218 h2219 => ?_
            refine mr_istore (pc := 106) (lv' := [(8, iv z2217), (0, .ref 76), (2, iv p2), (3, iv p3), (4, iv z1702), (5, iv z1701), (6, iv z1720), (7, iv z1723), (9, iv z2173)]) dX3_readPrefixes_106 (by decide) rfl ?_
            refine mr_iinc (pc := 108) (lv' := [(9, iv (z2173 + 1)), (8, iv z2217), (0, .ref 76), (2, iv p2), (3, iv p3), (4, iv z1702), (5, iv z1701), (6, iv z1720), (7, iv z1723)]) dX3_readPrefixes_108 rfl (by decide) rfl ?_
            refine sv_goto (pc := 111) (tgt := 75) dX3_readPrefixes_111 (by decide) ?_
            refine mr_lvS (lv' := [(0, .ref 76), (2, iv p2), (3, iv p3), (4, iv z1702), (5, iv z1701), (6, iv z1720), (7, iv z1723), (8, iv z2217), (9, iv (z2173 + 1))]) (List.forall_mem_cons.mpr ⟨rfl, List.forall_mem_cons.mpr ⟨rfl, List.forall_mem_cons.mpr ⟨rfl, List.forall_mem_cons.mpr ⟨rfl, List.forall_mem_cons.mpr ⟨rfl, List.forall_mem_cons.mpr ⟨rfl, List.forall_mem_cons.mpr ⟨rfl, List.forall_mem_cons.mpr ⟨rfl, List.forall_mem_cons.mpr ⟨rfl, fun _ h => absurd h List.not_mem_nil⟩⟩⟩⟩⟩⟩⟩⟩⟩) ?_
            exact ih2182 z2217 (z2173 + 1) trivial h2219 (rW (c := 0) (d := 32) (rAdd (e := 1) (f := 32) h2209 (rR (x := 1)) rfl) rfl) (vc_X3_readPrefixes_18 (nS h2181) h2194 q1724 h1733 h1716 h1715 h1732 h2210 h2209)
        refine mr_lvS (lv' := [(0, .ref 76), (2, iv p2), (3, iv p3), (4, iv z1702), (5, iv z1701), (6, iv z1720), (7, iv z1723), (8, iv 0), (9, iv 0)]) (List.forall_mem_cons.mpr ⟨rfl, List.forall_mem_cons.mpr ⟨rfl, List.forall_mem_cons.mpr ⟨rfl, List.forall_mem_cons.mpr ⟨rfl, List.forall_mem_cons.mpr ⟨rfl, List.forall_mem_cons.mpr ⟨rfl, List.forall_mem_cons.mpr ⟨rfl, List.forall_mem_cons.mpr ⟨rfl, List.forall_mem_cons.mpr ⟨rfl, fun _ h => absurd h List.not_mem_nil⟩⟩⟩⟩⟩⟩⟩⟩⟩) ?_
        exact L2175 34 0 0 trivial (rW (c := (-2147483648)) (d := 2147483647) (rR (x := 0)) rfl) (rW (c := 0) (d := 32) (rR (x := 0)) rfl) vc_X3_readPrefixes_19
      refine sv_aload_n (pc := 59) dX3_readPrefixes_59 rfl rfl ?_
      refine mr_iconst (pc := 60) (z := 1) dX3_readPrefixes_60 ?_
      refine mr_iload (pc := 61) (z := z1702) dX3_readPrefixes_61 rfl ?_
      refine mr_cVV (pc := 63) (c_X3_note hw T1707 (rW (c := 0) (d := 3) (rR (x := 1)) rfl) (rW (c := (-2147483648)) (d := 2147483647) h1715 rfl)) (gOk _ _ _ _ _) dX3_readPrefixes_63 (tX3_note _ _ _ _ _) ⟨wV_X3_note, wL_X3_note⟩ wM_X3_92 (gCX3 _ _ _ _ _) rfl (A_76 hw) rfl ⟨le_t rfl, le_t rfl⟩ ⟨le_t rfl, le_t rfl⟩ rfl (le_t rfl) fun μ2220 T2221 F2222 h2223 => ?_
      refine mr_iload (pc := 66) (z := z1701) dX3_readPrefixes_66 rfl ?_
      exact mr_iret dX3_readPrefixes_68 rfl (le_t rfl) (le_t rfl) T2221 (mF.call (mF.call mF.refl F1708 rfl) F2222 rfl) ⟨h1706, (vc_X3_readPrefixes_20 h1710 h1738 hp3 h1706), trivial⟩
  refine mr_lvS (lv' := [(0, .ref 76), (2, iv p2), (3, iv p3), (4, iv p1), (5, iv 0)]) (List.forall_mem_cons.mpr ⟨rfl, List.forall_mem_cons.mpr ⟨rfl, List.forall_mem_cons.mpr ⟨rfl, List.forall_mem_cons.mpr ⟨rfl, List.forall_mem_cons.mpr ⟨rfl, fun _ h => absurd h List.not_mem_nil⟩⟩⟩⟩⟩) ?_
  exact L1704 1002 p1 0 μ hT mF.refl hp1 (rW (c := 0) (d := 1000) (rR (x := 0)) rfl) (vc_X3_readPrefixes_21 hp3) hIOC (vc_X3_readPrefixes_22 hp1)
theorem vc_X3_readOrigin_1 {p1 p2 : Int} (h0 : p2 = 1) (h1 : p1 + p2 ≤ 1000) (h2 : 0 ≤ p1 ∧ p1 ≤ 1000) (h3 : (-2147483648) ≤ p2 ∧ p2 ≤ 2147483647) : 1 ≤ p2 ∧ p2 ≤ 1 := by omega
theorem vc_X3_readOrigin_2 {p1 p2 : Int} (h0 : p1 + p2 ≤ 1000) (h1 : p2 = 1) (h2 : 0 ≤ p1 ∧ p1 ≤ 1000) (h3 : 1 ≤ p2 ∧ p2 ≤ 1) : 0 ≤ p1 ∧ p1 < 1000 := by omega
theorem vc_X3_readOrigin_3 {z6 : Int} (h0 : z6 ≤ 2) (h1 : 0 ≤ z6 ∧ z6 ≤ 255) : 0 ≤ z6 ∧ z6 ≤ 2 := by omega
theorem vc_X3_readOrigin_4 {z6 : Int} (h0 : 2 < z6) (h1 : 0 ≤ z6 ∧ z6 ≤ 255) : 3 ≤ z6 ∧ z6 ≤ 255 := by omega
set_option maxRecDepth 4000 in
set_option maxHeartbeats 4000000 in
theorem c_X3_readOrigin {l : Launch} {D : va_G} {c : Nat → ClassId} {H0 : Heap} {sa : Nat × Nat × (Nat → Int32)} {w : mW} {μ : mM} (hw : mWF w) (hT : mT w μ) {p1 : Int} (hp1 : 0 ≤ p1 ∧ p1 ≤ 1000) {p2 : Int} (hp2 : (-2147483648) ≤ p2 ∧ p2 ≤ 2147483647) (hq0 : p1 + p2 ≤ 1000) (hIOC : OC μ) : sC (gG l D c H0 sa) mX3_readOrigin 1 0 0 [.ref 76, iv p1, iv p2] (mk w μ) (qI w [200005] μ (fun z μ1 => (0 ≤ z ∧ z ≤ 1) ∧ True)) := by
  refine sC.of rfl (by decide) (le_t rfl) ?_
  refine mr_lvE (lv' := [(0, .ref 76), (1, iv p1), (2, iv p2)]) rfl ?_
  refine mr_iload_n (pc := 0) (z := p2) dX3_readOrigin_0 rfl rfl ?_
  refine mr_iconst (pc := 1) (z := 1) dX3_readOrigin_1 ?_
  refine mr_icmp_ne (pc := 2) (tgt := 15) dX3_readOrigin_2 (by decide) hp2 (r32 (rR (x := 1)) rfl) (fun h1 => ?_) (fun h1 => ?_)
  · refine mr_iconst (pc := 15) (z := 0) dX3_readOrigin_15 ?_
    exact mr_zret dX3_readOrigin_16 rfl (rW (c := 0) (d := 1) (rR (x := 0)) rfl) (le_t rfl) (le_t rfl) hT mF.refl ⟨(rW (c := 0) (d := 1) (rR (x := 0)) rfl), trivial⟩
  have h2 : 1 ≤ p2 ∧ p2 ≤ 1 := (vc_X3_readOrigin_1 h1 hq0 hp1 hp2)
  refine sv_aload_n (pc := 5) dX3_readOrigin_5 rfl rfl ?_
  refine gf_X3_4 (pc := 6) dX3_readOrigin_6 wF_X3_41 (A_76 hw) hT hIOC fun b3 q4 A5 => ?_
  refine mr_iload_n (pc := 9) (z := p1) dX3_readOrigin_9 rfl rfl ?_
  refine la_1 (pc := 10) dX3_readOrigin_10 A5 hT (vc_X3_readOrigin_2 hq0 h1 hp1 h2) fun z6 q7 h8 => ?_
  refine mr_iconst (pc := 11) (z := 2) dX3_readOrigin_11 ?_
  refine mr_icmp_le (pc := 12) (tgt := 17) dX3_readOrigin_12 (by decide) (r32 h8 rfl) (r32 (rR (x := 2)) rfl) (fun h9 => ?_) (fun h9 => ?_)
  · have h10 : 0 ≤ z6 ∧ z6 ≤ 2 := (vc_X3_readOrigin_3 h9 h8)
    refine sv_aload_n (pc := 17) dX3_readOrigin_17 rfl rfl ?_
    refine gf_X3_9 (pc := 18) dX3_readOrigin_18 wF_X3_28 (A_76 hw) hT ?_
    refine sv_aload_n (pc := 21) dX3_readOrigin_21 rfl rfl ?_
    refine gk_X3_4 (pc := 22) dX3_readOrigin_22 wF_X3_41 (A_76 hw) q4 ?_
    refine mr_iload_n (pc := 25) (z := p1) dX3_readOrigin_25 rfl rfl ?_
    refine lk_1 (pc := 26) dX3_readOrigin_26 A5 (vc_X3_readOrigin_2 hq0 h1 hp1 h2) q7 ?_
    refine pf_X7_5 (pc := 27) dX3_readOrigin_27 wF_X3_127 (A_81 hw) hT (rW (c := (-2147483648)) (d := 2147483647) h10 rfl) fun μ11 u12 T13 => ?_
    refine mr_iconst (pc := 30) (z := 1) dX3_readOrigin_30 ?_
    exact mr_zret dX3_readOrigin_31 rfl (rW (c := 0) (d := 1) (rR (x := 1)) rfl) (le_t rfl) (le_t rfl) T13 (mF.up mF.refl (A_81 hw) u12 rfl) ⟨(rW (c := 0) (d := 1) (rR (x := 1)) rfl), trivial⟩
  have h14 : 3 ≤ z6 ∧ z6 ≤ 255 := (vc_X3_readOrigin_4 h9 h8)
  refine mr_iconst (pc := 15) (z := 0) dX3_readOrigin_15 ?_
  exact mr_zret dX3_readOrigin_16 rfl (rW (c := 0) (d := 1) (rR (x := 0)) rfl) (le_t rfl) (le_t rfl) hT mF.refl ⟨(rW (c := 0) (d := 1) (rR (x := 0)) rfl), trivial⟩
theorem vc_X3_readCost_1 {p1 p2 : Int} (h0 : p2 = 4) (h1 : p1 + p2 ≤ 1000) (h2 : 0 ≤ p1 ∧ p1 ≤ 1000) (h3 : (-2147483648) ≤ p2 ∧ p2 ≤ 2147483647) : 4 ≤ p2 ∧ p2 ≤ 4 := by omega
theorem vc_X3_readCost_2 {p1 p2 : Int} (h0 : p1 + p2 ≤ 1000) (h1 : p2 = 4) (h2 : 0 ≤ p1 ∧ p1 ≤ 1000) (h3 : 4 ≤ p2 ∧ p2 ≤ 4) : 0 ≤ p1 ∧ p1 ≤ 996 := by omega
theorem vc_X3_readCost_3 {z7 : Int} (h0 : z7 < 0) (h1 : (-2147483648) ≤ z7 ∧ z7 ≤ 2147483647) : (-2147483648) ≤ z7 ∧ z7 ≤ (-1) := by omega
theorem vc_X3_readCost_4 {z7 : Int} (h0 : 0 ≤ z7) (h1 : (-2147483648) ≤ z7 ∧ z7 ≤ 2147483647) : 0 ≤ z7 ∧ z7 ≤ 2147483647 := by omega
theorem vc_X3_readCost_5 {z7 : Int} (h0 : z7 ≤ 1000000) (h1 : 0 ≤ z7) (h2 : 0 ≤ z7 ∧ z7 ≤ 2147483647) : 0 ≤ z7 ∧ z7 ≤ 1000000 := by omega
theorem vc_X3_readCost_6 {z7 : Int} (h0 : 1000000 < z7) (h1 : 0 ≤ z7) (h2 : 0 ≤ z7 ∧ z7 ≤ 2147483647) : 1000001 ≤ z7 ∧ z7 ≤ 2147483647 := by omega
set_option maxRecDepth 4000 in
set_option maxHeartbeats 4000000 in
theorem c_X3_readCost {l : Launch} {D : va_G} {c : Nat → ClassId} {H0 : Heap} {sa : Nat × Nat × (Nat → Int32)} {w : mW} {μ : mM} (hw : mWF w) (hT : mT w μ) {p1 : Int} (hp1 : 0 ≤ p1 ∧ p1 ≤ 1000) {p2 : Int} (hp2 : (-2147483648) ≤ p2 ∧ p2 ≤ 2147483647) (hq0 : p1 + p2 ≤ 1000) (hIOC : OC μ) : sC (gG l D c H0 sa) mX3_readCost 3 0 0 [.ref 76, iv p1, iv p2] (mk w μ) (qI w [200006] μ (fun z μ1 => (0 ≤ z ∧ z ≤ 1) ∧ True)) := by
  refine sC.of rfl (by decide) (le_t rfl) ?_
  refine mr_lvE (lv' := [(0, .ref 76), (1, iv p1), (2, iv p2)]) rfl ?_
  refine mr_iload_n (pc := 0) (z := p2) dX3_readCost_0 rfl rfl ?_
  refine mr_iconst (pc := 1) (z := 4) dX3_readCost_1 ?_
  refine mr_icmp_eq (pc := 2) (tgt := 7) dX3_readCost_2 (by decide) hp2 (r32 (rR (x := 4)) rfl) (fun h1 => ?_) (fun h1 => ?_)
  · have h2 : 4 ≤ p2 ∧ p2 ≤ 4 := (vc_X3_readCost_1 h1 hq0 hp1 hp2)
    refine sv_aload_n (pc := 7) dX3_readCost_7 rfl rfl ?_
    refine mr_iload_n (pc := 8) (z := p1) dX3_readCost_8 rfl rfl ?_
    refine mr_cVP (pc := 9) (c_X3_fourAt hw hT (vc_X3_readCost_2 hq0 h1 hp1 h2) hIOC) (gOk _ _ _ _ _) dX3_readCost_9 (tX3_fourAt _ _ _ _ _) ⟨wV_X3_fourAt, wL_X3_fourAt⟩ wM_X3_130 (gCX3 _ _ _ _ _) rfl (A_76 hw) rfl ⟨le_t rfl, le_t rfl⟩ ⟨le_t rfl, le_t rfl⟩ rfl (le_t rfl) fun z7 h6 => ?_
    refine mr_istore_n (pc := 12) (lv' := [(3, iv z7), (0, .ref 76), (1, iv p1), (2, iv p2)]) dX3_readCost_12 rfl (by decide) rfl ?_
    refine sv_aload_n (pc := 13) dX3_readCost_13 rfl rfl ?_
    refine gf_X3_9 (pc := 14) dX3_readCost_14 wF_X3_28 (A_76 hw) hT ?_
    refine mr_iload_n (pc := 17) (z := z7) dX3_readCost_17 rfl rfl ?_
    refine mr_if_lt (pc := 18) (tgt := 27) dX3_readCost_18 (by decide) h6.1 (fun h12 => ?_) (fun h12 => ?_)
    · have h13 : (-2147483648) ≤ z7 ∧ z7 ≤ (-1) := (vc_X3_readCost_3 h12 h6.1)
      refine mr_ldc (pc := 27) (z := 1000000) dX3_readCost_27 wG_X3_133 (by decide) ?_
      refine sv_goto (pc := 29) (tgt := 33) dX3_readCost_29 (by decide) ?_
      refine pf_X7_6 (pc := 33) dX3_readCost_33 wF_X3_134 (A_81 hw) hT (rW (c := (-2147483648)) (d := 2147483647) (rR (x := 1000000)) rfl) fun μ14 u15 T16 => ?_
      refine mr_iconst (pc := 36) (z := 1) dX3_readCost_36 ?_
      exact mr_zret dX3_readCost_37 rfl (rW (c := 0) (d := 1) (rR (x := 1)) rfl) (le_t rfl) (le_t rfl) T16 (mF.up mF.refl (A_81 hw) u15 rfl) ⟨(rW (c := 0) (d := 1) (rR (x := 1)) rfl), trivial⟩
    have h17 : 0 ≤ z7 ∧ z7 ≤ 2147483647 := (vc_X3_readCost_4 h12 h6.1)
    refine mr_iload_n (pc := 21) (z := z7) dX3_readCost_21 rfl rfl ?_
    refine mr_ldc (pc := 22) (z := 1000000) dX3_readCost_22 wG_X3_133 (by decide) ?_
    refine mr_icmp_le (pc := 24) (tgt := 32) dX3_readCost_24 (by decide) (r32 h17 rfl) (r32 (rR (x := 1000000)) rfl) (fun h20 => ?_) (fun h20 => ?_)
    · have h21 : 0 ≤ z7 ∧ z7 ≤ 1000000 := (vc_X3_readCost_5 h20 h12 h17)
      refine mr_iload_n (pc := 32) (z := z7) dX3_readCost_32 rfl rfl ?_
      refine pf_X7_6 (pc := 33) dX3_readCost_33 wF_X3_134 (A_81 hw) hT (rW (c := (-2147483648)) (d := 2147483647) h21 rfl) fun μ22 u23 T24 => ?_
      refine mr_iconst (pc := 36) (z := 1) dX3_readCost_36 ?_
      exact mr_zret dX3_readCost_37 rfl (rW (c := 0) (d := 1) (rR (x := 1)) rfl) (le_t rfl) (le_t rfl) T24 (mF.up mF.refl (A_81 hw) u23 rfl) ⟨(rW (c := 0) (d := 1) (rR (x := 1)) rfl), trivial⟩
    have h25 : 1000001 ≤ z7 ∧ z7 ≤ 2147483647 := (vc_X3_readCost_6 h20 h12 h17)
    refine mr_ldc (pc := 27) (z := 1000000) dX3_readCost_27 wG_X3_133 (by decide) ?_
    refine sv_goto (pc := 29) (tgt := 33) dX3_readCost_29 (by decide) ?_
    refine pf_X7_6 (pc := 33) dX3_readCost_33 wF_X3_134 (A_81 hw) hT (rW (c := (-2147483648)) (d := 2147483647) (rR (x := 1000000)) rfl) fun μ26 u27 T28 => ?_
    refine mr_iconst (pc := 36) (z := 1) dX3_readCost_36 ?_
    exact mr_zret dX3_readCost_37 rfl (rW (c := 0) (d := 1) (rR (x := 1)) rfl) (le_t rfl) (le_t rfl) T28 (mF.up mF.refl (A_81 hw) u27 rfl) ⟨(rW (c := 0) (d := 1) (rR (x := 1)) rfl), trivial⟩
  refine mr_iconst (pc := 5) (z := 0) dX3_readCost_5 ?_
  exact mr_zret dX3_readCost_6 rfl (rW (c := 0) (d := 1) (rR (x := 0)) rfl) (le_t rfl) (le_t rfl) hT mF.refl ⟨(rW (c := 0) (d := 1) (rR (x := 0)) rfl), trivial⟩
theorem vc_X3_readMarks_1  : (0 : Int) < (4 : Int) ∧ (4 : Int) ≤ (2147483647 : Int) := by omega
theorem vc_X3_readMarks_2 {p2 z1 : Int} (h0 : z1 = 0) (h1 : p2 % 4 = z1) (h2 : 0 ≤ p2 ∧ p2 ≤ 1000) (h3 : 0 ≤ z1 ∧ z1 ≤ 3) : 0 ≤ z1 ∧ z1 ≤ 0 := by omega
theorem vc_X3_readMarks_3 {p1 p2 z32 : Int} (h0 : (1001 - z32) < ((0 : Nat) : Int)) (h1 : (z32 - p1) % 4 = 0) (h2 : p1 ≤ z32) (h3 : p1 + p2 ≤ 1000) (h4 : 0 ≤ p1 ∧ p1 ≤ 1000) (h5 : 0 ≤ p2 ∧ p2 ≤ 1000) (h6 : 0 ≤ z32 ∧ z32 ≤ 1000) : False := by omega
theorem vc_X3_readMarks_4 {p1 p2 z1 z32 : Int} (h0 : (z32 - p1) % 4 = 0) (h1 : p1 ≤ z32) (h2 : z32 < (p1 + p2)) (h3 : p1 + p2 ≤ 1000) (h4 : p2 % 4 = z1) (h5 : 0 ≤ p1 ∧ p1 ≤ 1000) (h6 : 0 ≤ p2 ∧ p2 ≤ 1000) (h7 : 0 ≤ z1 ∧ z1 ≤ 0) (h8 : 0 ≤ z32 ∧ z32 ≤ 1000) : 0 ≤ (z32 + 2) ∧ (z32 + 2) ≤ 998 := by omega
theorem vc_X3_readMarks_5 {p1 p2 z1 z32 : Int} (h0 : (z32 - p1) % 4 = 0) (h1 : p1 ≤ z32) (h2 : z32 < (p1 + p2)) (h3 : p1 + p2 ≤ 1000) (h4 : p2 % 4 = z1) (h5 : 0 ≤ p1 ∧ p1 ≤ 1000) (h6 : 0 ≤ p2 ∧ p2 ≤ 1000) (h7 : 0 ≤ z1 ∧ z1 ≤ 0) (h8 : 0 ≤ z32 ∧ z32 ≤ 1000) : 0 ≤ (z32 + 4) ∧ (z32 + 4) ≤ 1000 := by omega
theorem vc_X3_readMarks_6 {p1 p2 z1 z32 : Int} (h0 : p1 + p2 ≤ 1000) (h1 : (z32 - p1) % 4 = 0) (h2 : p1 ≤ z32) (h3 : z32 < (p1 + p2)) (h4 : p2 % 4 = z1) (h5 : 0 ≤ p1 ∧ p1 ≤ 1000) (h6 : 0 ≤ p2 ∧ p2 ≤ 1000) (h7 : 0 ≤ z1 ∧ z1 ≤ 0) (h8 : 0 ≤ z32 ∧ z32 ≤ 1000) : ((z32 + 4) - p1) % 4 = 0 := by omega
theorem vc_X3_readMarks_7 {p1 p2 z1 z32 : Int} (h0 : p1 + p2 ≤ 1000) (h1 : (z32 - p1) % 4 = 0) (h2 : p1 ≤ z32) (h3 : z32 < (p1 + p2)) (h4 : p2 % 4 = z1) (h5 : 0 ≤ p1 ∧ p1 ≤ 1000) (h6 : 0 ≤ p2 ∧ p2 ≤ 1000) (h7 : 0 ≤ z1 ∧ z1 ≤ 0) (h8 : 0 ≤ z32 ∧ z32 ≤ 1000) : p1 ≤ (z32 + 4) := by omega
theorem vc_X3_readMarks_8 {N p1 p2 z1 z32 : Int} (h0 : (1001 - z32) < N + 1) (h1 : (z32 - p1) % 4 = 0) (h2 : p1 ≤ z32) (h3 : z32 < (p1 + p2)) (h4 : p1 + p2 ≤ 1000) (h5 : p2 % 4 = z1) (h6 : 0 ≤ p1 ∧ p1 ≤ 1000) (h7 : 0 ≤ p2 ∧ p2 ≤ 1000) (h8 : 0 ≤ z1 ∧ z1 ≤ 0) (h9 : 0 ≤ z32 ∧ z32 ≤ 1000) : (1001 - (z32 + 4)) < N := by omega
theorem vc_X3_readMarks_9 {p1 p2 z1 : Int} (h0 : p1 + p2 ≤ 1000) (h1 : p2 % 4 = z1) (h2 : 0 ≤ p1 ∧ p1 ≤ 1000) (h3 : 0 ≤ p2 ∧ p2 ≤ 1000) (h4 : 0 ≤ z1 ∧ z1 ≤ 0) : (p1 - p1) % 4 = 0 := by omega
theorem vc_X3_readMarks_10 {p1 p2 z1 : Int} (h0 : p1 + p2 ≤ 1000) (h1 : p2 % 4 = z1) (h2 : 0 ≤ p1 ∧ p1 ≤ 1000) (h3 : 0 ≤ p2 ∧ p2 ≤ 1000) (h4 : 0 ≤ z1 ∧ z1 ≤ 0) : p1 ≤ p1 := by omega
theorem vc_X3_readMarks_11 {p1 p2 z1 : Int} (h0 : p1 + p2 ≤ 1000) (h1 : p2 % 4 = z1) (h2 : 0 ≤ p1 ∧ p1 ≤ 1000) (h3 : 0 ≤ p2 ∧ p2 ≤ 1000) (h4 : 0 ≤ z1 ∧ z1 ≤ 0) : (1001 - p1) < ((1002 : Nat) : Int) := by omega
theorem vc_X3_readMarks_12 {p2 z1 : Int} (h0 : ¬ z1 = 0) (h1 : p2 % 4 = z1) (h2 : 0 ≤ p2 ∧ p2 ≤ 1000) (h3 : 0 ≤ z1 ∧ z1 ≤ 3) : 1 ≤ z1 ∧ z1 ≤ 3 := by omega
set_option maxRecDepth 4000 in
set_option maxHeartbeats 4000000 in
theorem c_X3_readMarks {l : Launch} {D : va_G} {c : Nat → ClassId} {H0 : Heap} {sa : Nat × Nat × (Nat → Int32)} {w : mW} {μ : mM} (hw : mWF w) (hT : mT w μ) {p1 : Int} (hp1 : 0 ≤ p1 ∧ p1 ≤ 1000) {p2 : Int} (hp2 : 0 ≤ p2 ∧ p2 ≤ 1000) (hq0 : p1 + p2 ≤ 1000) (hIOC : OC μ) : sC (gG l D c H0 sa) mX3_readMarks 2 0 0 [.ref 76, iv p1, iv p2] (mk w μ) (qI w [76006, 79999] μ (fun z μ1 => (0 ≤ z ∧ z ≤ 1) ∧ True)) := by
  refine sC.of rfl (by decide) (le_t rfl) ?_
  refine mr_lvE (lv' := [(0, .ref 76), (1, iv p1), (2, iv p2)]) rfl ?_
  refine mr_iload_n (pc := 0) (z := p2) dX3_readMarks_0 rfl rfl ?_
  refine mr_iconst (pc := 1) (z := 4) dX3_readMarks_1 ?_
  refine mr_irem (pc := 2) (x := p2) (y := 4) dX3_readMarks_2 (rW (c := 0) (d := 2147483647) hp2 rfl) vc_X3_readMarks_1 ?_
  refine mr_gen (P := fun z => 0 ≤ z ∧ z ≤ 3) (rMod hp2 rfl) fun z1 q2 h3 => ?_
  refine mr_if_eq (pc := 3) (tgt := 8) dX3_readMarks_3 (by decide) (r32 h3 rfl) (fun h4 => ?_) (fun h4 => ?_)
  · have h5 : 0 ≤ z1 ∧ z1 ≤ 0 := (vc_X3_readMarks_2 h4 q2 hp2 h3)
    refine mr_iload_n (pc := 8) (z := p1) dX3_readMarks_8 rfl rfl ?_
    refine mr_istore_n (pc := 9) (lv' := [(3, iv p1), (0, .ref 76), (1, iv p1), (2, iv p2)]) dX3_readMarks_9 rfl (by decide) rfl ?_
    have L34 : ∀ (nL34 : Nat) (z32 : Int) (μ33 : mM), mT w μ33 → mF [76006, 79999] w μ μ33 → (0 ≤ z32 ∧ z32 ≤ 1000) → ((z32 - p1) % 4 = 0) → (p1 ≤ z32) → OC μ33 → (1001 - z32) < (nL34 : Int) → sV (gG l D c H0 sa) mX3_readMarks (sRm 2 0 0) (sZ (gG l D c H0 sa) 0 0 (qI w [76006, 79999] μ (fun z μ1 => (0 ≤ z ∧ z ≤ 1) ∧ True))) 10 [(0, .ref 76), (1, iv p1), (2, iv p2), (3, iv z32)] [] (mk w μ33) 0 0 := by
      intro nL34
      induction nL34 with
      | zero => intro z32 μ33 T36 F37 h35 h39 h40 I41 h42; exact ((vc_X3_readMarks_3 h42 h39 h40 hq0 hp1 hp2 h35)).elim
      | succ nL34 ih43 =>
        intro z32 μ33 T36 F37 h35 h39 h40 I41 h42
        refine mr_iload_n (pc := 10) (z := z32) dX3_readMarks_10 rfl rfl ?_
        refine mr_iload_n (pc := 11) (z := p1) dX3_readMarks_11 rfl rfl ?_
        refine mr_iload_n (pc := 12) (z := p2) dX3_readMarks_12 rfl rfl ?_
        refine mr_iadd (pc := 13) (x := p1) (y := p2) dX3_readMarks_13 ?_
        refine mr_icmp_ge (pc := 14) (tgt := 34) dX3_readMarks_14 (by decide) (r32 h35 rfl) (r32 (rAdd (e := 0) (f := 2000) hp1 hp2 rfl) rfl) (fun h53 => ?_) (fun h53 => ?_)
        · refine mr_iconst (pc := 34) (z := 1) dX3_readMarks_34 ?_
          exact mr_zret dX3_readMarks_35 rfl (rW (c := 0) (d := 1) (rR (x := 1)) rfl) (le_t rfl) (le_t rfl) T36 (mF.call mF.refl F37 rfl) ⟨(rW (c := 0) (d := 1) (rR (x := 1)) rfl), trivial⟩
        refine sv_aload_n (pc := 17) dX3_readMarks_17 rfl rfl ?_
        refine sv_aload_n (pc := 18) dX3_readMarks_18 rfl rfl ?_
        refine mr_iload_n (pc := 19) (z := z32) dX3_readMarks_19 rfl rfl ?_
        refine mr_iconst (pc := 20) (z := 2) dX3_readMarks_20 ?_
        refine mr_iadd (pc := 21) (x := z32) (y := 2) dX3_readMarks_21 ?_
        refine mr_cVP (pc := 22) (c_X3_pairAt hw T36 (vc_X3_readMarks_4 h39 h40 h53 hq0 q2 hp1 hp2 h5 h35) I41) (gOk _ _ _ _ _) dX3_readMarks_22 (tX3_pairAt _ _ _ _ _) ⟨wV_X3_pairAt, wL_X3_pairAt⟩ wM_X3_88 (gCX3 _ _ _ _ _) rfl (A_76 hw) rfl ⟨le_t rfl, le_t rfl⟩ ⟨le_t rfl, le_t rfl⟩ rfl (le_t rfl) fun z58 h57 => ?_
        refine mr_cVV (pc := 25) (c_X3_keepMark hw T36 (rW (c := (-2147483648)) (d := 2147483647) h57.1 rfl)) (gOk _ _ _ _ _) dX3_readMarks_25 (tX3_keepMark _ _ _ _ _) ⟨wV_X3_keepMark, wL_X3_keepMark⟩ wM_X3_137 (gCX3 _ _ _ _ _) rfl (A_76 hw) rfl ⟨le_t rfl, le_t rfl⟩ ⟨le_t rfl, le_t rfl⟩ rfl (le_t rfl) fun μ59 T60 F61 h62 => ?_
        refine mr_iinc (pc := 28) (lv' := [(3, iv (z32 + 4)), (0, .ref 76), (1, iv p1), (2, iv p2)]) dX3_readMarks_28 rfl (by decide) rfl ?_
        refine sv_goto (pc := 31) (tgt := 10) dX3_readMarks_31 (by decide) ?_
        refine mr_lvS (lv' := [(0, .ref 76), (1, iv p1), (2, iv p2), (3, iv (z32 + 4))]) (List.forall_mem_cons.mpr ⟨rfl, List.forall_mem_cons.mpr ⟨rfl, List.forall_mem_cons.mpr ⟨rfl, List.forall_mem_cons.mpr ⟨rfl, fun _ h => absurd h List.not_mem_nil⟩⟩⟩⟩) ?_
        exact ih43 (z32 + 4) μ59 T60 (mF.call (mF.call mF.refl F37 rfl) F61 rfl) (vc_X3_readMarks_5 h39 h40 h53 hq0 q2 hp1 hp2 h5 h35) (vc_X3_readMarks_6 hq0 h39 h40 h53 q2 hp1 hp2 h5 h35) (vc_X3_readMarks_7 hq0 h39 h40 h53 q2 hp1 hp2 h5 h35) (OC.keep I41 hw ((mF.call mF.refl F61 rfl) : mF [76006, 79999] w μ33 μ59) rfl) (vc_X3_readMarks_8 (nS h42) h39 h40 h53 hq0 q2 hp1 hp2 h5 h35)
    refine mr_lvS (lv' := [(0, .ref 76), (1, iv p1), (2, iv p2), (3, iv p1)]) (List.forall_mem_cons.mpr ⟨rfl, List.forall_mem_cons.mpr ⟨rfl, List.forall_mem_cons.mpr ⟨rfl, List.forall_mem_cons.mpr ⟨rfl, fun _ h => absurd h List.not_mem_nil⟩⟩⟩⟩) ?_
    exact L34 1002 p1 μ hT mF.refl hp1 (vc_X3_readMarks_9 hq0 q2 hp1 hp2 h5) (vc_X3_readMarks_10 hq0 q2 hp1 hp2 h5) hIOC (vc_X3_readMarks_11 hq0 q2 hp1 hp2 h5)
  have h63 : 1 ≤ z1 ∧ z1 ≤ 3 := (vc_X3_readMarks_12 h4 q2 hp2 h3)
  refine mr_iconst (pc := 6) (z := 0) dX3_readMarks_6 ?_
  exact mr_zret dX3_readMarks_7 rfl (rW (c := 0) (d := 1) (rR (x := 0)) rfl) (le_t rfl) (le_t rfl) hT mF.refl ⟨(rW (c := 0) (d := 1) (rR (x := 0)) rfl), trivial⟩
theorem vc_X3_readWay_1 {z221 : Int} (h0 : (1001 - z221) < ((0 : Nat) : Int)) (h1 : 0 ≤ z221 ∧ z221 ≤ 1000) : False := by omega
theorem vc_X3_readWay_2 {p1 p2 z221 : Int} (h0 : z221 < (p1 + p2)) (h1 : (z221 + 2) ≤ (p1 + p2)) (h2 : p1 + p2 ≤ 1000) (h3 : 0 ≤ p1 ∧ p1 ≤ 1000) (h4 : 0 ≤ p2 ∧ p2 ≤ 1000) (h5 : 0 ≤ z221 ∧ z221 ≤ 1000) : 0 ≤ z221 ∧ z221 < 1000 := by omega
theorem vc_X3_readWay_3 {p1 p2 z221 : Int} (h0 : z221 < (p1 + p2)) (h1 : (z221 + 2) ≤ (p1 + p2)) (h2 : p1 + p2 ≤ 1000) (h3 : 0 ≤ p1 ∧ p1 ≤ 1000) (h4 : 0 ≤ p2 ∧ p2 ≤ 1000) (h5 : 0 ≤ z221 ∧ z221 ≤ 1000) : 0 ≤ (z221 + 1) ∧ (z221 + 1) < 1000 := by omega
theorem vc_X3_readWay_4 {z240 : Int} (h0 : z240 < 1) (h1 : 0 ≤ z240 ∧ z240 ≤ 255) : 0 ≤ z240 ∧ z240 ≤ 0 := by omega
theorem vc_X3_readWay_5 {z240 : Int} (h0 : 1 ≤ z240) (h1 : 0 ≤ z240 ∧ z240 ≤ 255) : 1 ≤ z240 ∧ z240 ≤ 255 := by omega
theorem vc_X3_readWay_6 {z240 : Int} (h0 : 2 < z240) (h1 : 1 ≤ z240) (h2 : 1 ≤ z240 ∧ z240 ≤ 255) : 3 ≤ z240 ∧ z240 ≤ 255 := by omega
theorem vc_X3_readWay_7 {z240 : Int} (h0 : z240 ≤ 2) (h1 : 1 ≤ z240) (h2 : 1 ≤ z240 ∧ z240 ≤ 255) : 1 ≤ z240 ∧ z240 ≤ 2 := by omega
theorem vc_X3_readWay_8 {z243 : Int} (h0 : 1 ≤ z243) (h1 : 0 ≤ z243 ∧ z243 ≤ 255) : 1 ≤ z243 ∧ z243 ≤ 255 := by omega
theorem vc_X3_readWay_9 {p1 p2 z220 z221 z243 : Int} (h0 : (z220 + z243) ≤ 20) (h1 : 1 ≤ z243) (h2 : ((z221 + 2) + (4 * z243)) ≤ (p1 + p2)) (h3 : 0 ≤ p1 ∧ p1 ≤ 1000) (h4 : 0 ≤ p2 ∧ p2 ≤ 1000) (h5 : 0 ≤ z220 ∧ z220 ≤ 20) (h6 : 0 ≤ z221 ∧ z221 ≤ 1000) (h7 : 1 ≤ z243 ∧ z243 ≤ 255) : 0 ≤ z220 ∧ z220 ≤ 19 := by omega
theorem vc_X3_readWay_10 {p1 p2 z220 z221 z243 : Int} (h0 : (z220 + z243) ≤ 20) (h1 : 1 ≤ z243) (h2 : ((z221 + 2) + (4 * z243)) ≤ (p1 + p2)) (h3 : 0 ≤ p1 ∧ p1 ≤ 1000) (h4 : 0 ≤ p2 ∧ p2 ≤ 1000) (h5 : 0 ≤ z220 ∧ z220 ≤ 19) (h6 : 0 ≤ z221 ∧ z221 ≤ 1000) (h7 : 1 ≤ z243 ∧ z243 ≤ 255) : 1 ≤ z243 ∧ z243 ≤ 20 := by omega
theorem vc_X3_readWay_11 {z544 : Int} (h0 : (21 - z544) < ((0 : Nat) : Int)) (h1 : 0 ≤ z544 ∧ z544 ≤ 20) : False := by omega
theorem vc_X3_readWay_12 {p1 p2 z220 z221 z243 z544 : Int} (h0 : z243 ≤ z544) (h1 : 1 ≤ z243) (h2 : ((z221 + 2) + (4 * z243)) ≤ (p1 + p2)) (h3 : (z220 + z243) ≤ 20) (h4 : 0 ≤ p1 ∧ p1 ≤ 1000) (h5 : 0 ≤ p2 ∧ p2 ≤ 1000) (h6 : 0 ≤ z220 ∧ z220 ≤ 19) (h7 : 0 ≤ z221 ∧ z221 ≤ 1000) (h8 : 1 ≤ z243 ∧ z243 ≤ 20) (h9 : 0 ≤ z544 ∧ z544 ≤ 20) : 1 ≤ z544 ∧ z544 ≤ 20 := by omega
theorem vc_X3_readWay_13 {p1 p2 z220 z221 z243 z544 : Int} (h0 : z221 < (p1 + p2)) (h1 : (z221 + 2) ≤ (p1 + p2)) (h2 : 1 ≤ z243) (h3 : ((z221 + 2) + (4 * z243)) ≤ (p1 + p2)) (h4 : (z220 + z243) ≤ 20) (h5 : z243 ≤ z544) (h6 : p1 + p2 ≤ 1000) (h7 : 0 ≤ p1 ∧ p1 ≤ 1000) (h8 : 0 ≤ p2 ∧ p2 ≤ 1000) (h9 : 0 ≤ z220 ∧ z220 ≤ 19) (h10 : 0 ≤ z221 ∧ z221 ≤ 1000) (h11 : 1 ≤ z243 ∧ z243 ≤ 20) (h12 : 1 ≤ z544 ∧ z544 ≤ 20) : 0 ≤ (z221 + (2 + (4 * z243))) ∧ (z221 + (2 + (4 * z243))) ≤ 1000 := by omega
theorem vc_X3_readWay_14 {p1 p2 z220 z221 z243 z544 : Int} (h0 : 1 ≤ z243) (h1 : ((z221 + 2) + (4 * z243)) ≤ (p1 + p2)) (h2 : (z220 + z243) ≤ 20) (h3 : z243 ≤ z544) (h4 : p1 + p2 ≤ 1000) (h5 : z221 < (p1 + p2)) (h6 : (z221 + 2) ≤ (p1 + p2)) (h7 : 0 ≤ p1 ∧ p1 ≤ 1000) (h8 : 0 ≤ p2 ∧ p2 ≤ 1000) (h9 : 0 ≤ z220 ∧ z220 ≤ 19) (h10 : 0 ≤ z221 ∧ z221 ≤ 1000) (h11 : 1 ≤ z243 ∧ z243 ≤ 20) (h12 : 1 ≤ z544 ∧ z544 ≤ 20) : 0 ≤ (z220 + z243) ∧ (z220 + z243) ≤ 20 := by omega
theorem vc_X3_readWay_15 {N p1 p2 z220 z221 z243 z544 : Int} (h0 : (1001 - z221) < N + 1) (h1 : z221 < (p1 + p2)) (h2 : (z221 + 2) ≤ (p1 + p2)) (h3 : 1 ≤ z243) (h4 : ((z221 + 2) + (4 * z243)) ≤ (p1 + p2)) (h5 : (z220 + z243) ≤ 20) (h6 : z243 ≤ z544) (h7 : p1 + p2 ≤ 1000) (h8 : 0 ≤ p1 ∧ p1 ≤ 1000) (h9 : 0 ≤ p2 ∧ p2 ≤ 1000) (h10 : 0 ≤ z220 ∧ z220 ≤ 19) (h11 : 0 ≤ z221 ∧ z221 ≤ 1000) (h12 : 1 ≤ z243 ∧ z243 ≤ 20) (h13 : 1 ≤ z544 ∧ z544 ≤ 20) : (1001 - (z221 + (2 + (4 * z243)))) < N := by omega
theorem vc_X3_readWay_16 {z240 : Int} (h0 : ¬ z240 = 1) (h1 : 1 ≤ z240) (h2 : z240 ≤ 2) (h3 : 1 ≤ z240 ∧ z240 ≤ 2) : 2 ≤ z240 ∧ z240 ≤ 2 := by omega
theorem vc_X3_readWay_17 {z240 : Int} (h0 : z240 = 1) (h1 : 1 ≤ z240) (h2 : z240 ≤ 2) (h3 : 1 ≤ z240 ∧ z240 ≤ 2) : 1 ≤ z240 ∧ z240 ≤ 1 := by omega
theorem vc_X3_readWay_18 {p1 p2 z220 z221 z243 z544 : Int} (h0 : z544 < z243) (h1 : 1 ≤ z243) (h2 : ((z221 + 2) + (4 * z243)) ≤ (p1 + p2)) (h3 : (z220 + z243) ≤ 20) (h4 : 0 ≤ p1 ∧ p1 ≤ 1000) (h5 : 0 ≤ p2 ∧ p2 ≤ 1000) (h6 : 0 ≤ z220 ∧ z220 ≤ 19) (h7 : 0 ≤ z221 ∧ z221 ≤ 1000) (h8 : 1 ≤ z243 ∧ z243 ≤ 20) (h9 : 0 ≤ z544 ∧ z544 ≤ 20) : 0 ≤ z544 ∧ z544 ≤ 19 := by omega
theorem vc_X3_readWay_19 {p1 p2 z220 z221 z243 z544 : Int} (h0 : z221 < (p1 + p2)) (h1 : (z221 + 2) ≤ (p1 + p2)) (h2 : ((z221 + 2) + (4 * z243)) ≤ (p1 + p2)) (h3 : z544 < z243) (h4 : p1 + p2 ≤ 1000) (h5 : 1 ≤ z243) (h6 : (z220 + z243) ≤ 20) (h7 : 0 ≤ p1 ∧ p1 ≤ 1000) (h8 : 0 ≤ p2 ∧ p2 ≤ 1000) (h9 : 0 ≤ z220 ∧ z220 ≤ 19) (h10 : 0 ≤ z221 ∧ z221 ≤ 1000) (h11 : 1 ≤ z243 ∧ z243 ≤ 20) (h12 : 0 ≤ z544 ∧ z544 ≤ 19) : 0 ≤ ((z221 + 2) + (4 * z544)) ∧ ((z221 + 2) + (4 * z544)) ≤ 996 := by omega
theorem vc_X3_readWay_20 {p1 p2 z220 z221 z243 z544 : Int} (h0 : (z220 + z243) ≤ 20) (h1 : z544 < z243) (h2 : 1 ≤ z243) (h3 : ((z221 + 2) + (4 * z243)) ≤ (p1 + p2)) (h4 : 0 ≤ p1 ∧ p1 ≤ 1000) (h5 : 0 ≤ p2 ∧ p2 ≤ 1000) (h6 : 0 ≤ z220 ∧ z220 ≤ 19) (h7 : 0 ≤ z221 ∧ z221 ≤ 1000) (h8 : 1 ≤ z243 ∧ z243 ≤ 20) (h9 : 0 ≤ z544 ∧ z544 ≤ 19) : 0 ≤ (z220 + z544) ∧ (z220 + z544) < 20 := by omega
theorem vc_X3_readWay_21 {N p1 p2 z220 z221 z243 z544 : Int} (h0 : (21 - z544) < N + 1) (h1 : z544 < z243) (h2 : 1 ≤ z243) (h3 : ((z221 + 2) + (4 * z243)) ≤ (p1 + p2)) (h4 : (z220 + z243) ≤ 20) (h5 : 0 ≤ p1 ∧ p1 ≤ 1000) (h6 : 0 ≤ p2 ∧ p2 ≤ 1000) (h7 : 0 ≤ z220 ∧ z220 ≤ 19) (h8 : 0 ≤ z221 ∧ z221 ≤ 1000) (h9 : 1 ≤ z243 ∧ z243 ≤ 20) (h10 : 0 ≤ z544 ∧ z544 ≤ 19) : (21 - (z544 + 1)) < N := by omega
theorem vc_X3_readWay_22  : (21 - 0) < ((22 : Nat) : Int) := by omega
theorem vc_X3_readWay_23 {z243 : Int} (h0 : z243 < 1) (h1 : 0 ≤ z243 ∧ z243 ≤ 255) : 0 ≤ z243 ∧ z243 ≤ 0 := by omega
theorem vc_X3_readWay_24 {p1 p2 : Int} (h0 : p1 + p2 ≤ 1000) (h1 : 0 ≤ p1 ∧ p1 ≤ 1000) (h2 : 0 ≤ p2 ∧ p2 ≤ 1000) : (1001 - p1) < ((1002 : Nat) : Int) := by omega
set_option maxRecDepth 4000 in
set_option maxHeartbeats 4000000 in
theorem c_X3_readWay {l : Launch} {D : va_G} {c : Nat → ClassId} {H0 : Heap} {sa : Nat × Nat × (Nat → Int32)} {w : mW} {μ : mM} (hw : mWF w) (hT : mT w μ) {p1 : Int} (hp1 : 0 ≤ p1 ∧ p1 ≤ 1000) {p2 : Int} (hp2 : 0 ≤ p2 ∧ p2 ≤ 1000) (hq0 : p1 + p2 ≤ 1000) (hIOC : OC μ) : sC (gG l D c H0 sa) mX3_readWay 3 0 0 [.ref 76, iv p1, iv p2] (mk w μ) (qI w [200007, 201999] μ (fun z μ1 => (0 ≤ z ∧ z ≤ 1) ∧ True)) := by
  refine sC.of rfl (by decide) (le_t rfl) ?_
  refine mr_lvE (lv' := [(0, .ref 76), (1, iv p1), (2, iv p2)]) rfl ?_
  refine mr_iload_n (pc := 0) (z := p1) dX3_readWay_0 rfl rfl ?_
  refine mr_iload_n (pc := 1) (z := p2) dX3_readWay_1 rfl rfl ?_
  refine mr_iadd (pc := 2) (x := p1) (y := p2) dX3_readWay_2 ?_
  refine mr_istore_n (pc := 3) (lv' := [(3, iv (p1 + p2)), (0, .ref 76), (1, iv p1), (2, iv p2)]) dX3_readWay_3 rfl (by decide) rfl ?_
  refine mr_iload_n (pc := 4) (z := p1) dX3_readWay_4 rfl rfl ?_
  refine mr_istore (pc := 5) (lv' := [(4, iv p1), (3, iv (p1 + p2)), (0, .ref 76), (1, iv p1), (2, iv p2)]) dX3_readWay_5 (by decide) rfl ?_
  refine mr_iconst (pc := 7) (z := 0) dX3_readWay_7 ?_
  refine mr_istore (pc := 8) (lv' := [(5, iv 0), (4, iv p1), (3, iv (p1 + p2)), (0, .ref 76), (1, iv p1), (2, iv p2)]) dX3_readWay_8 (by decide) rfl ?_
  have L223 : ∀ (nL223 : Nat) (z221 z220 : Int) (μ222 : mM), mT w μ222 → mF [201999] w μ μ222 → (0 ≤ z221 ∧ z221 ≤ 1000) → (0 ≤ z220 ∧ z220 ≤ 20) → OC μ222 → (1001 - z221) < (nL223 : Int) → sV (gG l D c H0 sa) mX3_readWay (sRm 3 0 0) (sZ (gG l D c H0 sa) 0 0 (qI w [200007, 201999] μ (fun z μ1 => (0 ≤ z ∧ z ≤ 1) ∧ True))) 10 [(0, .ref 76), (3, iv (p1 + p2)), (4, iv z221), (5, iv z220)] [] (mk w μ222) 0 0 := by
    intro nL223
    induction nL223 with
    | zero => intro z221 z220 μ222 T226 F227 h224 h225 I229 h230; exact ((vc_X3_readWay_1 h230 h224)).elim
    | succ nL223 ih231 =>
      intro z221 z220 μ222 T226 F227 h224 h225 I229 h230
      refine mr_iload (pc := 10) (z := z221) dX3_readWay_10 rfl ?_
      refine mr_iload_n (pc := 12) (z := (p1 + p2)) dX3_readWay_12 rfl rfl ?_
      refine mr_icmp_ge (pc := 13) (tgt := 177) dX3_readWay_13 (by decide) (r32 h224 rfl) (r32 (rAdd (e := 0) (f := 2000) hp1 hp2 rfl) rfl) (fun h232 => ?_) (fun h232 => ?_)
      · refine sv_aload_n (pc := 177) dX3_readWay_177 rfl rfl ?_
        refine gf_X3_9 (pc := 178) dX3_readWay_178 wF_X3_28 (A_76 hw) T226 ?_
        refine mr_iload (pc := 181) (z := z220) dX3_readWay_181 rfl ?_
        refine pf_X7_7 (pc := 183) dX3_readWay_183 wF_X3_147 (A_81 hw) T226 h225 fun μ233 u234 T235 => ?_
        refine mr_iconst (pc := 186) (z := 1) dX3_readWay_186 ?_
        exact mr_zret dX3_readWay_187 rfl (rW (c := 0) (d := 1) (rR (x := 1)) rfl) (le_t rfl) (le_t rfl) T235 (mF.up (mF.call mF.refl F227 rfl) (A_81 hw) u234 rfl) ⟨(rW (c := 0) (d := 1) (rR (x := 1)) rfl), trivial⟩
      refine mr_iload (pc := 16) (z := z221) dX3_readWay_16 rfl ?_
      refine mr_iconst (pc := 18) (z := 2) dX3_readWay_18 ?_
      refine mr_iadd (pc := 19) (x := z221) (y := 2) dX3_readWay_19 ?_
      refine mr_iload_n (pc := 20) (z := (p1 + p2)) dX3_readWay_20 rfl rfl ?_
      refine mr_icmp_le (pc := 21) (tgt := 26) dX3_readWay_21 (by decide) (r32 (rAdd (e := 2) (f := 1002) h224 (rR (x := 2)) rfl) rfl) (r32 (rAdd (e := 0) (f := 2000) hp1 hp2 rfl) rfl) (fun h236 => ?_) (fun h236 => ?_)
      · refine sv_aload_n (pc := 26) dX3_readWay_26 rfl rfl ?_
        refine gf_X3_4 (pc := 27) dX3_readWay_27 wF_X3_41 (A_76 hw) T226 I229 fun b237 q238 A239 => ?_
        refine mr_iload (pc := 30) (z := z221) dX3_readWay_30 rfl ?_
        refine la_1 (pc := 32) dX3_readWay_32 A239 T226 (vc_X3_readWay_2 h232 h236 hq0 hp1 hp2 h224) fun z240 q241 h242 => ?_
        refine mr_istore (pc := 33) (lv' := [(6, iv z240), (0, .ref 76), (3, iv (p1 + p2)), (4, iv z221), (5, iv z220)]) dX3_readWay_33 (by decide) rfl ?_
        refine sv_aload_n (pc := 35) dX3_readWay_35 rfl rfl ?_
        refine gk_X3_4 (pc := 36) dX3_readWay_36 wF_X3_41 (A_76 hw) q238 ?_
        refine mr_iload (pc := 39) (z := z221) dX3_readWay_39 rfl ?_
        refine mr_iconst (pc := 41) (z := 1) dX3_readWay_41 ?_
        refine mr_iadd (pc := 42) (x := z221) (y := 1) dX3_readWay_42 ?_
        refine la_1 (pc := 43) dX3_readWay_43 A239 T226 (vc_X3_readWay_3 h232 h236 hq0 hp1 hp2 h224) fun z243 q244 h245 => ?_
        refine mr_istore (pc := 44) (lv' := [(7, iv z243), (6, iv z240), (0, .ref 76), (3, iv (p1 + p2)), (4, iv z221), (5, iv z220)]) dX3_readWay_44 (by decide) rfl ?_
        refine mr_iload (pc := 46) (z := z240) dX3_readWay_46 rfl ?_
        refine mr_iconst (pc := 48) (z := 1) dX3_readWay_48 ?_
        refine mr_icmp_lt (pc := 49) (tgt := 64) dX3_readWay_49 (by decide) (r32 h242 rfl) (r32 (rR (x := 1)) rfl) (fun h246 => ?_) (fun h246 => ?_)
        · have h247 : 0 ≤ z240 ∧ z240 ≤ 0 := (vc_X3_readWay_4 h246 h242)
          refine mr_iconst (pc := 64) (z := 0) dX3_readWay_64 ?_
          exact mr_zret dX3_readWay_65 rfl (rW (c := 0) (d := 1) (rR (x := 0)) rfl) (le_t rfl) (le_t rfl) T226 (mF.call mF.refl F227 rfl) ⟨(rW (c := 0) (d := 1) (rR (x := 0)) rfl), trivial⟩
        have h248 : 1 ≤ z240 ∧ z240 ≤ 255 := (vc_X3_readWay_5 h246 h242)
        refine mr_iload (pc := 52) (z := z240) dX3_readWay_52 rfl ?_
        refine mr_iconst (pc := 54) (z := 2) dX3_readWay_54 ?_
        refine mr_icmp_gt (pc := 55) (tgt := 64) dX3_readWay_55 (by decide) (r32 h248 rfl) (r32 (rR (x := 2)) rfl) (fun h249 => ?_) (fun h249 => ?_)
        · have h250 : 3 ≤ z240 ∧ z240 ≤ 255 := (vc_X3_readWay_6 h249 h246 h248)
          refine mr_iconst (pc := 64) (z := 0) dX3_readWay_64 ?_
          exact mr_zret dX3_readWay_65 rfl (rW (c := 0) (d := 1) (rR (x := 0)) rfl) (le_t rfl) (le_t rfl) T226 (mF.call mF.refl F227 rfl) ⟨(rW (c := 0) (d := 1) (rR (x := 0)) rfl), trivial⟩
        have h251 : 1 ≤ z240 ∧ z240 ≤ 2 := (vc_X3_readWay_7 h249 h246 h248)
        refine mr_iload (pc := 58) (z := z243) dX3_readWay_58 rfl ?_
        refine mr_iconst (pc := 60) (z := 1) dX3_readWay_60 ?_
        refine mr_icmp_ge (pc := 61) (tgt := 66) dX3_readWay_61 (by decide) (r32 h245 rfl) (r32 (rR (x := 1)) rfl) (fun h252 => ?_) (fun h252 => ?_)
        · have h253 : 1 ≤ z243 ∧ z243 ≤ 255 := (vc_X3_readWay_8 h252 h245)
          refine mr_iload (pc := 66) (z := z221) dX3_readWay_66 rfl ?_
          refine mr_iconst (pc := 68) (z := 2) dX3_readWay_68 ?_
          refine mr_iadd (pc := 69) (x := z221) (y := 2) dX3_readWay_69 ?_
          refine mr_iconst (pc := 70) (z := 4) dX3_readWay_70 ?_
          refine mr_iload (pc := 71) (z := z243) dX3_readWay_71 rfl ?_
          refine mr_imul (pc := 73) (x := 4) (y := z243) dX3_readWay_73 ?_
          refine mr_iadd (pc := 74) (x := (z221 + 2)) (y := (4 * z243)) dX3_readWay_74 ?_
          refine mr_iload_n (pc := 75) (z := (p1 + p2)) dX3_readWay_75 rfl rfl ?_
          refine mr_icmp_gt (pc := 76) (tgt := 89) dX3_readWay_76 (by decide) (r32 (rAdd (e := 6) (f := 2022) (rAdd (e := 2) (f := 1002) h224 (rR (x := 2)) rfl) (rMulL (n := 4) (e := 4) (f := 1020) h253 rfl) rfl) rfl) (r32 (rAdd (e := 0) (f := 2000) hp1 hp2 rfl) rfl) (fun h254 => ?_) (fun h254 => ?_)
          · refine mr_iconst (pc := 89) (z := 0) dX3_readWay_89 ?_
            exact mr_zret dX3_readWay_90 rfl (rW (c := 0) (d := 1) (rR (x := 0)) rfl) (le_t rfl) (le_t rfl) T226 (mF.call mF.refl F227 rfl) ⟨(rW (c := 0) (d := 1) (rR (x := 0)) rfl), trivial⟩
          refine mr_iload (pc := 79) (z := z220) dX3_readWay_79 rfl ?_
          refine mr_iload (pc := 81) (z := z243) dX3_readWay_81 rfl ?_
          refine mr_iadd (pc := 83) (x := z220) (y := z243) dX3_readWay_83 ?_
          refine mr_bipush (pc := 84) (z := 20) dX3_readWay_84 (by decide) ?_
          refine mr_icmp_le (pc := 86) (tgt := 91) dX3_readWay_86 (by decide) (r32 (rAdd (e := 1) (f := 275) h225 h253 rfl) rfl) (r32 (rR (x := 20)) rfl) (fun h255 => ?_) (fun h255 => ?_)
          · have h256 : 0 ≤ z220 ∧ z220 ≤ 19 := (vc_X3_readWay_9 h255 h252 h254 hp1 hp2 h225 h224 h253)
            have h257 : 1 ≤ z243 ∧ z243 ≤ 20 := (vc_X3_readWay_10 h255 h252 h254 hp1 hp2 h256 h224 h253)
            refine mr_iconst (pc := 91) (z := 0) dX3_readWay_91 ?_
            refine mr_istore (pc := 92) (lv' := [(8, iv 0), (7, iv z243), (6, iv z240), (0, .ref 76), (3, iv (p1 + p2)), (4, iv z221), (5, iv z220)]) dX3_readWay_92 (by decide) rfl ?_
            have L546 : ∀ (nL546 : Nat) (z544 : Int) (μ545 : mM), mT w μ545 → mF [201999] w μ222 μ545 → (0 ≤ z544 ∧ z544 ≤ 20) → OC μ545 → (21 - z544) < (nL546 : Int) → sV (gG l D c H0 sa) mX3_readWay (sRm 3 0 0) (sZ (gG l D c H0 sa) 0 0 (qI w [200007, 201999] μ (fun z μ1 => (0 ≤ z ∧ z ≤ 1) ∧ True))) 94 [(0, .ref 76), (3, iv (p1 + p2)), (4, iv z221), (5, iv z220), (6, iv z240), (7, iv z243), (8, iv z544)] [] (mk w μ545) 0 0 := by
              intro nL546
              induction nL546 with
              | zero => intro z544 μ545 T548 F549 h547 I551 h552; exact ((vc_X3_readWay_11 h552 h547)).elim
              | succ nL546 ih553 =>
                intro z544 μ545 T548 F549 h547 I551 h552
                refine mr_iload (pc := 94) (z := z544) dX3_readWay_94 rfl ?_
                refine mr_iload (pc := 96) (z := z243) dX3_readWay_96 rfl ?_
                refine mr_icmp_ge (pc := 98) (tgt := 133) dX3_readWay_98 (by decide) (r32 h547 rfl) (r32 h257 rfl) (fun h565 => ?_) (fun h565 => ?_)
                · have h566 : 1 ≤ z544 ∧ z544 ≤ 20 := (vc_X3_readWay_12 h565 h252 h254 h255 hp1 hp2 h256 h224 h257 h547)
                  refine mr_iload (pc := 133) (z := z240) dX3_readWay_133 rfl ?_
                  refine mr_iconst (pc := 135) (z := 1) dX3_readWay_135 ?_
                  have J579 : ∀ (μ574 : mM), (mT w μ574) → (mF [201999] w μ545 μ574) → (OC μ574) → sV (gG l D c H0 sa) mX3_readWay (sRm 3 0 0) (sZ (gG l D c H0 sa) 0 0 (qI w [200007, 201999] μ (fun z μ1 => (0 ≤ z ∧ z ≤ 1) ∧ True))) 156 [(0, .ref 76), (3, iv (p1 + p2)), (4, iv z221), (5, iv z220), (7, iv z243)] [] (mk w μ574) 0 0 := by
                    intro μ574 T575 F576 I578
                    refine mr_iload (pc := 156) (z := z220) dX3_readWay_156 rfl ?_
                    refine mr_iload (pc := 158) (z := z243) dX3_readWay_158 rfl ?_
                    refine mr_iadd (pc := 160) (x := z220) (y := z243) dX3_readWay_160 ?_
                    refine mr_istore (pc := 161) (lv' := [(5, iv (z220 + z243)), (0, .ref 76), (3, iv (p1 + p2)), (4, iv z221), (7, iv z243)]) dX3_readWay_161 (by decide) rfl ?_
                    refine mr_iload (pc := 163) (z := z221) dX3_readWay_163 rfl ?_
                    refine mr_iconst (pc := 165) (z := 2) dX3_readWay_165 ?_
                    refine mr_iconst (pc := 166) (z := 4) dX3_readWay_166 ?_
                    refine mr_iload (pc := 167) (z := z243) dX3_readWay_167 rfl ?_
                    refine mr_imul (pc := 169) (x := 4) (y := z243) dX3_readWay_169 ?_
                    refine mr_iadd (pc := 170) (x := 2) (y := (4 * z243)) dX3_readWay_170 ?_
                    refine mr_iadd (pc := 171) (x := z221) (y := (2 + (4 * z243))) dX3_readWay_171 ?_
                    refine mr_istore (pc := 172) (lv' := [(4, iv (z221 + (2 + (4 * z243)))), (5, iv (z220 + z243)), (0, .ref 76), (3, iv (p1 + p2)), (7, iv z243)]) dX3_readWay_172 (by decide) rfl ?_
                    refine sv_goto (pc := 174) (tgt := 10) dX3_readWay_174 (by decide) ?_
                    refine mr_lvS (lv' := [(0, .ref 76), (3, iv (p1 + p2)), (4, iv (z221 + (2 + (4 * z243)))), (5, iv (z220 + z243))]) (List.forall_mem_cons.mpr ⟨rfl, List.forall_mem_cons.mpr ⟨rfl, List.forall_mem_cons.mpr ⟨rfl, List.forall_mem_cons.mpr ⟨rfl, fun _ h => absurd h List.not_mem_nil⟩⟩⟩⟩) ?_
                    exact ih231 (z221 + (2 + (4 * z243))) (z220 + z243) μ574 T575 (mF.call (mF.call (mF.call mF.refl F227 rfl) F549 rfl) F576 rfl) (vc_X3_readWay_13 h232 h236 h252 h254 h255 h565 hq0 hp1 hp2 h256 h224 h257 h566) (vc_X3_readWay_14 h252 h254 h255 h565 hq0 h232 h236 hp1 hp2 h256 h224 h257 h566) I578 (vc_X3_readWay_15 (nS h230) h232 h236 h252 h254 h255 h565 hq0 hp1 hp2 h256 h224 h257 h566)
                  refine mr_icmp_ne (pc := 136) (tgt := 156) dX3_readWay_136 (by decide) (r32 h251 rfl) (r32 (rR (x := 1)) rfl) (fun h580 => ?_) (fun h580 => ?_)
                  · have h581 : 2 ≤ z240 ∧ z240 ≤ 2 := (vc_X3_readWay_16 h580 h246 h249 h251)
                    refine mr_lvS (lv' := [(0, .ref 76), (3, iv (p1 + p2)), (4, iv z221), (5, iv z220), (7, iv z243)]) (List.forall_mem_cons.mpr ⟨rfl, List.forall_mem_cons.mpr ⟨rfl, List.forall_mem_cons.mpr ⟨rfl, List.forall_mem_cons.mpr ⟨rfl, List.forall_mem_cons.mpr ⟨rfl, fun _ h => absurd h List.not_mem_nil⟩⟩⟩⟩⟩) ?_
                    exact J579 μ545 T548 mF.refl I551
                  have h582 : 1 ≤ z240 ∧ z240 ≤ 1 := (vc_X3_readWay_17 h580 h246 h249 h251)
                  refine sv_aload_n (pc := 139) dX3_readWay_139 rfl rfl ?_
                  refine gf_X3_9 (pc := 140) dX3_readWay_140 wF_X3_28 (A_76 hw) T548 ?_
                  refine gf_X7_0 (pc := 143) dX3_readWay_143 wF_X3_140 (A_81 hw) T548 fun A583 => ?_
                  refine mr_iload (pc := 146) (z := z220) dX3_readWay_146 rfl ?_
                  refine mr_iload (pc := 148) (z := z220) dX3_readWay_148 rfl ?_
                  refine mr_iload (pc := 150) (z := z243) dX3_readWay_150 rfl ?_
                  refine mr_iadd (pc := 152) (x := z220) (y := z243) dX3_readWay_152 ?_
                  refine mr_cSV (pc := 153) (c_X3_sortWithoutSign hw T548 A583 (rW (c := 0) (d := 20) h256 rfl) (vc_X3_readWay_14 h252 h254 h255 h565 hq0 h232 h236 hp1 hp2 h256 h224 h257 h566)) (gOk _ _ _ _ _) dX3_readWay_153 (tX3_sortWithoutSign _ _ _ _ _) wS_X3_sortWithoutSign wM_X3_143 ⟨le_t rfl, le_t rfl⟩ ⟨le_t rfl, le_t rfl⟩ rfl (le_t rfl) fun μ584 T585 F586 h587 => ?_
                  refine mr_lvS (lv' := [(0, .ref 76), (3, iv (p1 + p2)), (4, iv z221), (5, iv z220), (7, iv z243)]) (List.forall_mem_cons.mpr ⟨rfl, List.forall_mem_cons.mpr ⟨rfl, List.forall_mem_cons.mpr ⟨rfl, List.forall_mem_cons.mpr ⟨rfl, List.forall_mem_cons.mpr ⟨rfl, fun _ h => absurd h List.not_mem_nil⟩⟩⟩⟩⟩) ?_
                  exact J579 μ584 T585 (mF.call mF.refl F586 rfl) (OC.keep I551 hw ((mF.call mF.refl F586 rfl) : mF [201999] w μ545 μ584) rfl)
                have h588 : 0 ≤ z544 ∧ z544 ≤ 19 := (vc_X3_readWay_18 h565 h252 h254 h255 hp1 hp2 h256 h224 h257 h547)
                refine sv_aload_n (pc := 101) dX3_readWay_101 rfl rfl ?_
                refine gf_X3_9 (pc := 102) dX3_readWay_102 wF_X3_28 (A_76 hw) T548 ?_
                refine gf_X7_0 (pc := 105) dX3_readWay_105 wF_X3_140 (A_81 hw) T548 fun A589 => ?_
                refine mr_iload (pc := 108) (z := z220) dX3_readWay_108 rfl ?_
                refine mr_iload (pc := 110) (z := z544) dX3_readWay_110 rfl ?_
                refine mr_iadd (pc := 112) (x := z220) (y := z544) dX3_readWay_112 ?_
                refine sv_aload_n (pc := 113) dX3_readWay_113 rfl rfl ?_
                refine mr_iload (pc := 114) (z := z221) dX3_readWay_114 rfl ?_
                refine mr_iconst (pc := 116) (z := 2) dX3_readWay_116 ?_
                refine mr_iadd (pc := 117) (x := z221) (y := 2) dX3_readWay_117 ?_
                refine mr_iconst (pc := 118) (z := 4) dX3_readWay_118 ?_
                refine mr_iload (pc := 119) (z := z544) dX3_readWay_119 rfl ?_
                refine mr_imul (pc := 121) (x := 4) (y := z544) dX3_readWay_121 ?_
                refine mr_iadd (pc := 122) (x := (z221 + 2)) (y := (4 * z544)) dX3_readWay_122 ?_
                refine mr_cVP (pc := 123) (c_X3_fourAt hw T548 (vc_X3_readWay_19 h232 h236 h254 h565 hq0 h252 h255 hp1 hp2 h256 h224 h257 h588) I551) (gOk _ _ _ _ _) dX3_readWay_123 (tX3_fourAt _ _ _ _ _) ⟨wV_X3_fourAt, wL_X3_fourAt⟩ wM_X3_130 (gCX3 _ _ _ _ _) rfl (A_76 hw) rfl ⟨le_t rfl, le_t rfl⟩ ⟨le_t rfl, le_t rfl⟩ rfl (le_t rfl) fun z594 h593 => ?_
                refine ss_201 (pc := 126) dX3_readWay_126 A589 T548 (vc_X3_readWay_20 h255 h565 h252 h254 hp1 hp2 h256 h224 h257 h588) h593.1 fun μ595 u596 T597 => ?_
                refine mr_iinc (pc := 127) (lv' := [(8, iv (z544 + 1)), (0, .ref 76), (3, iv (p1 + p2)), (4, iv z221), (5, iv z220), (6, iv z240), (7, iv z243)]) dX3_readWay_127 rfl (by decide) rfl ?_
                refine sv_goto (pc := 130) (tgt := 94) dX3_readWay_130 (by decide) ?_
                refine mr_lvS (lv' := [(0, .ref 76), (3, iv (p1 + p2)), (4, iv z221), (5, iv z220), (6, iv z240), (7, iv z243), (8, iv (z544 + 1))]) (List.forall_mem_cons.mpr ⟨rfl, List.forall_mem_cons.mpr ⟨rfl, List.forall_mem_cons.mpr ⟨rfl, List.forall_mem_cons.mpr ⟨rfl, List.forall_mem_cons.mpr ⟨rfl, List.forall_mem_cons.mpr ⟨rfl, List.forall_mem_cons.mpr ⟨rfl, fun _ h => absurd h List.not_mem_nil⟩⟩⟩⟩⟩⟩⟩) ?_
                exact ih553 (z544 + 1) μ595 T597 (mF.up (mF.call mF.refl F549 rfl) A589 u596 rfl) (rW (c := 0) (d := 20) (rAdd (e := 1) (f := 20) h588 (rR (x := 1)) rfl) rfl) (OC.keep I551 hw ((mF.up mF.refl A589 u596 rfl) : mF [201999] w μ545 μ595) rfl) (vc_X3_readWay_21 (nS h552) h565 h252 h254 h255 hp1 hp2 h256 h224 h257 h588)
            refine mr_lvS (lv' := [(0, .ref 76), (3, iv (p1 + p2)), (4, iv z221), (5, iv z220), (6, iv z240), (7, iv z243), (8, iv 0)]) (List.forall_mem_cons.mpr ⟨rfl, List.forall_mem_cons.mpr ⟨rfl, List.forall_mem_cons.mpr ⟨rfl, List.forall_mem_cons.mpr ⟨rfl, List.forall_mem_cons.mpr ⟨rfl, List.forall_mem_cons.mpr ⟨rfl, List.forall_mem_cons.mpr ⟨rfl, fun _ h => absurd h List.not_mem_nil⟩⟩⟩⟩⟩⟩⟩) ?_
            exact L546 22 0 μ222 T226 mF.refl (rW (c := 0) (d := 20) (rR (x := 0)) rfl) I229 vc_X3_readWay_22
          refine mr_iconst (pc := 89) (z := 0) dX3_readWay_89 ?_
          exact mr_zret dX3_readWay_90 rfl (rW (c := 0) (d := 1) (rR (x := 0)) rfl) (le_t rfl) (le_t rfl) T226 (mF.call mF.refl F227 rfl) ⟨(rW (c := 0) (d := 1) (rR (x := 0)) rfl), trivial⟩
        have h598 : 0 ≤ z243 ∧ z243 ≤ 0 := (vc_X3_readWay_23 h252 h245)
        refine mr_iconst (pc := 64) (z := 0) dX3_readWay_64 ?_
        exact mr_zret dX3_readWay_65 rfl (rW (c := 0) (d := 1) (rR (x := 0)) rfl) (le_t rfl) (le_t rfl) T226 (mF.call mF.refl F227 rfl) ⟨(rW (c := 0) (d := 1) (rR (x := 0)) rfl), trivial⟩
      refine mr_iconst (pc := 24) (z := 0) dX3_readWay_24 ?_
      exact mr_zret dX3_readWay_25 rfl (rW (c := 0) (d := 1) (rR (x := 0)) rfl) (le_t rfl) (le_t rfl) T226 (mF.call mF.refl F227 rfl) ⟨(rW (c := 0) (d := 1) (rR (x := 0)) rfl), trivial⟩
  refine mr_lvS (lv' := [(0, .ref 76), (3, iv (p1 + p2)), (4, iv p1), (5, iv 0)]) (List.forall_mem_cons.mpr ⟨rfl, List.forall_mem_cons.mpr ⟨rfl, List.forall_mem_cons.mpr ⟨rfl, List.forall_mem_cons.mpr ⟨rfl, fun _ h => absurd h List.not_mem_nil⟩⟩⟩⟩) ?_
  exact L223 1002 p1 0 μ hT mF.refl hp1 (rW (c := 0) (d := 20) (rR (x := 0)) rfl) hIOC (vc_X3_readWay_24 hq0 hp1 hp2)
