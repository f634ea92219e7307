theorem vc_X12_wish_1 {f_hands : Int} (h0 : f_hands < 2) (h1 : 0 ≤ f_hands ∧ f_hands ≤ 20) : 0 ≤ f_hands ∧ f_hands ≤ 1 := by omega
theorem vc_X12_wish_2 (h0 : 1 < ((0 : Nat) : Int)) : False := by omega
theorem vc_X12_wish_3 {f_hands z6509 : Int} (h0 : f_hands ≤ z6509) (h1 : f_hands < 2) (h2 : 0 ≤ f_hands ∧ f_hands ≤ 1) (h3 : 0 ≤ z6509 ∧ z6509 ≤ 0) : 0 ≤ f_hands ∧ f_hands ≤ 0 := by omega
theorem vc_X12_wish_4 {z6510 : Int} (h0 : ¬ z6510 = 0) (h1 : 0 ≤ z6510 ∧ z6510 ≤ 0) : False := by omega
theorem vc_X12_wish_5 {f_hands z6509 : Int} (h0 : z6509 < f_hands) (h1 : f_hands < 2) (h2 : 0 ≤ f_hands ∧ f_hands ≤ 1) (h3 : 0 ≤ z6509 ∧ z6509 ≤ 0) : 1 ≤ f_hands ∧ f_hands ≤ 1 := by omega
theorem vc_X12_wish_6  : 1 < ((2 : Nat) : Int) := by omega
theorem vc_X12_wish_7 {f_hands : Int} (h0 : 2 ≤ f_hands) (h1 : 0 ≤ f_hands ∧ f_hands ≤ 20) : 2 ≤ f_hands ∧ f_hands ≤ 20 := by omega
theorem vc_X12_wish_8 {f_hands : Int} (h0 : 7 < f_hands) (h1 : 2 ≤ f_hands) (h2 : 2 ≤ f_hands ∧ f_hands ≤ 20) : 8 ≤ f_hands ∧ f_hands ≤ 20 := by omega
theorem vc_X12_wish_9 {f_hands z6530 : Int} (h0 : f_hands ≤ z6530) (h1 : 8 ≤ f_hands ∧ f_hands ≤ 20) (h2 : 0 ≤ z6530 ∧ z6530 ≤ 0) : False := by omega
theorem vc_X12_wish_10 {z6531 : Int} (h0 : ¬ z6531 = 0) (h1 : 0 ≤ z6531 ∧ z6531 ≤ 0) : False := by omega
theorem vc_X12_wish_11 {f_hands : Int} (h0 : f_hands ≤ 7) (h1 : 2 ≤ f_hands) (h2 : 2 ≤ f_hands ∧ f_hands ≤ 20) : 2 ≤ f_hands ∧ f_hands ≤ 7 := by omega
theorem vc_X12_wish_12 {z6542 : Int} (h0 : z6542 = 0) (h1 : 0 ≤ z6542 ∧ z6542 ≤ 9) : 0 ≤ z6542 ∧ z6542 ≤ 0 := by omega
theorem vc_X12_wish_13 {f_hands z6551 : Int} (h0 : f_hands ≤ z6551) (h1 : 2 ≤ f_hands ∧ f_hands ≤ 7) (h2 : 0 ≤ z6551 ∧ z6551 ≤ 0) : False := by omega
theorem vc_X12_wish_14 {z6552 : Int} (h0 : ¬ z6552 = 0) (h1 : 0 ≤ z6552 ∧ z6552 ≤ 0) : False := by omega
theorem vc_X12_wish_15 {z6542 : Int} (h0 : ¬ z6542 = 0) (h1 : 0 ≤ z6542 ∧ z6542 ≤ 9) : 1 ≤ z6542 ∧ z6542 ≤ 9 := by omega
theorem vc_X12_wish_16 {z6563 : Int} (h0 : ¬ z6563 = 0) (h1 : 0 ≤ z6563 ∧ z6563 ≤ 9) : 1 ≤ z6563 ∧ z6563 ≤ 9 := by omega
theorem vc_X12_wish_17 {f_hands z6572 : Int} (h0 : f_hands ≤ z6572) (h1 : 2 ≤ f_hands ∧ f_hands ≤ 7) (h2 : 0 ≤ z6572 ∧ z6572 ≤ 0) : False := by omega
theorem vc_X12_wish_18 {z6573 : Int} (h0 : ¬ z6573 = 0) (h1 : 0 ≤ z6573 ∧ z6573 ≤ 0) : False := by omega
theorem vc_X12_wish_19 {z6563 : Int} (h0 : z6563 = 0) (h1 : 0 ≤ z6563 ∧ z6563 ≤ 9) : 0 ≤ z6563 ∧ z6563 ≤ 0 := by omega
theorem vc_X12_wish_20 {z7760 : Int} (h0 : (8 - z7760) < ((0 : Nat) : Int)) (h1 : 0 ≤ z7760 ∧ z7760 ≤ 7) : False := by omega
theorem vc_X12_wish_21 {f_hands z7760 : Int} (h0 : f_hands ≤ z7760) (h1 : 2 ≤ f_hands) (h2 : f_hands ≤ 7) (h3 : 2 ≤ f_hands ∧ f_hands ≤ 7) (h4 : 0 ≤ z7760 ∧ z7760 ≤ 7) : 2 ≤ z7760 ∧ z7760 ≤ 7 := by omega
theorem vc_X12_wish_22 {z7761 : Int} (h0 : ¬ z7761 = 0) (h1 : 0 ≤ z7761 ∧ z7761 ≤ 1) : 1 ≤ z7761 ∧ z7761 ≤ 1 := by omega
theorem vc_X12_wish_23 {z7761 : Int} (h0 : ¬ z7761 = 0) (h1 : 1 ≤ z7761 ∧ z7761 ≤ 1) : z7761 = 1 := by omega
theorem vc_X12_wish_24  : (0 : Int) ≤ ((0 : Int) : Int) := by omega
theorem vc_X12_wish_25 {f_hands z7760 : Int} (h0 : 2 ≤ f_hands) (h1 : f_hands ≤ 7) (h2 : f_hands ≤ z7760) (h3 : 2 ≤ f_hands ∧ f_hands ≤ 7) (h4 : 2 ≤ z7760 ∧ z7760 ≤ 7) : (0 : Int) < z7760 := by omega
theorem vc_X12_wish_26 {z6542 : Int} (h0 : z6542 ≤ 6) (h1 : ¬ z6542 = 0) (h2 : 1 ≤ z6542 ∧ z6542 ≤ 9) : 1 ≤ z6542 ∧ z6542 ≤ 6 := by omega
theorem vc_X12_wish_27 {z8075 : Int} (h0 : (6 - z8075) < ((0 : Nat) : Int)) (h1 : 0 ≤ z8075 ∧ z8075 ≤ 5) : False := by omega
theorem vc_X12_wish_28 {z8075 z8083 : Int} (h0 : ¬ z8083 = 5) (h1 : z8083 ≤ z8075) (h2 : 0 ≤ z8075 ∧ z8075 ≤ 5) (h3 : 0 ≤ z8083 ∧ z8083 ≤ 5) : 0 ≤ z8083 ∧ z8083 ≤ 4 := by omega
theorem vc_X12_wish_29 {z8199 : Int} (h0 : (8 - z8199) < ((0 : Nat) : Int)) (h1 : 0 ≤ z8199 ∧ z8199 ≤ 7) : False := by omega
theorem vc_X12_wish_30 {f_hands z7760 z8199 : Int} (h0 : f_hands ≤ z8199) (h1 : 2 ≤ f_hands) (h2 : f_hands ≤ 7) (h3 : f_hands ≤ z7760) (h4 : 2 ≤ f_hands ∧ f_hands ≤ 7) (h5 : 2 ≤ z7760 ∧ z7760 ≤ 7) (h6 : 0 ≤ z8199 ∧ z8199 ≤ 7) : 2 ≤ z8199 ∧ z8199 ≤ 7 := by omega
theorem vc_X12_wish_31 {f_hands z7760 z8199 : Int} (h0 : z8199 < f_hands) (h1 : 2 ≤ f_hands) (h2 : f_hands ≤ 7) (h3 : f_hands ≤ z7760) (h4 : 2 ≤ f_hands ∧ f_hands ≤ 7) (h5 : 2 ≤ z7760 ∧ z7760 ≤ 7) (h6 : 0 ≤ z8199 ∧ z8199 ≤ 7) : 0 ≤ z8199 ∧ z8199 ≤ 6 := by omega
theorem vc_X12_wish_32 {f_hands z7760 z8199 : Int} (h0 : z8199 < f_hands) (h1 : 2 ≤ f_hands) (h2 : f_hands ≤ 7) (h3 : f_hands ≤ z7760) (h4 : 2 ≤ f_hands ∧ f_hands ≤ 7) (h5 : 2 ≤ z7760 ∧ z7760 ≤ 7) (h6 : 0 ≤ z8199 ∧ z8199 ≤ 6) : 0 ≤ z8199 := by omega
theorem vc_X12_wish_33 {f_hands z7760 z8199 : Int} (h0 : 2 ≤ f_hands) (h1 : f_hands ≤ 7) (h2 : f_hands ≤ z7760) (h3 : z8199 < f_hands) (h4 : 2 ≤ f_hands ∧ f_hands ≤ 7) (h5 : 2 ≤ z7760 ∧ z7760 ≤ 7) (h6 : 0 ≤ z8199 ∧ z8199 ≤ 6) : z8199 < z7760 := by omega
theorem vc_X12_wish_34 {z8222 : Int} (h0 : z8222 ≤ 6) (h1 : 0 ≤ z8222 ∧ z8222 ≤ 9) : 0 ≤ z8222 ∧ z8222 ≤ 6 := by omega
theorem vc_X12_wish_35 {N f_hands z7760 z8199 : Int} (h0 : (8 - z8199) < N + 1) (h1 : z8199 < f_hands) (h2 : 2 ≤ f_hands) (h3 : f_hands ≤ 7) (h4 : f_hands ≤ z7760) (h5 : 2 ≤ f_hands ∧ f_hands ≤ 7) (h6 : 2 ≤ z7760 ∧ z7760 ≤ 7) (h7 : 0 ≤ z8199 ∧ z8199 ≤ 6) : (8 - (z8199 + 1)) < N := by omega
theorem vc_X12_wish_36  : (8 - 0) < ((9 : Nat) : Int) := by omega
theorem vc_X12_wish_37 {z8075 z8083 : Int} (h0 : z8083 = 5) (h1 : z8083 ≤ z8075) (h2 : 0 ≤ z8075 ∧ z8075 ≤ 5) (h3 : 0 ≤ z8083 ∧ z8083 ≤ 5) : 5 ≤ z8083 ∧ z8083 ≤ 5 := by omega
theorem vc_X12_wish_38 {z8075 z8083 : Int} (h0 : z8075 < z8083) (h1 : 0 ≤ z8075 ∧ z8075 ≤ 5) (h2 : 0 ≤ z8083 ∧ z8083 ≤ 5) : 0 ≤ z8075 ∧ z8075 ≤ 4 := by omega
theorem vc_X12_wish_39 {z8075 z8083 : Int} (h0 : z8075 < z8083) (h1 : 0 ≤ z8075 ∧ z8075 ≤ 4) (h2 : 0 ≤ z8083 ∧ z8083 ≤ 5) : 1 ≤ z8083 ∧ z8083 ≤ 5 := by omega
theorem vc_X12_wish_40 {f_hands z7760 : Int} (h0 : 2 ≤ f_hands) (h1 : f_hands ≤ 7) (h2 : f_hands ≤ z7760) (h3 : 2 ≤ f_hands ∧ f_hands ≤ 7) (h4 : 2 ≤ z7760 ∧ z7760 ≤ 7) : f_hands ≤ 7 := by omega
theorem vc_X12_wish_41 {z8237 : Int} (h0 : z8237 = 0) (h1 : 0 ≤ z8237 ∧ z8237 ≤ 1) : 0 ≤ z8237 ∧ z8237 ≤ 0 := by omega
theorem vc_X12_wish_42 {N z8075 z8083 : Int} (h0 : (6 - z8075) < N + 1) (h1 : z8075 < z8083) (h2 : 0 ≤ z8075 ∧ z8075 ≤ 4) (h3 : 1 ≤ z8083 ∧ z8083 ≤ 5) : (6 - (z8075 + 1)) < N := by omega
theorem vc_X12_wish_43 {z8237 : Int} (h0 : ¬ z8237 = 0) (h1 : 0 ≤ z8237 ∧ z8237 ≤ 1) : 1 ≤ z8237 ∧ z8237 ≤ 1 := by omega
theorem vc_X12_wish_44  : (6 - 0) < ((7 : Nat) : Int) := by omega
theorem vc_X12_wish_45 {z7761 : Int} (h0 : z7761 = 0) (h1 : 0 ≤ z7761 ∧ z7761 ≤ 1) : 0 ≤ z7761 ∧ z7761 ≤ 0 := by omega
theorem vc_X12_wish_46 {f_hands z7760 : Int} (h0 : z7760 < f_hands) (h1 : 2 ≤ f_hands) (h2 : f_hands ≤ 7) (h3 : 2 ≤ f_hands ∧ f_hands ≤ 7) (h4 : 0 ≤ z7760 ∧ z7760 ≤ 7) : 0 ≤ z7760 ∧ z7760 ≤ 6 := by omega
theorem vc_X12_wish_47 {z7761 : Int} (h0 : ¬ z7761 = 0) (h1 : 0 ≤ z7761 ∧ z7761 ≤ 0) : False := by omega
theorem vc_X12_wish_48 {z8246 : Int} (h0 : 6 < z8246) (h1 : 0 ≤ z8246 ∧ z8246 ≤ 9) : 7 ≤ z8246 ∧ z8246 ≤ 9 := by omega
theorem vc_X12_wish_49 {z8283 : Int} (h0 : (7 - z8283) < ((0 : Nat) : Int)) (h1 : 0 ≤ z8283 ∧ z8283 ≤ 6) : False := by omega
theorem vc_X12_wish_50 {N f_hands z7760 z8283 : Int} (h0 : (8 - z7760) < N + 1) (h1 : z7760 < f_hands) (h2 : z7760 ≤ z8283) (h3 : 2 ≤ f_hands) (h4 : f_hands ≤ 7) (h5 : 2 ≤ f_hands ∧ f_hands ≤ 7) (h6 : 0 ≤ z7760 ∧ z7760 ≤ 6) (h7 : 0 ≤ z8283 ∧ z8283 ≤ 6) : (8 - (z7760 + 1)) < N := by omega
theorem vc_X12_wish_51 {z8284 : Int} (h0 : 0 ≤ z8284 ∧ z8284 ≤ 0) : ¬ z8284 = 1 := by omega
theorem vc_X12_wish_52 {f_hands z7760 z8283 : Int} (h0 : z8283 < z7760) (h1 : z7760 < f_hands) (h2 : 2 ≤ f_hands ∧ f_hands ≤ 7) (h3 : 0 ≤ z7760 ∧ z7760 ≤ 6) (h4 : 0 ≤ z8283 ∧ z8283 ≤ 6) : 0 ≤ z8283 ∧ z8283 ≤ 5 := by omega
theorem vc_X12_wish_53 {f_hands z7760 z8283 : Int} (h0 : z8283 < z7760) (h1 : z7760 < f_hands) (h2 : 2 ≤ f_hands ∧ f_hands ≤ 7) (h3 : 0 ≤ z7760 ∧ z7760 ≤ 6) (h4 : 0 ≤ z8283 ∧ z8283 ≤ 5) : 1 ≤ z7760 ∧ z7760 ≤ 6 := by omega
theorem vc_X12_wish_54 {z8284 : Int} (h0 : ¬ z8284 = 0) (h1 : 0 ≤ z8284 ∧ z8284 ≤ 0) : False := by omega
theorem vc_X12_wish_55 {N f_hands z7760 z8283 : Int} (h0 : (7 - z8283) < N + 1) (h1 : z8283 < z7760) (h2 : z7760 < f_hands) (h3 : 2 ≤ f_hands ∧ f_hands ≤ 7) (h4 : 1 ≤ z7760 ∧ z7760 ≤ 6) (h5 : 0 ≤ z8283 ∧ z8283 ≤ 5) : (7 - (z8283 + 1)) < N := by omega
theorem vc_X12_wish_56  : (7 - 0) < ((8 : Nat) : Int) := by omega
theorem vc_X12_wish_57 {z8246 : Int} (h0 : z8246 ≤ 6) (h1 : 0 ≤ z8246 ∧ z8246 ≤ 9) : 0 ≤ z8246 ∧ z8246 ≤ 6 := by omega
theorem vc_X12_wish_58 {z8377 : Int} (h0 : (7 - z8377) < ((0 : Nat) : Int)) (h1 : 0 ≤ z8377 ∧ z8377 ≤ 6) : False := by omega
theorem vc_X12_wish_59 {N f_hands z7760 z8377 : Int} (h0 : (8 - z7760) < N + 1) (h1 : z7760 < f_hands) (h2 : z7760 ≤ z8377) (h3 : 2 ≤ f_hands) (h4 : f_hands ≤ 7) (h5 : 2 ≤ f_hands ∧ f_hands ≤ 7) (h6 : 0 ≤ z7760 ∧ z7760 ≤ 6) (h7 : 0 ≤ z8377 ∧ z8377 ≤ 6) : (8 - (z7760 + 1)) < N := by omega
theorem vc_X12_wish_60 {z8246 : Int} (h0 : z8246 ≤ 6) (h1 : 0 ≤ z8246 ∧ z8246 ≤ 6) : z8246 ≤ 6 := by omega
theorem vc_X12_wish_61 {f_hands z7760 z8377 : Int} (h0 : z8377 < z7760) (h1 : z7760 < f_hands) (h2 : 2 ≤ f_hands ∧ f_hands ≤ 7) (h3 : 0 ≤ z7760 ∧ z7760 ≤ 6) (h4 : 0 ≤ z8377 ∧ z8377 ≤ 6) : 0 ≤ z8377 ∧ z8377 ≤ 5 := by omega
theorem vc_X12_wish_62 {f_hands z7760 z8377 : Int} (h0 : z8377 < z7760) (h1 : z7760 < f_hands) (h2 : 2 ≤ f_hands ∧ f_hands ≤ 7) (h3 : 0 ≤ z7760 ∧ z7760 ≤ 6) (h4 : 0 ≤ z8377 ∧ z8377 ≤ 5) : 1 ≤ z7760 ∧ z7760 ≤ 6 := by omega
theorem vc_X12_wish_63 {z8378 : Int} (h0 : z8378 = 0) (h1 : 0 ≤ z8378 ∧ z8378 ≤ 1) : 0 ≤ z8378 ∧ z8378 ≤ 0 := by omega
theorem vc_X12_wish_64 {N f_hands z7760 z8377 : Int} (h0 : (7 - z8377) < N + 1) (h1 : z8377 < z7760) (h2 : z7760 < f_hands) (h3 : 2 ≤ f_hands ∧ f_hands ≤ 7) (h4 : 1 ≤ z7760 ∧ z7760 ≤ 6) (h5 : 0 ≤ z8377 ∧ z8377 ≤ 5) : (7 - (z8377 + 1)) < N := by omega
theorem vc_X12_wish_65 {z8378 : Int} (h0 : ¬ z8378 = 0) (h1 : 0 ≤ z8378 ∧ z8378 ≤ 1) : 1 ≤ z8378 ∧ z8378 ≤ 1 := by omega
theorem vc_X12_wish_66 {z8246 z8407 : Int} (h0 : z8246 = z8407) (h1 : z8246 ≤ 6) (h2 : 0 ≤ z8246 ∧ z8246 ≤ 6) (h3 : 0 ≤ z8407 ∧ z8407 ≤ 9) : 0 ≤ z8407 ∧ z8407 ≤ 6 := by omega
set_option maxRecDepth 4000 in
set_option maxHeartbeats 4000000 in
theorem c_X12_wish {l : Launch} {D : va_G} {c : Nat → ClassId} {H0 : Heap} {sa : Nat × Nat × (Nat → Int32)} {w : mW} {μ : mM} (hw : mWF w) (hT : mT w μ) {f_hands : Int} (q_f_hands : μ 106 15 = f_hands) : sC (gG l D c H0 sa) mX12_wish 2 0 0 [.ref 106] (mk w μ) (qI w [184999, 185999, 186999] μ (fun z μ1 => ((-2147483648) ≤ z ∧ z ≤ 2147483647) ∧ True)) := by
  refine sC.of rfl (by decide) (le_t rfl) ?_
  have ht_f_hands : (0 ≤ f_hands ∧ f_hands ≤ 20) := by rw [← q_f_hands]; exact hT 106 106 (A_106 hw) 15
  refine mr_lvE (lv' := [(0, .ref 106)]) rfl ?_
  refine sv_aload_n (pc := 0) dX12_wish_0 rfl rfl ?_
  refine gk_X12_15 (pc := 1) dX12_wish_1 wF_X12_79 (A_106 hw) q_f_hands ?_
  refine mr_iconst (pc := 4) (z := 2) dX12_wish_4 ?_
  refine mr_icmp_lt (pc := 5) (tgt := 44) dX12_wish_5 (by decide) (r32 ht_f_hands rfl) (r32 (rR (x := 2)) rfl) (fun h6499 => ?_) (fun h6499 => ?_)
  · have h6500 : 0 ≤ f_hands ∧ f_hands ≤ 1 := (vc_X12_wish_1 h6499 ht_f_hands)
    refine mr_iconst (pc := 44) (z := 0) dX12_wish_44 ?_
    refine mr_istore_n (pc := 45) (lv' := [(1, iv 0), (0, .ref 106)]) dX12_wish_45 rfl (by decide) rfl ?_
    refine mr_iconst (pc := 46) (z := 0) dX12_wish_46 ?_
    refine mr_istore_n (pc := 47) (lv' := [(2, iv 0), (1, iv 0), (0, .ref 106)]) dX12_wish_47 rfl (by decide) rfl ?_
    have L6511 : ∀ (nL6511 : Nat) (z6510 z6509 : Int), True → (0 ≤ z6510 ∧ z6510 ≤ 0) → (0 ≤ z6509 ∧ z6509 ≤ 0) → (z6510 = 1 → allLe μ 118 z6509 6) → 1 < (nL6511 : Int) → sV (gG l D c H0 sa) mX12_wish (sRm 2 0 0) (sZ (gG l D c H0 sa) 0 0 (qI w [184999, 185999, 186999] μ (fun z μ1 => ((-2147483648) ≤ z ∧ z ≤ 2147483647) ∧ True))) 48 [(0, .ref 106), (1, iv z6510), (2, iv z6509)] [] (mk w μ) 0 0 := by
      intro nL6511
      induction nL6511 with
      | zero => intro z6510 z6509 _ h6512 h6513 R6517 h6518; exact ((vc_X12_wish_2 h6518)).elim
      | succ nL6511 ih6519 =>
        intro z6510 z6509 _ h6512 h6513 R6517 h6518
        refine mr_iload_n (pc := 48) (z := z6509) dX12_wish_48 rfl rfl ?_
        refine sv_aload_n (pc := 49) dX12_wish_49 rfl rfl ?_
        refine gk_X12_15 (pc := 50) dX12_wish_50 wF_X12_79 (A_106 hw) q_f_hands ?_
        refine mr_icmp_ge (pc := 53) (tgt := 121) dX12_wish_53 (by decide) (r32 h6513 rfl) (r32 h6500 rfl) (fun h6520 => ?_) (fun h6520 => ?_)
        · have h6521 : 0 ≤ f_hands ∧ f_hands ≤ 0 := (vc_X12_wish_3 h6520 h6499 h6500 h6513)
          refine mr_iload_n (pc := 121) (z := z6510) dX12_wish_121 rfl rfl ?_
          refine mr_if_ne (pc := 122) (tgt := 127) dX12_wish_122 (by decide) (r32 h6512 rfl) (fun h => ((vc_X12_wish_4 h h6512)).elim) (fun _ => ?_)
          refine mr_iconst (pc := 125) (z := (-1)) dX12_wish_125 ?_
          exact mr_iret dX12_wish_126 rfl (le_t rfl) (le_t rfl) hT mF.refl ⟨(rW (c := (-2147483648)) (d := 2147483647) (rR (x := (-1))) rfl), trivial⟩
        have h6522 : 1 ≤ f_hands ∧ f_hands ≤ 1 := (vc_X12_wish_5 h6520 h6499 h6500 h6513)
        refine mr_iload_n (pc := 56) (z := z6510) dX12_wish_56 rfl rfl ?_
        refine mr_if_eq (pc := 57) (tgt := 121) dX12_wish_57 (by decide) (r32 h6512 rfl) (fun _ => ?_) (fun h => ((vc_X12_wish_4 h h6512)).elim)
        refine mr_iload_n (pc := 121) (z := z6510) dX12_wish_121 rfl rfl ?_
        refine mr_if_ne (pc := 122) (tgt := 127) dX12_wish_122 (by decide) (r32 h6512 rfl) (fun h => ((vc_X12_wish_4 h h6512)).elim) (fun _ => ?_)
        refine mr_iconst (pc := 125) (z := (-1)) dX12_wish_125 ?_
        exact mr_iret dX12_wish_126 rfl (le_t rfl) (le_t rfl) hT mF.refl ⟨(rW (c := (-2147483648)) (d := 2147483647) (rR (x := (-1))) rfl), trivial⟩
    refine mr_lvS (lv' := [(0, .ref 106), (1, iv 0), (2, iv 0)]) (List.forall_mem_cons.mpr ⟨rfl, List.forall_mem_cons.mpr ⟨rfl, List.forall_mem_cons.mpr ⟨rfl, fun _ h => absurd h List.not_mem_nil⟩⟩⟩) ?_
    exact L6511 2 0 0 trivial (rR (x := 0)) (rR (x := 0)) (fun _ => allLe.zero (Int.le_refl 0)) vc_X12_wish_6
  have h6523 : 2 ≤ f_hands ∧ f_hands ≤ 20 := (vc_X12_wish_7 h6499 ht_f_hands)
  refine sv_aload_n (pc := 8) dX12_wish_8 rfl rfl ?_
  refine gk_X12_15 (pc := 9) dX12_wish_9 wF_X12_79 (A_106 hw) q_f_hands ?_
  refine mr_bipush (pc := 12) (z := 7) dX12_wish_12 (by decide) ?_
  refine mr_icmp_gt (pc := 14) (tgt := 44) dX12_wish_14 (by decide) (r32 h6523 rfl) (r32 (rR (x := 7)) rfl) (fun h6524 => ?_) (fun h6524 => ?_)
  · have h6525 : 8 ≤ f_hands ∧ f_hands ≤ 20 := (vc_X12_wish_8 h6524 h6499 h6523)
    refine mr_iconst (pc := 44) (z := 0) dX12_wish_44 ?_
    refine mr_istore_n (pc := 45) (lv' := [(1, iv 0), (0, .ref 106)]) dX12_wish_45 rfl (by decide) rfl ?_
    refine mr_iconst (pc := 46) (z := 0) dX12_wish_46 ?_
    refine mr_istore_n (pc := 47) (lv' := [(2, iv 0), (1, iv 0), (0, .ref 106)]) dX12_wish_47 rfl (by decide) rfl ?_
    have L6532 : ∀ (nL6532 : Nat) (z6531 z6530 : Int), True → (0 ≤ z6531 ∧ z6531 ≤ 0) → (0 ≤ z6530 ∧ z6530 ≤ 0) → (z6531 = 1 → allLe μ 118 z6530 6) → 1 < (nL6532 : Int) → sV (gG l D c H0 sa) mX12_wish (sRm 2 0 0) (sZ (gG l D c H0 sa) 0 0 (qI w [184999, 185999, 186999] μ (fun z μ1 => ((-2147483648) ≤ z ∧ z ≤ 2147483647) ∧ True))) 48 [(0, .ref 106), (1, iv z6531), (2, iv z6530)] [] (mk w μ) 0 0 := by
      intro nL6532
      induction nL6532 with
      | zero => intro z6531 z6530 _ h6533 h6534 R6538 h6539; exact ((vc_X12_wish_2 h6539)).elim
      | succ nL6532 ih6540 =>
        intro z6531 z6530 _ h6533 h6534 R6538 h6539
        refine mr_iload_n (pc := 48) (z := z6530) dX12_wish_48 rfl rfl ?_
        refine sv_aload_n (pc := 49) dX12_wish_49 rfl rfl ?_
        refine gk_X12_15 (pc := 50) dX12_wish_50 wF_X12_79 (A_106 hw) q_f_hands ?_
        refine mr_icmp_ge (pc := 53) (tgt := 121) dX12_wish_53 (by decide) (r32 h6534 rfl) (r32 h6525 rfl) (fun h => ((vc_X12_wish_9 h h6525 h6534)).elim) (fun _ => ?_)
        refine mr_iload_n (pc := 56) (z := z6531) dX12_wish_56 rfl rfl ?_
        refine mr_if_eq (pc := 57) (tgt := 121) dX12_wish_57 (by decide) (r32 h6533 rfl) (fun _ => ?_) (fun h => ((vc_X12_wish_10 h h6533)).elim)
        refine mr_iload_n (pc := 121) (z := z6531) dX12_wish_121 rfl rfl ?_
        refine mr_if_ne (pc := 122) (tgt := 127) dX12_wish_122 (by decide) (r32 h6533 rfl) (fun h => ((vc_X12_wish_10 h h6533)).elim) (fun _ => ?_)
        refine mr_iconst (pc := 125) (z := (-1)) dX12_wish_125 ?_
        exact mr_iret dX12_wish_126 rfl (le_t rfl) (le_t rfl) hT mF.refl ⟨(rW (c := (-2147483648)) (d := 2147483647) (rR (x := (-1))) rfl), trivial⟩
    refine mr_lvS (lv' := [(0, .ref 106), (1, iv 0), (2, iv 0)]) (List.forall_mem_cons.mpr ⟨rfl, List.forall_mem_cons.mpr ⟨rfl, List.forall_mem_cons.mpr ⟨rfl, fun _ h => absurd h List.not_mem_nil⟩⟩⟩) ?_
    exact L6532 2 0 0 trivial (rR (x := 0)) (rR (x := 0)) (fun _ => allLe.zero (Int.le_refl 0)) vc_X12_wish_6
  have h6541 : 2 ≤ f_hands ∧ f_hands ≤ 7 := (vc_X12_wish_11 h6524 h6499 h6523)
  refine sv_aload_n (pc := 17) dX12_wish_17 rfl rfl ?_
  refine gf_X12_16 (pc := 18) dX12_wish_18 wF_X12_82 (A_106 hw) hT ?_
  refine mr_iconst (pc := 21) (z := 0) dX12_wish_21 ?_
  refine la_118 (pc := 22) dX12_wish_22 (A_118 hw) hT (rIx (n := 20) (rR (x := 0)) rfl) fun z6542 q6543 h6544 => ?_
  refine mr_if_eq (pc := 23) (tgt := 44) dX12_wish_23 (by decide) (r32 h6544 rfl) (fun h6545 => ?_) (fun h6545 => ?_)
  · have h6546 : 0 ≤ z6542 ∧ z6542 ≤ 0 := (vc_X12_wish_12 h6545 h6544)
    refine mr_iconst (pc := 44) (z := 0) dX12_wish_44 ?_
    refine mr_istore_n (pc := 45) (lv' := [(1, iv 0), (0, .ref 106)]) dX12_wish_45 rfl (by decide) rfl ?_
    refine mr_iconst (pc := 46) (z := 0) dX12_wish_46 ?_
    refine mr_istore_n (pc := 47) (lv' := [(2, iv 0), (1, iv 0), (0, .ref 106)]) dX12_wish_47 rfl (by decide) rfl ?_
    have L6553 : ∀ (nL6553 : Nat) (z6552 z6551 : Int), True → (0 ≤ z6552 ∧ z6552 ≤ 0) → (0 ≤ z6551 ∧ z6551 ≤ 0) → (z6552 = 1 → allLe μ 118 z6551 6) → 1 < (nL6553 : Int) → sV (gG l D c H0 sa) mX12_wish (sRm 2 0 0) (sZ (gG l D c H0 sa) 0 0 (qI w [184999, 185999, 186999] μ (fun z μ1 => ((-2147483648) ≤ z ∧ z ≤ 2147483647) ∧ True))) 48 [(0, .ref 106), (1, iv z6552), (2, iv z6551)] [] (mk w μ) 0 0 := by
      intro nL6553
      induction nL6553 with
      | zero => intro z6552 z6551 _ h6554 h6555 R6559 h6560; exact ((vc_X12_wish_2 h6560)).elim
      | succ nL6553 ih6561 =>
        intro z6552 z6551 _ h6554 h6555 R6559 h6560
        refine mr_iload_n (pc := 48) (z := z6551) dX12_wish_48 rfl rfl ?_
        refine sv_aload_n (pc := 49) dX12_wish_49 rfl rfl ?_
        refine gk_X12_15 (pc := 50) dX12_wish_50 wF_X12_79 (A_106 hw) q_f_hands ?_
        refine mr_icmp_ge (pc := 53) (tgt := 121) dX12_wish_53 (by decide) (r32 h6555 rfl) (r32 h6541 rfl) (fun h => ((vc_X12_wish_13 h h6541 h6555)).elim) (fun _ => ?_)
        refine mr_iload_n (pc := 56) (z := z6552) dX12_wish_56 rfl rfl ?_
        refine mr_if_eq (pc := 57) (tgt := 121) dX12_wish_57 (by decide) (r32 h6554 rfl) (fun _ => ?_) (fun h => ((vc_X12_wish_14 h h6554)).elim)
        refine mr_iload_n (pc := 121) (z := z6552) dX12_wish_121 rfl rfl ?_
        refine mr_if_ne (pc := 122) (tgt := 127) dX12_wish_122 (by decide) (r32 h6554 rfl) (fun h => ((vc_X12_wish_14 h h6554)).elim) (fun _ => ?_)
        refine mr_iconst (pc := 125) (z := (-1)) dX12_wish_125 ?_
        exact mr_iret dX12_wish_126 rfl (le_t rfl) (le_t rfl) hT mF.refl ⟨(rW (c := (-2147483648)) (d := 2147483647) (rR (x := (-1))) rfl), trivial⟩
    refine mr_lvS (lv' := [(0, .ref 106), (1, iv 0), (2, iv 0)]) (List.forall_mem_cons.mpr ⟨rfl, List.forall_mem_cons.mpr ⟨rfl, List.forall_mem_cons.mpr ⟨rfl, fun _ h => absurd h List.not_mem_nil⟩⟩⟩) ?_
    exact L6553 2 0 0 trivial (rR (x := 0)) (rR (x := 0)) (fun _ => allLe.zero (Int.le_refl 0)) vc_X12_wish_6
  have h6562 : 1 ≤ z6542 ∧ z6542 ≤ 9 := (vc_X12_wish_15 h6545 h6544)
  refine sv_aload_n (pc := 26) dX12_wish_26 rfl rfl ?_
  refine gf_X12_16 (pc := 27) dX12_wish_27 wF_X12_82 (A_106 hw) hT ?_
  refine sv_aload_n (pc := 30) dX12_wish_30 rfl rfl ?_
  refine gk_X12_15 (pc := 31) dX12_wish_31 wF_X12_79 (A_106 hw) q_f_hands ?_
  refine mr_iconst (pc := 34) (z := 1) dX12_wish_34 ?_
  refine mr_isub (pc := 35) (x := f_hands) (y := 1) dX12_wish_35 ?_
  refine la_118 (pc := 36) dX12_wish_36 (A_118 hw) hT (rIx (n := 20) (rSub (e := 1) (f := 6) h6541 (rR (x := 1)) rfl) rfl) fun z6563 q6564 h6565 => ?_
  refine mr_if_ne (pc := 37) (tgt := 44) dX12_wish_37 (by decide) (r32 h6565 rfl) (fun h6566 => ?_) (fun h6566 => ?_)
  · have h6567 : 1 ≤ z6563 ∧ z6563 ≤ 9 := (vc_X12_wish_16 h6566 h6565)
    refine mr_iconst (pc := 44) (z := 0) dX12_wish_44 ?_
    refine mr_istore_n (pc := 45) (lv' := [(1, iv 0), (0, .ref 106)]) dX12_wish_45 rfl (by decide) rfl ?_
    refine mr_iconst (pc := 46) (z := 0) dX12_wish_46 ?_
    refine mr_istore_n (pc := 47) (lv' := [(2, iv 0), (1, iv 0), (0, .ref 106)]) dX12_wish_47 rfl (by decide) rfl ?_
    have L6574 : ∀ (nL6574 : Nat) (z6573 z6572 : Int), True → (0 ≤ z6573 ∧ z6573 ≤ 0) → (0 ≤ z6572 ∧ z6572 ≤ 0) → (z6573 = 1 → allLe μ 118 z6572 6) → 1 < (nL6574 : Int) → sV (gG l D c H0 sa) mX12_wish (sRm 2 0 0) (sZ (gG l D c H0 sa) 0 0 (qI w [184999, 185999, 186999] μ (fun z μ1 => ((-2147483648) ≤ z ∧ z ≤ 2147483647) ∧ True))) 48 [(0, .ref 106), (1, iv z6573), (2, iv z6572)] [] (mk w μ) 0 0 := by
      intro nL6574
      induction nL6574 with
      | zero => intro z6573 z6572 _ h6575 h6576 R6580 h6581; exact ((vc_X12_wish_2 h6581)).elim
      | succ nL6574 ih6582 =>
        intro z6573 z6572 _ h6575 h6576 R6580 h6581
        refine mr_iload_n (pc := 48) (z := z6572) dX12_wish_48 rfl rfl ?_
        refine sv_aload_n (pc := 49) dX12_wish_49 rfl rfl ?_
        refine gk_X12_15 (pc := 50) dX12_wish_50 wF_X12_79 (A_106 hw) q_f_hands ?_
        refine mr_icmp_ge (pc := 53) (tgt := 121) dX12_wish_53 (by decide) (r32 h6576 rfl) (r32 h6541 rfl) (fun h => ((vc_X12_wish_17 h h6541 h6576)).elim) (fun _ => ?_)
        refine mr_iload_n (pc := 56) (z := z6573) dX12_wish_56 rfl rfl ?_
        refine mr_if_eq (pc := 57) (tgt := 121) dX12_wish_57 (by decide) (r32 h6575 rfl) (fun _ => ?_) (fun h => ((vc_X12_wish_18 h h6575)).elim)
        refine mr_iload_n (pc := 121) (z := z6573) dX12_wish_121 rfl rfl ?_
        refine mr_if_ne (pc := 122) (tgt := 127) dX12_wish_122 (by decide) (r32 h6575 rfl) (fun h => ((vc_X12_wish_18 h h6575)).elim) (fun _ => ?_)
        refine mr_iconst (pc := 125) (z := (-1)) dX12_wish_125 ?_
        exact mr_iret dX12_wish_126 rfl (le_t rfl) (le_t rfl) hT mF.refl ⟨(rW (c := (-2147483648)) (d := 2147483647) (rR (x := (-1))) rfl), trivial⟩
    refine mr_lvS (lv' := [(0, .ref 106), (1, iv 0), (2, iv 0)]) (List.forall_mem_cons.mpr ⟨rfl, List.forall_mem_cons.mpr ⟨rfl, List.forall_mem_cons.mpr ⟨rfl, fun _ h => absurd h List.not_mem_nil⟩⟩⟩) ?_
    exact L6574 2 0 0 trivial (rR (x := 0)) (rR (x := 0)) (fun _ => allLe.zero (Int.le_refl 0)) vc_X12_wish_6
  have h6583 : 0 ≤ z6563 ∧ z6563 ≤ 0 := (vc_X12_wish_19 h6566 h6565)
  refine mr_iconst (pc := 40) (z := 1) dX12_wish_40 ?_
  refine sv_goto (pc := 41) (tgt := 45) dX12_wish_41 (by decide) ?_
  refine mr_istore_n (pc := 45) (lv' := [(1, iv 1), (0, .ref 106)]) dX12_wish_45 rfl (by decide) rfl ?_
  refine mr_iconst (pc := 46) (z := 0) dX12_wish_46 ?_
  refine mr_istore_n (pc := 47) (lv' := [(2, iv 0), (1, iv 1), (0, .ref 106)]) dX12_wish_47 rfl (by decide) rfl ?_
  have L7762 : ∀ (nL7762 : Nat) (z7761 z7760 : Int), True → (0 ≤ z7761 ∧ z7761 ≤ 1) → (0 ≤ z7760 ∧ z7760 ≤ 7) → (z7761 = 1 → allLe μ 118 z7760 6) → (8 - z7760) < (nL7762 : Int) → sV (gG l D c H0 sa) mX12_wish (sRm 2 0 0) (sZ (gG l D c H0 sa) 0 0 (qI w [184999, 185999, 186999] μ (fun z μ1 => ((-2147483648) ≤ z ∧ z ≤ 2147483647) ∧ True))) 48 [(0, .ref 106), (1, iv z7761), (2, iv z7760)] [] (mk w μ) 0 0 := by
    intro nL7762
    induction nL7762 with
    | zero => intro z7761 z7760 _ h7763 h7764 R7768 h7769; exact ((vc_X12_wish_20 h7769 h7764)).elim
    | succ nL7762 ih7770 =>
      intro z7761 z7760 _ h7763 h7764 R7768 h7769
      refine mr_iload_n (pc := 48) (z := z7760) dX12_wish_48 rfl rfl ?_
      refine sv_aload_n (pc := 49) dX12_wish_49 rfl rfl ?_
      refine gk_X12_15 (pc := 50) dX12_wish_50 wF_X12_79 (A_106 hw) q_f_hands ?_
      refine mr_icmp_ge (pc := 53) (tgt := 121) dX12_wish_53 (by decide) (r32 h7764 rfl) (r32 h6541 rfl) (fun h7771 => ?_) (fun h7771 => ?_)
      · have h7772 : 2 ≤ z7760 ∧ z7760 ≤ 7 := (vc_X12_wish_21 h7771 h6499 h6524 h6541 h7764)
        refine mr_iload_n (pc := 121) (z := z7761) dX12_wish_121 rfl rfl ?_
        refine mr_if_ne (pc := 122) (tgt := 127) dX12_wish_122 (by decide) (r32 h7763 rfl) (fun h7773 => ?_) (fun h7773 => ?_)
        · have h7774 : 1 ≤ z7761 ∧ z7761 ≤ 1 := (vc_X12_wish_22 h7773 h7763)
          refine sv_aload_n (pc := 127) dX12_wish_127 rfl rfl ?_
          refine gf_X12_16 (pc := 128) dX12_wish_128 wF_X12_82 (A_106 hw) hT ?_
          refine mr_iconst (pc := 131) (z := 0) dX12_wish_131 ?_
          refine lk_118 (pc := 132) dX12_wish_132 (A_118 hw) (rIx (n := 20) (rR (x := 0)) rfl) q6543 ?_
          have h7775 : z6542 ≤ 6 := allLe.at (R7768 (vc_X12_wish_23 h7773 h7774)) vc_X12_wish_24 (vc_X12_wish_25 h6499 h6524 h7771 h6541 h7772) q6543
          have h7776 : 1 ≤ z6542 ∧ z6542 ≤ 6 := (vc_X12_wish_26 h7775 h6545 h6562)
          refine mr_istore_n (pc := 133) (lv' := [(2, iv z6542), (0, .ref 106), (1, iv z7761)]) dX12_wish_133 rfl (by decide) rfl ?_
          refine mr_iconst (pc := 134) (z := 0) dX12_wish_134 ?_
          refine mr_istore_n (pc := 135) (lv' := [(3, iv 0), (2, iv z6542), (0, .ref 106), (1, iv z7761)]) dX12_wish_135 rfl (by decide) rfl ?_
          have L8076 : ∀ (nL8076 : Nat) (z8075 : Int), True → (0 ≤ z8075 ∧ z8075 ≤ 5) → (6 - z8075) < (nL8076 : Int) → sV (gG l D c H0 sa) mX12_wish (sRm 2 0 0) (sZ (gG l D c H0 sa) 0 0 (qI w [184999, 185999, 186999] μ (fun z μ1 => ((-2147483648) ≤ z ∧ z ≤ 2147483647) ∧ True))) 136 [(0, .ref 106), (2, iv z6542), (3, iv z8075)] [] (mk w μ) 0 0 := by
            intro nL8076
            induction nL8076 with
            | zero => intro z8075 _ h8077 h8081; exact ((vc_X12_wish_27 h8081 h8077)).elim
            | succ nL8076 ih8082 =>
              intro z8075 _ h8077 h8081
              refine mr_iload_n (pc := 136) (z := z8075) dX12_wish_136 rfl rfl ?_
              refine sv_aload_n (pc := 137) dX12_wish_137 rfl rfl ?_
              refine gf_X12_118 (pc := 138) dX12_wish_138 wF_X12_514 (A_106 hw) hT ?_
              refine mr_iload_n (pc := 141) (z := z6542) dX12_wish_141 rfl rfl ?_
              refine la_184 (pc := 142) dX12_wish_142 (A_184 hw) hT (rIx (n := 7) h7776 rfl) fun z8083 q8084 h8085 => ?_
              refine mr_icmp_ge (pc := 143) (tgt := 164) dX12_wish_143 (by decide) (r32 h8077 rfl) (r32 h8085 rfl) (fun h8086 => ?_) (fun h8086 => ?_)
              · refine sv_aload_n (pc := 164) dX12_wish_164 rfl rfl ?_
                refine gf_X12_118 (pc := 165) dX12_wish_165 wF_X12_514 (A_106 hw) hT ?_
                refine mr_iload_n (pc := 168) (z := z6542) dX12_wish_168 rfl rfl ?_
                refine lk_184 (pc := 169) dX12_wish_169 (A_184 hw) (rIx (n := 7) h7776 rfl) q8084 ?_
                refine mr_iconst (pc := 170) (z := 5) dX12_wish_170 ?_
                refine mr_icmp_ne (pc := 171) (tgt := 177) dX12_wish_171 (by decide) (r32 h8085 rfl) (r32 (rR (x := 5)) rfl) (fun h8087 => ?_) (fun h8087 => ?_)
                · have h8088 : 0 ≤ z8083 ∧ z8083 ≤ 4 := (vc_X12_wish_28 h8087 h8086 h8077 h8085)
                  refine mr_iconst (pc := 177) (z := 5) dX12_wish_177 ?_
                  refine mr_iload_n (pc := 178) (z := z6542) dX12_wish_178 rfl rfl ?_
                  refine mr_imul (pc := 179) (x := 5) (y := z6542) dX12_wish_179 ?_
                  refine sv_aload_n (pc := 180) dX12_wish_180 rfl rfl ?_
                  refine gf_X12_118 (pc := 181) dX12_wish_181 wF_X12_514 (A_106 hw) hT ?_
                  refine mr_iload_n (pc := 184) (z := z6542) dX12_wish_184 rfl rfl ?_
                  refine lk_184 (pc := 185) dX12_wish_185 (A_184 hw) (rIx (n := 7) h7776 rfl) q8084 ?_
                  refine mr_iadd (pc := 186) (x := (5 * z6542)) (y := z8083) dX12_wish_186 ?_
                  refine mr_istore_n (pc := 187) (lv' := [(3, iv ((5 * z6542) + z8083)), (0, .ref 106), (2, iv z6542)]) dX12_wish_187 rfl (by decide) rfl ?_
                  refine sv_aload_n (pc := 188) dX12_wish_188 rfl rfl ?_
                  refine gf_X12_119 (pc := 189) dX12_wish_189 wF_X12_517 (A_106 hw) hT ?_
                  refine mr_iload_n (pc := 192) (z := ((5 * z6542) + z8083)) dX12_wish_192 rfl rfl ?_
                  refine sv_aload_n (pc := 193) dX12_wish_193 rfl rfl ?_
                  refine gk_X12_15 (pc := 194) dX12_wish_194 wF_X12_79 (A_106 hw) q_f_hands ?_
                  refine ss_185 (pc := 197) dX12_wish_197 (A_185 hw) hT (rIx (n := 35) (rAdd (e := 5) (f := 34) (rMulL (n := 5) (e := 5) (f := 30) h7776 rfl) h8088 rfl) rfl) (rW (c := 0) (d := 7) h6541 rfl) fun μ8089 u8090 T8091 => ?_
                  refine mr_iconst (pc := 198) (z := 0) dX12_wish_198 ?_
                  refine mr_istore (pc := 199) (lv' := [(4, iv 0), (3, iv ((5 * z6542) + z8083)), (0, .ref 106), (2, iv z6542)]) dX12_wish_199 (by decide) rfl ?_
                  have L8201 : ∀ (nL8201 : Nat) (z8199 : Int) (μ8200 : mM), mT w μ8200 → mF [186999] w μ8089 μ8200 → (0 ≤ z8199 ∧ z8199 ≤ 7) → (8 - z8199) < (nL8201 : Int) → sV (gG l D c H0 sa) mX12_wish (sRm 2 0 0) (sZ (gG l D c H0 sa) 0 0 (qI w [184999, 185999, 186999] μ (fun z μ1 => ((-2147483648) ≤ z ∧ z ≤ 2147483647) ∧ True))) 201 [(0, .ref 106), (2, iv z6542), (3, iv ((5 * z6542) + z8083)), (4, iv z8199)] [] (mk w μ8200) 0 0 := by
                    intro nL8201
                    induction nL8201 with
                    | zero => intro z8199 μ8200 T8203 F8204 h8202 h8206; exact ((vc_X12_wish_29 h8206 h8202)).elim
                    | succ nL8201 ih8207 =>
                      intro z8199 μ8200 T8203 F8204 h8202 h8206
                      refine mr_iload (pc := 201) (z := z8199) dX12_wish_201 rfl ?_
                      refine sv_aload_n (pc := 203) dX12_wish_203 rfl rfl ?_
                      refine gk_X12_15 (pc := 204) dX12_wish_204 wF_X12_79 (A_106 hw) (F8204.f (A_106 hw) rfl (u8090.f (Or.inl (mAt.ne (A_185 hw) (A_106 hw) rfl)) q_f_hands)) ?_
                      refine mr_icmp_ge (pc := 207) (tgt := 235) dX12_wish_207 (by decide) (r32 h8202 rfl) (r32 h6541 rfl) (fun h8216 => ?_) (fun h8216 => ?_)
                      · have h8217 : 2 ≤ z8199 ∧ z8199 ≤ 7 := (vc_X12_wish_30 h8216 h6499 h6524 h7771 h6541 h7772 h8202)
                        refine sv_aload_n (pc := 235) dX12_wish_235 rfl rfl ?_
                        refine gf_X12_118 (pc := 236) dX12_wish_236 wF_X12_514 (A_106 hw) T8203 ?_
                        refine mr_iload_n (pc := 239) (z := z6542) dX12_wish_239 rfl rfl ?_
                        refine sv_dup2 (pc := 240) dX12_wish_240 rfl rfl ?_
                        refine lk_184 (pc := 241) dX12_wish_241 (A_184 hw) (rIx (n := 7) h7776 rfl) (F8204.f (A_184 hw) rfl (u8090.f (Or.inl (mAt.ne (A_185 hw) (A_184 hw) rfl)) q8084)) ?_
                        refine mr_iconst (pc := 242) (z := 1) dX12_wish_242 ?_
                        refine mr_iadd (pc := 243) (x := z8083) (y := 1) dX12_wish_243 ?_
                        refine ss_184 (pc := 244) dX12_wish_244 (A_184 hw) T8203 (rIx (n := 7) h7776 rfl) (rW (c := 0) (d := 5) (rAdd (e := 1) (f := 5) h8088 (rR (x := 1)) rfl) rfl) fun μ8218 u8219 T8220 => ?_
                        refine sv_aload_n (pc := 245) dX12_wish_245 rfl rfl ?_
                        refine gf_X12_118 (pc := 246) dX12_wish_246 wF_X12_514 (A_106 hw) T8220 ?_
                        refine mr_iload_n (pc := 249) (z := z6542) dX12_wish_249 rfl rfl ?_
                        refine lk_184 (pc := 250) dX12_wish_250 (A_184 hw) (rIx (n := 7) h7776 rfl) u8219.1 ?_
                        exact mr_iret dX12_wish_251 rfl (le_t rfl) (le_t rfl) T8220 (mF.up (mF.call (mF.up mF.refl (A_185 hw) u8090 rfl) F8204 rfl) (A_184 hw) u8219 rfl) ⟨(rW (c := (-2147483648)) (d := 2147483647) (rAdd (e := 1) (f := 5) h8088 (rR (x := 1)) rfl) rfl), trivial⟩
                      have h8221 : 0 ≤ z8199 ∧ z8199 ≤ 6 := (vc_X12_wish_31 h8216 h6499 h6524 h7771 h6541 h7772 h8202)
                      refine sv_aload_n (pc := 210) dX12_wish_210 rfl rfl ?_
                      refine gf_X12_120 (pc := 211) dX12_wish_211 wF_X12_520 (A_106 hw) T8203 ?_
                      refine mr_bipush (pc := 214) (z := 8) dX12_wish_214 (by decide) ?_
                      refine mr_iload_n (pc := 216) (z := ((5 * z6542) + z8083)) dX12_wish_216 rfl rfl ?_
                      refine mr_imul (pc := 217) (x := 8) (y := ((5 * z6542) + z8083)) dX12_wish_217 ?_
                      refine mr_iload (pc := 218) (z := z8199) dX12_wish_218 rfl ?_
                      refine mr_iadd (pc := 220) (x := (8 * ((5 * z6542) + z8083))) (y := z8199) dX12_wish_220 ?_
                      refine sv_aload_n (pc := 221) dX12_wish_221 rfl rfl ?_
                      refine gf_X12_16 (pc := 222) dX12_wish_222 wF_X12_82 (A_106 hw) T8203 ?_
                      refine mr_iload (pc := 225) (z := z8199) dX12_wish_225 rfl ?_
                      refine la_118 (pc := 227) dX12_wish_227 (A_118 hw) T8203 (rIx (n := 20) h8221 rfl) fun z8222 q8223 h8224 => ?_
                      have h8225 : z8222 ≤ 6 := allLe.at (R7768 (vc_X12_wish_23 h7773 h7774)) (vc_X12_wish_32 h8216 h6499 h6524 h7771 h6541 h7772 h8221) (vc_X12_wish_33 h6499 h6524 h7771 h8216 h6541 h7772 h8221) ((((mF.call (mF.up mF.refl (A_185 hw) u8090 rfl) F8204 rfl) : mF [185999, 186999] w μ μ8200).f (A_118 hw) rfl rfl).symm.trans q8223)
                      have h8226 : 0 ≤ z8222 ∧ z8222 ≤ 6 := (vc_X12_wish_34 h8225 h8224)
                      refine ss_186 (pc := 228) dX12_wish_228 (A_186 hw) T8203 (rIx (n := 280) (rAdd (e := 40) (f := 278) (rMulL (n := 8) (e := 40) (f := 272) (rAdd (e := 5) (f := 34) (rMulL (n := 5) (e := 5) (f := 30) h7776 rfl) h8088 rfl) rfl) h8221 rfl) rfl) h8226 fun μ8227 u8228 T8229 => ?_
                      refine mr_iinc (pc := 229) (lv' := [(4, iv (z8199 + 1)), (0, .ref 106), (2, iv z6542), (3, iv ((5 * z6542) + z8083))]) dX12_wish_229 rfl (by decide) rfl ?_
                      refine sv_goto (pc := 232) (tgt := 201) dX12_wish_232 (by decide) ?_
                      refine mr_lvS (lv' := [(0, .ref 106), (2, iv z6542), (3, iv ((5 * z6542) + z8083)), (4, iv (z8199 + 1))]) (List.forall_mem_cons.mpr ⟨rfl, List.forall_mem_cons.mpr ⟨rfl, List.forall_mem_cons.mpr ⟨rfl, List.forall_mem_cons.mpr ⟨rfl, fun _ h => absurd h List.not_mem_nil⟩⟩⟩⟩) ?_
                      exact ih8207 (z8199 + 1) μ8227 T8229 (mF.up (mF.call mF.refl F8204 rfl) (A_186 hw) u8228 rfl) (rW (c := 0) (d := 7) (rAdd (e := 1) (f := 7) h8221 (rR (x := 1)) rfl) rfl) (vc_X12_wish_35 (nS h8206) h8216 h6499 h6524 h7771 h6541 h7772 h8221)
                  refine mr_lvS (lv' := [(0, .ref 106), (2, iv z6542), (3, iv ((5 * z6542) + z8083)), (4, iv 0)]) (List.forall_mem_cons.mpr ⟨rfl, List.forall_mem_cons.mpr ⟨rfl, List.forall_mem_cons.mpr ⟨rfl, List.forall_mem_cons.mpr ⟨rfl, fun _ h => absurd h List.not_mem_nil⟩⟩⟩⟩) ?_
                  exact L8201 9 0 μ8089 T8091 mF.refl (rW (c := 0) (d := 7) (rR (x := 0)) rfl) vc_X12_wish_36
                have h8230 : 5 ≤ z8083 ∧ z8083 ≤ 5 := (vc_X12_wish_37 h8087 h8086 h8077 h8085)
                refine mr_bipush (pc := 174) (z := (-3)) dX12_wish_174 (by decide) ?_
                exact mr_iret dX12_wish_176 rfl (le_t rfl) (le_t rfl) hT mF.refl ⟨(rW (c := (-2147483648)) (d := 2147483647) (rR (x := (-3))) rfl), trivial⟩
              have h8231 : 0 ≤ z8075 ∧ z8075 ≤ 4 := (vc_X12_wish_38 h8086 h8077 h8085)
              have h8232 : 1 ≤ z8083 ∧ z8083 ≤ 5 := (vc_X12_wish_39 h8086 h8231 h8085)
              refine sv_aload_n (pc := 146) dX12_wish_146 rfl rfl ?_
              refine mr_iload_n (pc := 147) (z := z6542) dX12_wish_147 rfl rfl ?_
              refine mr_iload_n (pc := 148) (z := z8075) dX12_wish_148 rfl rfl ?_
              refine mr_cVP (pc := 149) (c_X12_isWished hw hT (rW (c := 0) (d := 6) h7776 rfl) h8231 q_f_hands (vc_X12_wish_40 h6499 h6524 h7771 h6541 h7772)) (gOk _ _ _ _ _) dX12_wish_149 (tX12_isWished _ _ _ _ _) ⟨wV_X12_isWished, wL_X12_isWished⟩ wM_X12_716 (gCX12 _ _ _ _ _) rfl (A_106 hw) rfl ⟨le_t rfl, le_t rfl⟩ ⟨le_t rfl, le_t rfl⟩ rfl (le_t rfl) fun z8237 h8236 => ?_
              refine mr_if_eq (pc := 152) (tgt := 158) dX12_wish_152 (by decide) (r32 h8236.1 rfl) (fun h8238 => ?_) (fun h8238 => ?_)
              · have h8239 : 0 ≤ z8237 ∧ z8237 ≤ 0 := (vc_X12_wish_41 h8238 h8236.1)
                refine mr_iinc (pc := 158) (lv' := [(3, iv (z8075 + 1)), (0, .ref 106), (2, iv z6542)]) dX12_wish_158 rfl (by decide) rfl ?_
                refine sv_goto (pc := 161) (tgt := 136) dX12_wish_161 (by decide) ?_
                refine mr_lvS (lv' := [(0, .ref 106), (2, iv z6542), (3, iv (z8075 + 1))]) (List.forall_mem_cons.mpr ⟨rfl, List.forall_mem_cons.mpr ⟨rfl, List.forall_mem_cons.mpr ⟨rfl, fun _ h => absurd h List.not_mem_nil⟩⟩⟩) ?_
                exact ih8082 (z8075 + 1) trivial (rW (c := 0) (d := 5) (rAdd (e := 1) (f := 5) h8231 (rR (x := 1)) rfl) rfl) (vc_X12_wish_42 (nS h8081) h8086 h8231 h8232)
              have h8240 : 1 ≤ z8237 ∧ z8237 ≤ 1 := (vc_X12_wish_43 h8238 h8236.1)
              refine mr_bipush (pc := 155) (z := (-2)) dX12_wish_155 (by decide) ?_
              exact mr_iret dX12_wish_157 rfl (le_t rfl) (le_t rfl) hT mF.refl ⟨(rW (c := (-2147483648)) (d := 2147483647) (rR (x := (-2))) rfl), trivial⟩
          refine mr_lvS (lv' := [(0, .ref 106), (2, iv z6542), (3, iv 0)]) (List.forall_mem_cons.mpr ⟨rfl, List.forall_mem_cons.mpr ⟨rfl, List.forall_mem_cons.mpr ⟨rfl, fun _ h => absurd h List.not_mem_nil⟩⟩⟩) ?_
          exact L8076 7 0 trivial (rW (c := 0) (d := 5) (rR (x := 0)) rfl) vc_X12_wish_44
        have h8241 : 0 ≤ z7761 ∧ z7761 ≤ 0 := (vc_X12_wish_45 h7773 h7763)
        refine mr_iconst (pc := 125) (z := (-1)) dX12_wish_125 ?_
        exact mr_iret dX12_wish_126 rfl (le_t rfl) (le_t rfl) hT mF.refl ⟨(rW (c := (-2147483648)) (d := 2147483647) (rR (x := (-1))) rfl), trivial⟩
      have h8242 : 0 ≤ z7760 ∧ z7760 ≤ 6 := (vc_X12_wish_46 h7771 h6499 h6524 h6541 h7764)
      refine mr_iload_n (pc := 56) (z := z7761) dX12_wish_56 rfl rfl ?_
      refine mr_if_eq (pc := 57) (tgt := 121) dX12_wish_57 (by decide) (r32 h7763 rfl) (fun h8243 => ?_) (fun h8243 => ?_)
      · have h8244 : 0 ≤ z7761 ∧ z7761 ≤ 0 := (vc_X12_wish_45 h8243 h7763)
        refine mr_iload_n (pc := 121) (z := z7761) dX12_wish_121 rfl rfl ?_
        refine mr_if_ne (pc := 122) (tgt := 127) dX12_wish_122 (by decide) (r32 h8244 rfl) (fun h => ((vc_X12_wish_47 h h8244)).elim) (fun _ => ?_)
        refine mr_iconst (pc := 125) (z := (-1)) dX12_wish_125 ?_
        exact mr_iret dX12_wish_126 rfl (le_t rfl) (le_t rfl) hT mF.refl ⟨(rW (c := (-2147483648)) (d := 2147483647) (rR (x := (-1))) rfl), trivial⟩
      have h8245 : 1 ≤ z7761 ∧ z7761 ≤ 1 := (vc_X12_wish_22 h8243 h7763)
      refine sv_aload_n (pc := 60) dX12_wish_60 rfl rfl ?_
      refine gf_X12_16 (pc := 61) dX12_wish_61 wF_X12_82 (A_106 hw) hT ?_
      refine mr_iload_n (pc := 64) (z := z7760) dX12_wish_64 rfl rfl ?_
      refine la_118 (pc := 65) dX12_wish_65 (A_118 hw) hT (rIx (n := 20) h8242 rfl) fun z8246 q8247 h8248 => ?_
      refine mr_bipush (pc := 66) (z := 6) dX12_wish_66 (by decide) ?_
      refine mr_icmp_gt (pc := 68) (tgt := 75) dX12_wish_68 (by decide) (r32 h8248 rfl) (r32 (rR (x := 6)) rfl) (fun h8249 => ?_) (fun h8249 => ?_)
      · have h8250 : 7 ≤ z8246 ∧ z8246 ≤ 9 := (vc_X12_wish_48 h8249 h8248)
        refine mr_iconst (pc := 75) (z := 0) dX12_wish_75 ?_
        refine mr_istore_n (pc := 76) (lv' := [(1, iv 0), (0, .ref 106), (2, iv z7760)]) dX12_wish_76 rfl (by decide) rfl ?_
        refine mr_iconst (pc := 77) (z := 0) dX12_wish_77 ?_
        refine mr_istore_n (pc := 78) (lv' := [(3, iv 0), (1, iv 0), (0, .ref 106), (2, iv z7760)]) dX12_wish_78 rfl (by decide) rfl ?_
        have L8285 : ∀ (nL8285 : Nat) (z8284 z8283 : Int), True → (0 ≤ z8284 ∧ z8284 ≤ 0) → (0 ≤ z8283 ∧ z8283 ≤ 6) → (7 - z8283) < (nL8285 : Int) → sV (gG l D c H0 sa) mX12_wish (sRm 2 0 0) (sZ (gG l D c H0 sa) 0 0 (qI w [184999, 185999, 186999] μ (fun z μ1 => ((-2147483648) ≤ z ∧ z ≤ 2147483647) ∧ True))) 79 [(0, .ref 106), (1, iv z8284), (2, iv z7760), (3, iv z8283)] [] (mk w μ) 0 0 := by
          intro nL8285
          induction nL8285 with
          | zero => intro z8284 z8283 _ h8286 h8287 h8291; exact ((vc_X12_wish_49 h8291 h8287)).elim
          | succ nL8285 ih8292 =>
            intro z8284 z8283 _ h8286 h8287 h8291
            refine mr_iload_n (pc := 79) (z := z8283) dX12_wish_79 rfl rfl ?_
            refine mr_iload_n (pc := 80) (z := z7760) dX12_wish_80 rfl rfl ?_
            refine mr_icmp_ge (pc := 81) (tgt := 115) dX12_wish_81 (by decide) (r32 h8287 rfl) (r32 h8242 rfl) (fun h8295 => ?_) (fun h8295 => ?_)
            · refine mr_iinc (pc := 115) (lv' := [(2, iv (z7760 + 1)), (0, .ref 106), (1, iv z8284), (3, iv z8283)]) dX12_wish_115 rfl (by decide) rfl ?_
              refine sv_goto (pc := 118) (tgt := 48) dX12_wish_118 (by decide) ?_
              refine mr_lvS (lv' := [(0, .ref 106), (1, iv z8284), (2, iv (z7760 + 1))]) (List.forall_mem_cons.mpr ⟨rfl, List.forall_mem_cons.mpr ⟨rfl, List.forall_mem_cons.mpr ⟨rfl, fun _ h => absurd h List.not_mem_nil⟩⟩⟩) ?_
              exact ih7770 z8284 (z7760 + 1) trivial (rW (c := 0) (d := 1) h8286 rfl) (rW (c := 0) (d := 7) (rAdd (e := 1) (f := 7) h8242 (rR (x := 1)) rfl) rfl) (fun h => absurd h (vc_X12_wish_51 h8286)) (vc_X12_wish_50 (nS h7769) h7771 h8295 h6499 h6524 h6541 h8242 h8287)
            have h8296 : 0 ≤ z8283 ∧ z8283 ≤ 5 := (vc_X12_wish_52 h8295 h7771 h6541 h8242 h8287)
            have h8297 : 1 ≤ z7760 ∧ z7760 ≤ 6 := (vc_X12_wish_53 h8295 h7771 h6541 h8242 h8296)
            refine mr_iload_n (pc := 84) (z := z8284) dX12_wish_84 rfl rfl ?_
            refine mr_if_eq (pc := 85) (tgt := 107) dX12_wish_85 (by decide) (r32 h8286 rfl) (fun _ => ?_) (fun h => ((vc_X12_wish_54 h h8286)).elim)
            refine mr_iconst (pc := 107) (z := 0) dX12_wish_107 ?_
            refine mr_istore_n (pc := 108) (lv' := [(1, iv 0), (0, .ref 106), (2, iv z7760), (3, iv z8283)]) dX12_wish_108 rfl (by decide) rfl ?_
            refine mr_iinc (pc := 109) (lv' := [(3, iv (z8283 + 1)), (1, iv 0), (0, .ref 106), (2, iv z7760)]) dX12_wish_109 rfl (by decide) rfl ?_
            refine sv_goto (pc := 112) (tgt := 79) dX12_wish_112 (by decide) ?_
            refine mr_lvS (lv' := [(0, .ref 106), (1, iv 0), (2, iv z7760), (3, iv (z8283 + 1))]) (List.forall_mem_cons.mpr ⟨rfl, List.forall_mem_cons.mpr ⟨rfl, List.forall_mem_cons.mpr ⟨rfl, List.forall_mem_cons.mpr ⟨rfl, fun _ h => absurd h List.not_mem_nil⟩⟩⟩⟩) ?_
            exact ih8292 0 (z8283 + 1) trivial (rR (x := 0)) (rW (c := 0) (d := 6) (rAdd (e := 1) (f := 6) h8296 (rR (x := 1)) rfl) rfl) (vc_X12_wish_55 (nS h8291) h8295 h7771 h6541 h8297 h8296)
        refine mr_lvS (lv' := [(0, .ref 106), (1, iv 0), (2, iv z7760), (3, iv 0)]) (List.forall_mem_cons.mpr ⟨rfl, List.forall_mem_cons.mpr ⟨rfl, List.forall_mem_cons.mpr ⟨rfl, List.forall_mem_cons.mpr ⟨rfl, fun _ h => absurd h List.not_mem_nil⟩⟩⟩⟩) ?_
        exact L8285 8 0 0 trivial (rR (x := 0)) (rW (c := 0) (d := 6) (rR (x := 0)) rfl) vc_X12_wish_56
      have h8298 : 0 ≤ z8246 ∧ z8246 ≤ 6 := (vc_X12_wish_57 h8249 h8248)
      refine mr_iconst (pc := 71) (z := 1) dX12_wish_71 ?_
      refine sv_goto (pc := 72) (tgt := 76) dX12_wish_72 (by decide) ?_
      refine mr_istore_n (pc := 76) (lv' := [(1, iv 1), (0, .ref 106), (2, iv z7760)]) dX12_wish_76 rfl (by decide) rfl ?_
      refine mr_iconst (pc := 77) (z := 0) dX12_wish_77 ?_
      refine mr_istore_n (pc := 78) (lv' := [(3, iv 0), (1, iv 1), (0, .ref 106), (2, iv z7760)]) dX12_wish_78 rfl (by decide) rfl ?_
      have L8379 : ∀ (nL8379 : Nat) (z8378 z8377 : Int), True → (0 ≤ z8378 ∧ z8378 ≤ 1) → (0 ≤ z8377 ∧ z8377 ≤ 6) → (7 - z8377) < (nL8379 : Int) → sV (gG l D c H0 sa) mX12_wish (sRm 2 0 0) (sZ (gG l D c H0 sa) 0 0 (qI w [184999, 185999, 186999] μ (fun z μ1 => ((-2147483648) ≤ z ∧ z ≤ 2147483647) ∧ True))) 79 [(0, .ref 106), (1, iv z8378), (2, iv z7760), (3, iv z8377)] [] (mk w μ) 0 0 := by
        intro nL8379
        induction nL8379 with
        | zero => intro z8378 z8377 _ h8380 h8381 h8385; exact ((vc_X12_wish_58 h8385 h8381)).elim
        | succ nL8379 ih8386 =>
          intro z8378 z8377 _ h8380 h8381 h8385
          refine mr_iload_n (pc := 79) (z := z8377) dX12_wish_79 rfl rfl ?_
          refine mr_iload_n (pc := 80) (z := z7760) dX12_wish_80 rfl rfl ?_
          refine mr_icmp_ge (pc := 81) (tgt := 115) dX12_wish_81 (by decide) (r32 h8381 rfl) (r32 h8242 rfl) (fun h8395 => ?_) (fun h8395 => ?_)
          · refine mr_iinc (pc := 115) (lv' := [(2, iv (z7760 + 1)), (0, .ref 106), (1, iv z8378), (3, iv z8377)]) dX12_wish_115 rfl (by decide) rfl ?_
            refine sv_goto (pc := 118) (tgt := 48) dX12_wish_118 (by decide) ?_
            refine mr_lvS (lv' := [(0, .ref 106), (1, iv z8378), (2, iv (z7760 + 1))]) (List.forall_mem_cons.mpr ⟨rfl, List.forall_mem_cons.mpr ⟨rfl, List.forall_mem_cons.mpr ⟨rfl, fun _ h => absurd h List.not_mem_nil⟩⟩⟩) ?_
            exact ih7770 z8378 (z7760 + 1) trivial h8380 (rW (c := 0) (d := 7) (rAdd (e := 1) (f := 7) h8242 (rR (x := 1)) rfl) rfl) (fun _ => allLe.succ (R7768 (vc_X12_wish_23 h8243 h8245)) q8247 (vc_X12_wish_60 h8249 h8298)) (vc_X12_wish_59 (nS h7769) h7771 h8395 h6499 h6524 h6541 h8242 h8381)
          have h8396 : 0 ≤ z8377 ∧ z8377 ≤ 5 := (vc_X12_wish_61 h8395 h7771 h6541 h8242 h8381)
          have h8397 : 1 ≤ z7760 ∧ z7760 ≤ 6 := (vc_X12_wish_62 h8395 h7771 h6541 h8242 h8396)
          refine mr_iload_n (pc := 84) (z := z8378) dX12_wish_84 rfl rfl ?_
          refine mr_if_eq (pc := 85) (tgt := 107) dX12_wish_85 (by decide) (r32 h8380 rfl) (fun h8404 => ?_) (fun h8404 => ?_)
          · have h8405 : 0 ≤ z8378 ∧ z8378 ≤ 0 := (vc_X12_wish_63 h8404 h8380)
            refine mr_iconst (pc := 107) (z := 0) dX12_wish_107 ?_
            refine mr_istore_n (pc := 108) (lv' := [(1, iv 0), (0, .ref 106), (2, iv z7760), (3, iv z8377)]) dX12_wish_108 rfl (by decide) rfl ?_
            refine mr_iinc (pc := 109) (lv' := [(3, iv (z8377 + 1)), (1, iv 0), (0, .ref 106), (2, iv z7760)]) dX12_wish_109 rfl (by decide) rfl ?_
            refine sv_goto (pc := 112) (tgt := 79) dX12_wish_112 (by decide) ?_
            refine mr_lvS (lv' := [(0, .ref 106), (1, iv 0), (2, iv z7760), (3, iv (z8377 + 1))]) (List.forall_mem_cons.mpr ⟨rfl, List.forall_mem_cons.mpr ⟨rfl, List.forall_mem_cons.mpr ⟨rfl, List.forall_mem_cons.mpr ⟨rfl, fun _ h => absurd h List.not_mem_nil⟩⟩⟩⟩) ?_
            exact ih8386 0 (z8377 + 1) trivial (rW (c := 0) (d := 1) (rR (x := 0)) rfl) (rW (c := 0) (d := 6) (rAdd (e := 1) (f := 6) h8396 (rR (x := 1)) rfl) rfl) (vc_X12_wish_64 (nS h8385) h8395 h7771 h6541 h8397 h8396)
          have h8406 : 1 ≤ z8378 ∧ z8378 ≤ 1 := (vc_X12_wish_65 h8404 h8380)
          refine sv_aload_n (pc := 88) dX12_wish_88 rfl rfl ?_
          refine gf_X12_16 (pc := 89) dX12_wish_89 wF_X12_82 (A_106 hw) hT ?_
          refine mr_iload_n (pc := 92) (z := z7760) dX12_wish_92 rfl rfl ?_
          refine lk_118 (pc := 93) dX12_wish_93 (A_118 hw) (rIx (n := 20) h8397 rfl) q8247 ?_
          refine sv_aload_n (pc := 94) dX12_wish_94 rfl rfl ?_
          refine gf_X12_16 (pc := 95) dX12_wish_95 wF_X12_82 (A_106 hw) hT ?_
          refine mr_iload_n (pc := 98) (z := z8377) dX12_wish_98 rfl rfl ?_
          refine la_118 (pc := 99) dX12_wish_99 (A_118 hw) hT (rIx (n := 20) h8396 rfl) fun z8407 q8408 h8409 => ?_
          refine mr_icmp_eq (pc := 100) (tgt := 107) dX12_wish_100 (by decide) (r32 h8298 rfl) (r32 h8409 rfl) (fun h8411 => ?_) (fun h8411 => ?_)
          · have h8412 : 0 ≤ z8407 ∧ z8407 ≤ 6 := (vc_X12_wish_66 h8411 h8249 h8298 h8409)
            refine mr_iconst (pc := 107) (z := 0) dX12_wish_107 ?_
            refine mr_istore_n (pc := 108) (lv' := [(1, iv 0), (0, .ref 106), (2, iv z7760), (3, iv z8377)]) dX12_wish_108 rfl (by decide) rfl ?_
            refine mr_iinc (pc := 109) (lv' := [(3, iv (z8377 + 1)), (1, iv 0), (0, .ref 106), (2, iv z7760)]) dX12_wish_109 rfl (by decide) rfl ?_
            refine sv_goto (pc := 112) (tgt := 79) dX12_wish_112 (by decide) ?_
            refine mr_lvS (lv' := [(0, .ref 106), (1, iv 0), (2, iv z7760), (3, iv (z8377 + 1))]) (List.forall_mem_cons.mpr ⟨rfl, List.forall_mem_cons.mpr ⟨rfl, List.forall_mem_cons.mpr ⟨rfl, List.forall_mem_cons.mpr ⟨rfl, fun _ h => absurd h List.not_mem_nil⟩⟩⟩⟩) ?_
            exact ih8386 0 (z8377 + 1) trivial (rW (c := 0) (d := 1) (rR (x := 0)) rfl) (rW (c := 0) (d := 6) (rAdd (e := 1) (f := 6) h8396 (rR (x := 1)) rfl) rfl) (vc_X12_wish_64 (nS h8385) h8395 h7771 h6541 h8397 h8396)
          refine mr_iconst (pc := 103) (z := 1) dX12_wish_103 ?_
          refine sv_goto (pc := 104) (tgt := 108) dX12_wish_104 (by decide) ?_
          refine mr_istore_n (pc := 108) (lv' := [(1, iv 1), (0, .ref 106), (2, iv z7760), (3, iv z8377)]) dX12_wish_108 rfl (by decide) rfl ?_
          refine mr_iinc (pc := 109) (lv' := [(3, iv (z8377 + 1)), (1, iv 1), (0, .ref 106), (2, iv z7760)]) dX12_wish_109 rfl (by decide) rfl ?_
          refine sv_goto (pc := 112) (tgt := 79) dX12_wish_112 (by decide) ?_
          refine mr_lvS (lv' := [(0, .ref 106), (1, iv 1), (2, iv z7760), (3, iv (z8377 + 1))]) (List.forall_mem_cons.mpr ⟨rfl, List.forall_mem_cons.mpr ⟨rfl, List.forall_mem_cons.mpr ⟨rfl, List.forall_mem_cons.mpr ⟨rfl, fun _ h => absurd h List.not_mem_nil⟩⟩⟩⟩) ?_
          exact ih8386 1 (z8377 + 1) trivial (rW (c := 0) (d := 1) (rR (x := 1)) rfl) (rW (c := 0) (d := 6) (rAdd (e := 1) (f := 6) h8396 (rR (x := 1)) rfl) rfl) (vc_X12_wish_64 (nS h8385) h8395 h7771 h6541 h8397 h8396)
      refine mr_lvS (lv' := [(0, .ref 106), (1, iv 1), (2, iv z7760), (3, iv 0)]) (List.forall_mem_cons.mpr ⟨rfl, List.forall_mem_cons.mpr ⟨rfl, List.forall_mem_cons.mpr ⟨rfl, List.forall_mem_cons.mpr ⟨rfl, fun _ h => absurd h List.not_mem_nil⟩⟩⟩⟩) ?_
      exact L8379 8 1 0 trivial (rW (c := 0) (d := 1) (rR (x := 1)) rfl) (rW (c := 0) (d := 6) (rR (x := 0)) rfl) vc_X12_wish_56
  refine mr_lvS (lv' := [(0, .ref 106), (1, iv 1), (2, iv 0)]) (List.forall_mem_cons.mpr ⟨rfl, List.forall_mem_cons.mpr ⟨rfl, List.forall_mem_cons.mpr ⟨rfl, fun _ h => absurd h List.not_mem_nil⟩⟩⟩) ?_
  exact L7762 9 1 0 trivial (rW (c := 0) (d := 1) (rR (x := 1)) rfl) (rW (c := 0) (d := 7) (rR (x := 0)) rfl) (fun _ => allLe.zero (Int.le_refl 0)) vc_X12_wish_36
theorem vc_X12_goes_1 {f_m : Int} (h0 : (12 - f_m) < ((0 : Nat) : Int)) (h1 : 0 ≤ f_m ∧ f_m ≤ 12) : False := by omega
theorem vc_X12_goes_2 {f_m : Int} (h0 : f_m ≤ 10) (h1 : 0 ≤ f_m ∧ f_m ≤ 12) : 0 ≤ f_m ∧ f_m ≤ 10 := by omega
theorem vc_X12_goes_3 {f_m z394 : Int} (h0 : (11 - z394) < ((0 : Nat) : Int)) (h1 : z394 ≤ f_m) (h2 : f_m ≤ 10) (h3 : 0 ≤ f_m ∧ f_m ≤ 10) (h4 : 0 ≤ z394 ∧ z394 ≤ 10) : False := by omega
theorem vc_X12_goes_4 {z395 : Int} (h0 : z395 = 0) (h1 : 0 ≤ z395 ∧ z395 ≤ 1) : 0 ≤ z395 ∧ z395 ≤ 0 := by omega
theorem vc_X12_goes_5 {z426 : Int} (h0 : ¬ z426 = (-99999999)) (h1 : z426 = -99999999 ∨ z426 = -4 ∨ (0 ≤ z426 ∧ z426 ≤ 19)) (h2 : ¬ z426 = (-4)) (h3 : (-99999999) ≤ z426 ∧ z426 ≤ 19) : 0 ≤ z426 ∧ z426 ≤ 19 := by omega
theorem vc_X12_goes_6 {N f_m z394 : Int} (h0 : (12 - f_m) < N + 1) (h1 : f_m ≤ 10) (h2 : z394 ≤ f_m) (h3 : f_m ≤ z394) (h4 : 0 ≤ f_m ∧ f_m ≤ 10) (h5 : 0 ≤ z394 ∧ z394 ≤ 10) : (12 - (f_m + 1)) < N := by omega
theorem vc_X12_goes_7 {z395 : Int} (h0 : z395 = 0) (h1 : 0 ≤ z395 ∧ z395 ≤ 0) : z395 = 0 := by omega
theorem vc_X12_goes_8 {f_m z394 : Int} (h0 : f_m ≤ 10) (h1 : z394 ≤ f_m) (h2 : f_m ≤ z394) (h3 : 0 ≤ f_m ∧ f_m ≤ 10) (h4 : 0 ≤ z394 ∧ z394 ≤ 10) : z394 = f_m := by omega
theorem vc_X12_goes_9 {f_m z394 : Int} (h0 : f_m ≤ 10) (h1 : z394 ≤ f_m) (h2 : f_m ≤ z394) (h3 : 0 ≤ f_m ∧ f_m ≤ 10) (h4 : 0 ≤ z394 ∧ z394 ≤ 10) : 0 ≤ f_m := by omega
theorem vc_X12_goes_10 {z426 : Int} (h0 : z426 = (-99999999)) (h1 : z426 = -99999999 ∨ z426 = -4 ∨ (0 ≤ z426 ∧ z426 ≤ 19)) (h2 : ¬ z426 = (-4)) (h3 : (-99999999) ≤ z426 ∧ z426 ≤ 19) : (-99999999) ≤ z426 ∧ z426 ≤ (-99999999) := by omega
theorem vc_X12_goes_11 {z426 : Int} (h0 : z426 = (-4)) (h1 : z426 = -99999999 ∨ z426 = -4 ∨ (0 ≤ z426 ∧ z426 ≤ 19)) (h2 : (-99999999) ≤ z426 ∧ z426 ≤ 19) : (-4) ≤ z426 ∧ z426 ≤ (-4) := by omega
theorem vc_X12_goes_12 {z395 : Int} (h0 : ¬ z395 = 0) (h1 : 0 ≤ z395 ∧ z395 ≤ 1) : 1 ≤ z395 ∧ z395 ≤ 1 := by omega
theorem vc_X12_goes_13 {f_m z394 : Int} (h0 : z394 < f_m) (h1 : f_m ≤ 10) (h2 : z394 ≤ f_m) (h3 : 0 ≤ f_m ∧ f_m ≤ 10) (h4 : 0 ≤ z394 ∧ z394 ≤ 10) : 0 ≤ z394 ∧ z394 ≤ 9 := by omega
theorem vc_X12_goes_14 {f_m z394 : Int} (h0 : z394 < f_m) (h1 : f_m ≤ 10) (h2 : z394 ≤ f_m) (h3 : 0 ≤ f_m ∧ f_m ≤ 10) (h4 : 0 ≤ z394 ∧ z394 ≤ 9) : 1 ≤ f_m ∧ f_m ≤ 10 := by omega
theorem vc_X12_goes_15 {f_m z394 : Int} (h0 : f_m ≤ 10) (h1 : z394 ≤ f_m) (h2 : z394 < f_m) (h3 : 1 ≤ f_m ∧ f_m ≤ 10) (h4 : 0 ≤ z394 ∧ z394 ≤ 9) : (z394 + 1) ≤ f_m := by omega
theorem vc_X12_goes_16 {N f_m z394 : Int} (h0 : (11 - z394) < N + 1) (h1 : z394 ≤ f_m) (h2 : z394 < f_m) (h3 : f_m ≤ 10) (h4 : 1 ≤ f_m ∧ f_m ≤ 10) (h5 : 0 ≤ z394 ∧ z394 ≤ 9) : (11 - (z394 + 1)) < N := by omega
theorem vc_X12_goes_17  : ¬ ((1 : Int) : Int) = (0 : Int) := by omega
theorem vc_X12_goes_18 {z136 z443 : Int} (h0 : ¬ z443 = z136) (h1 : 0 ≤ z136 ∧ z136 ≤ 9) (h2 : 0 ≤ z443 ∧ z443 ≤ 9) : ¬ z443 = z136 := by omega
theorem vc_X12_goes_19 {f_m : Int} (h0 : f_m ≤ 10) (h1 : 0 ≤ f_m ∧ f_m ≤ 10) : (0 : Int) ≤ f_m := by omega
theorem vc_X12_goes_20  : (11 - 0) < ((12 : Nat) : Int) := by omega
theorem vc_X12_goes_21  : (12 - 0) < ((13 : Nat) : Int) := by omega
set_option maxRecDepth 4000 in
set_option maxHeartbeats 4000000 in
theorem c_X12_goes {l : Launch} {D : va_G} {c : Nat → ClassId} {H0 : Heap} {sa : Nat × Nat × (Nat → Int32)} {w : mW} {μ : mM} (hw : mWF w) (hT : mT w μ) {p1 : Int} (hp1 : 0 ≤ p1 ∧ p1 ≤ 9) {p2 : Int} (hp2 : (-2147483648) ≤ p2 ∧ p2 ≤ 2147483647) : sC (gG l D c H0 sa) mX12_goes 4 0 0 [.ref 106, iv p1, iv p2] (mk w μ) (qI w [106106, 175999] μ (fun z μ1 => (0 ≤ z ∧ z ≤ 2) ∧ True)) := by
  refine sC.of rfl (by decide) (le_t rfl) ?_
  refine mr_lvE (lv' := [(0, .ref 106), (1, iv p1), (2, iv p2)]) rfl ?_
  refine sv_aload_n (pc := 0) dX12_goes_0 rfl rfl ?_
  refine mr_iconst (pc := 1) (z := 0) dX12_goes_1 ?_
  refine pf_X12_106 (pc := 2) dX12_goes_2 wF_X12_683 (A_106 hw) hT (rW (c := 0) (d := 12) (rR (x := 0)) rfl) fun μ1 u2 T3 => ?_
  refine mr_iload_n (pc := 5) (z := p1) dX12_goes_5 rfl rfl ?_
  refine mr_istore_n (pc := 6) (lv' := [(3, iv p1), (0, .ref 106), (1, iv p1), (2, iv p2)]) dX12_goes_6 rfl (by decide) rfl ?_
  have L138 : ∀ (nL138 : Nat) (z136 : Int) (μ137 : mM) (f_m : Int), mT w μ137 → mF [106106, 175999] w μ1 μ137 → μ137 106 (106) = f_m → (0 ≤ z136 ∧ z136 ≤ 9) → dist μ137 175 f_m → (12 - f_m) < (nL138 : Int) → sV (gG l D c H0 sa) mX12_goes (sRm 4 0 0) (sZ (gG l D c H0 sa) 0 0 (qI w [106106, 175999] μ (fun z μ1 => (0 ≤ z ∧ z ≤ 2) ∧ True))) 7 [(0, .ref 106), (2, iv p2), (3, iv z136)] [] (mk w μ137) 0 0 := by
    intro nL138
    induction nL138 with
    | zero => intro z136 μ137 f_m T140 F141 q145 h139 R143 h144; exact ((vc_X12_goes_1 h144 (by rw [← q145]; exact T140 106 106 (A_106 hw) (106)))).elim
    | succ nL138 ih146 =>
      intro z136 μ137 f_m T140 F141 q145 h139 R143 h144
      have h147 : (0 ≤ f_m ∧ f_m ≤ 12) := by rw [← q145]; exact T140 106 106 (A_106 hw) (106)
      have h148 : f_m ≤ 10 := dist.pig R143 (fun i => by have h : 0 ≤ μ137 175 i ∧ μ137 175 i ≤ 9 := T140 175 175 (A_175 hw) i; omega)
      have h149 : 0 ≤ f_m ∧ f_m ≤ 10 := (vc_X12_goes_2 h148 h147)
      refine mr_iconst (pc := 7) (z := 0) dX12_goes_7 ?_
      refine mr_istore (pc := 8) (lv' := [(4, iv 0), (0, .ref 106), (2, iv p2), (3, iv z136)]) dX12_goes_8 (by decide) rfl ?_
      refine mr_iconst (pc := 10) (z := 0) dX12_goes_10 ?_
      refine mr_istore (pc := 11) (lv' := [(5, iv 0), (4, iv 0), (0, .ref 106), (2, iv p2), (3, iv z136)]) dX12_goes_11 (by decide) rfl ?_
      have L396 : ∀ (nL396 : Nat) (z395 z394 : Int), True → (0 ≤ z395 ∧ z395 ≤ 1) → (0 ≤ z394 ∧ z394 ≤ 10) → (z394 ≤ f_m) → (z395 = 0 → noneEq μ137 175 z394 z136) → (11 - z394) < (nL396 : Int) → sV (gG l D c H0 sa) mX12_goes (sRm 4 0 0) (sZ (gG l D c H0 sa) 0 0 (qI w [106106, 175999] μ (fun z μ1 => (0 ≤ z ∧ z ≤ 2) ∧ True))) 13 [(0, .ref 106), (2, iv p2), (3, iv z136), (4, iv z395), (5, iv z394)] [] (mk w μ137) 0 0 := by
        intro nL396
        induction nL396 with
        | zero => intro z395 z394 _ h397 h398 h402 R403 h404; exact ((vc_X12_goes_3 h404 h402 h148 h149 h398)).elim
        | succ nL396 ih405 =>
          intro z395 z394 _ h397 h398 h402 R403 h404
          refine mr_iload (pc := 13) (z := z394) dX12_goes_13 rfl ?_
          refine sv_aload_n (pc := 15) dX12_goes_15 rfl rfl ?_
          refine gk_X12_106 (pc := 16) dX12_goes_16 wF_X12_683 (A_106 hw) q145 ?_
          refine mr_icmp_ge (pc := 19) (tgt := 51) dX12_goes_19 (by decide) (r32 h398 rfl) (r32 h149 rfl) (fun h413 => ?_) (fun h413 => ?_)
          · refine sv_aload_n (pc := 51) dX12_goes_51 rfl rfl ?_
            refine gf_X12_105 (pc := 52) dX12_goes_52 wF_X12_487 (A_106 hw) T140 ?_
            refine sv_aload_n (pc := 55) dX12_goes_55 rfl rfl ?_
            refine gk_X12_106 (pc := 56) dX12_goes_56 wF_X12_683 (A_106 hw) q145 ?_
            refine mr_iload_n (pc := 59) (z := z136) dX12_goes_59 rfl rfl ?_
            refine ss_175 (pc := 60) dX12_goes_60 (A_175 hw) T140 (rIx (n := 12) h149 rfl) h139 fun μ414 u415 T416 => ?_
            refine sv_aload_n (pc := 61) dX12_goes_61 rfl rfl ?_
            refine sv_dup (pc := 62) dX12_goes_62 rfl ?_
            refine gk_X12_106 (pc := 63) dX12_goes_63 wF_X12_683 (A_106 hw) (u415.f (Or.inl (mAt.ne (A_175 hw) (A_106 hw) rfl)) q145) ?_
            refine mr_iconst (pc := 66) (z := 1) dX12_goes_66 ?_
            refine mr_iadd (pc := 67) (x := f_m) (y := 1) dX12_goes_67 ?_
            refine pf_X12_106 (pc := 68) dX12_goes_68 wF_X12_683 (A_106 hw) T416 (rW (c := 0) (d := 12) (rAdd (e := 1) (f := 11) h149 (rR (x := 1)) rfl) rfl) fun μ417 u418 T419 => ?_
            refine mr_iload (pc := 71) (z := z395) dX12_goes_71 rfl ?_
            refine mr_if_eq (pc := 73) (tgt := 78) dX12_goes_73 (by decide) (r32 h397 rfl) (fun h420 => ?_) (fun h420 => ?_)
            · have h421 : 0 ≤ z395 ∧ z395 ≤ 0 := (vc_X12_goes_4 h420 h397)
              refine sv_aload_n (pc := 78) dX12_goes_78 rfl rfl ?_
              refine mr_iload_n (pc := 79) (z := z136) dX12_goes_79 rfl rfl ?_
              refine mr_iload_n (pc := 80) (z := p2) dX12_goes_80 rfl rfl ?_
              refine mr_cVP (pc := 81) (c_X12_sends hw T419 h139 hp2) (gOk _ _ _ _ _) dX12_goes_81 (tX12_sends _ _ _ _ _) ⟨wV_X12_sends, wL_X12_sends⟩ wM_X12_686 (gCX12 _ _ _ _ _) rfl (A_106 hw) rfl ⟨le_t rfl, le_t rfl⟩ ⟨le_t rfl, le_t rfl⟩ rfl (le_t rfl) fun z426 h425 => ?_
              refine mr_istore (pc := 84) (lv' := [(5, iv z426), (0, .ref 106), (2, iv p2), (3, iv z136), (4, iv z395)]) dX12_goes_84 (by decide) rfl ?_
              refine mr_iload (pc := 86) (z := z426) dX12_goes_86 rfl ?_
              refine mr_bipush (pc := 88) (z := (-4)) dX12_goes_88 (by decide) ?_
              refine mr_icmp_ne (pc := 90) (tgt := 95) dX12_goes_90 (by decide) (r32 h425.1 rfl) (r32 (rR (x := (-4))) rfl) (fun h427 => ?_) (fun h427 => ?_)
              · refine mr_iload (pc := 95) (z := z426) dX12_goes_95 rfl ?_
                refine mr_ldc (pc := 97) (z := (-99999999)) dX12_goes_97 wG_X12_29 (by decide) ?_
                refine mr_icmp_ne (pc := 99) (tgt := 104) dX12_goes_99 (by decide) (r32 h425.1 rfl) (r32 (rR (x := (-99999999))) rfl) (fun h428 => ?_) (fun h428 => ?_)
                · have h429 : 0 ≤ z426 ∧ z426 ≤ 19 := (vc_X12_goes_5 h428 h425.2.1 h427 h425.1)
                  refine sv_aload_n (pc := 104) dX12_goes_104 rfl rfl ?_
                  refine mr_iload (pc := 105) (z := z426) dX12_goes_105 rfl ?_
                  refine mr_iload_n (pc := 107) (z := z136) dX12_goes_107 rfl rfl ?_
                  refine mr_cVP (pc := 108) (c_X12_partnerOf hw T419 h429 (rW (c := (-2147483648)) (d := 2147483647) h139 rfl)) (gOk _ _ _ _ _) dX12_goes_108 (tX12_partnerOf _ _ _ _ _) ⟨wV_X12_partnerOf, wL_X12_partnerOf⟩ wM_X12_553 (gCX12 _ _ _ _ _) rfl (A_106 hw) rfl ⟨le_t rfl, le_t rfl⟩ ⟨le_t rfl, le_t rfl⟩ rfl (le_t rfl) fun z434 h433 => ?_
                  refine mr_istore_n (pc := 111) (lv' := [(3, iv z434), (5, iv z426), (0, .ref 106), (2, iv p2), (4, iv z395)]) dX12_goes_111 rfl (by decide) rfl ?_
                  refine sv_goto (pc := 112) (tgt := 7) dX12_goes_112 (by decide) ?_
                  refine mr_lvS (lv' := [(0, .ref 106), (2, iv p2), (3, iv z434)]) (List.forall_mem_cons.mpr ⟨rfl, List.forall_mem_cons.mpr ⟨rfl, List.forall_mem_cons.mpr ⟨rfl, fun _ h => absurd h List.not_mem_nil⟩⟩⟩) ?_
                  exact ih146 z434 μ417 (f_m + 1) T419 (mF.up (mF.up (mF.call mF.refl F141 rfl) (A_175 hw) u415 rfl) (A_106 hw) u418 rfl) u418.1 h433.1 (dist.keep (dist.succ R143 (by have h := R403 (vc_X12_goes_7 h420 h421); rw [show z394 = f_m from (vc_X12_goes_8 h148 h402 h413 h149 h398)] at h; exact h) (vc_X12_goes_9 h148 h402 h413 h149 h398) u415) ((mF.up mF.refl (A_106 hw) u418 rfl) : mF [106106] w μ414 μ417) (A_175 hw) (fun _ => rfl)) (vc_X12_goes_6 (nS h144) h148 h402 h413 h149 h398)
                have h435 : (-99999999) ≤ z426 ∧ z426 ≤ (-99999999) := (vc_X12_goes_10 h428 h425.2.1 h427 h425.1)
                refine mr_iconst (pc := 102) (z := 1) dX12_goes_102 ?_
                exact mr_iret dX12_goes_103 rfl (le_t rfl) (le_t rfl) T419 (mF.up (mF.up (mF.call (mF.up mF.refl (A_106 hw) u2 rfl) F141 rfl) (A_175 hw) u415 rfl) (A_106 hw) u418 rfl) ⟨(rW (c := 0) (d := 2) (rR (x := 1)) rfl), trivial⟩
              have h436 : (-4) ≤ z426 ∧ z426 ≤ (-4) := (vc_X12_goes_11 h427 h425.2.1 h425.1)
              refine mr_iconst (pc := 93) (z := 0) dX12_goes_93 ?_
              exact mr_iret dX12_goes_94 rfl (le_t rfl) (le_t rfl) T419 (mF.up (mF.up (mF.call (mF.up mF.refl (A_106 hw) u2 rfl) F141 rfl) (A_175 hw) u415 rfl) (A_106 hw) u418 rfl) ⟨(rW (c := 0) (d := 2) (rR (x := 0)) rfl), trivial⟩
            have h437 : 1 ≤ z395 ∧ z395 ≤ 1 := (vc_X12_goes_12 h420 h397)
            refine mr_iconst (pc := 76) (z := 2) dX12_goes_76 ?_
            exact mr_iret dX12_goes_77 rfl (le_t rfl) (le_t rfl) T419 (mF.up (mF.up (mF.call (mF.up mF.refl (A_106 hw) u2 rfl) F141 rfl) (A_175 hw) u415 rfl) (A_106 hw) u418 rfl) ⟨(rW (c := 0) (d := 2) (rR (x := 2)) rfl), trivial⟩
          have h438 : 0 ≤ z394 ∧ z394 ≤ 9 := (vc_X12_goes_13 h413 h148 h402 h149 h398)
          have h439 : 1 ≤ f_m ∧ f_m ≤ 10 := (vc_X12_goes_14 h413 h148 h402 h149 h438)
          refine mr_iload (pc := 22) (z := z395) dX12_goes_22 rfl ?_
          refine mr_if_ne (pc := 24) (tgt := 38) dX12_goes_24 (by decide) (r32 h397 rfl) (fun h440 => ?_) (fun h440 => ?_)
          · have h441 : 1 ≤ z395 ∧ z395 ≤ 1 := (vc_X12_goes_12 h440 h397)
            refine mr_iconst (pc := 38) (z := 1) dX12_goes_38 ?_
            refine sv_goto (pc := 39) (tgt := 43) dX12_goes_39 (by decide) ?_
            refine mr_istore (pc := 43) (lv' := [(4, iv 1), (0, .ref 106), (2, iv p2), (3, iv z136), (5, iv z394)]) dX12_goes_43 (by decide) rfl ?_
            refine mr_iinc (pc := 45) (lv' := [(5, iv (z394 + 1)), (4, iv 1), (0, .ref 106), (2, iv p2), (3, iv z136)]) dX12_goes_45 rfl (by decide) rfl ?_
            refine sv_goto (pc := 48) (tgt := 13) dX12_goes_48 (by decide) ?_
            refine mr_lvS (lv' := [(0, .ref 106), (2, iv p2), (3, iv z136), (4, iv 1), (5, iv (z394 + 1))]) (List.forall_mem_cons.mpr ⟨rfl, List.forall_mem_cons.mpr ⟨rfl, List.forall_mem_cons.mpr ⟨rfl, List.forall_mem_cons.mpr ⟨rfl, List.forall_mem_cons.mpr ⟨rfl, fun _ h => absurd h List.not_mem_nil⟩⟩⟩⟩⟩) ?_
            exact ih405 1 (z394 + 1) trivial (rW (c := 0) (d := 1) (rR (x := 1)) rfl) (rW (c := 0) (d := 10) (rAdd (e := 1) (f := 10) h438 (rR (x := 1)) rfl) rfl) (vc_X12_goes_15 h148 h402 h413 h439 h438) (fun h => absurd h vc_X12_goes_17) (vc_X12_goes_16 (nS h404) h402 h413 h148 h439 h438)
          have h442 : 0 ≤ z395 ∧ z395 ≤ 0 := (vc_X12_goes_4 h440 h397)
          refine sv_aload_n (pc := 27) dX12_goes_27 rfl rfl ?_
          refine gf_X12_105 (pc := 28) dX12_goes_28 wF_X12_487 (A_106 hw) T140 ?_
          refine mr_iload (pc := 31) (z := z394) dX12_goes_31 rfl ?_
          refine la_175 (pc := 33) dX12_goes_33 (A_175 hw) T140 (rIx (n := 12) h438 rfl) fun z443 q444 h445 => ?_
          refine mr_iload_n (pc := 34) (z := z136) dX12_goes_34 rfl rfl ?_
          refine mr_icmp_ne (pc := 35) (tgt := 42) dX12_goes_35 (by decide) (r32 h445 rfl) (r32 h139 rfl) (fun h446 => ?_) (fun h446 => ?_)
          · refine mr_iconst (pc := 42) (z := 0) dX12_goes_42 ?_
            refine mr_istore (pc := 43) (lv' := [(4, iv 0), (0, .ref 106), (2, iv p2), (3, iv z136), (5, iv z394)]) dX12_goes_43 (by decide) rfl ?_
            refine mr_iinc (pc := 45) (lv' := [(5, iv (z394 + 1)), (4, iv 0), (0, .ref 106), (2, iv p2), (3, iv z136)]) dX12_goes_45 rfl (by decide) rfl ?_
            refine sv_goto (pc := 48) (tgt := 13) dX12_goes_48 (by decide) ?_
            refine mr_lvS (lv' := [(0, .ref 106), (2, iv p2), (3, iv z136), (4, iv 0), (5, iv (z394 + 1))]) (List.forall_mem_cons.mpr ⟨rfl, List.forall_mem_cons.mpr ⟨rfl, List.forall_mem_cons.mpr ⟨rfl, List.forall_mem_cons.mpr ⟨rfl, List.forall_mem_cons.mpr ⟨rfl, fun _ h => absurd h List.not_mem_nil⟩⟩⟩⟩⟩) ?_
            exact ih405 0 (z394 + 1) trivial (rW (c := 0) (d := 1) (rR (x := 0)) rfl) (rW (c := 0) (d := 10) (rAdd (e := 1) (f := 10) h438 (rR (x := 1)) rfl) rfl) (vc_X12_goes_15 h148 h402 h413 h439 h438) (fun _ => noneEq.succ (R403 (vc_X12_goes_7 h440 h442)) q444 (vc_X12_goes_18 h446 h139 h445)) (vc_X12_goes_16 (nS h404) h402 h413 h148 h439 h438)
          refine mr_iconst (pc := 38) (z := 1) dX12_goes_38 ?_
          refine sv_goto (pc := 39) (tgt := 43) dX12_goes_39 (by decide) ?_
          refine mr_istore (pc := 43) (lv' := [(4, iv 1), (0, .ref 106), (2, iv p2), (3, iv z136), (5, iv z394)]) dX12_goes_43 (by decide) rfl ?_
          refine mr_iinc (pc := 45) (lv' := [(5, iv (z394 + 1)), (4, iv 1), (0, .ref 106), (2, iv p2), (3, iv z136)]) dX12_goes_45 rfl (by decide) rfl ?_
          refine sv_goto (pc := 48) (tgt := 13) dX12_goes_48 (by decide) ?_
          refine mr_lvS (lv' := [(0, .ref 106), (2, iv p2), (3, iv z136), (4, iv 1), (5, iv (z394 + 1))]) (List.forall_mem_cons.mpr ⟨rfl, List.forall_mem_cons.mpr ⟨rfl, List.forall_mem_cons.mpr ⟨rfl, List.forall_mem_cons.mpr ⟨rfl, List.forall_mem_cons.mpr ⟨rfl, fun _ h => absurd h List.not_mem_nil⟩⟩⟩⟩⟩) ?_
          exact ih405 1 (z394 + 1) trivial (rW (c := 0) (d := 1) (rR (x := 1)) rfl) (rW (c := 0) (d := 10) (rAdd (e := 1) (f := 10) h438 (rR (x := 1)) rfl) rfl) (vc_X12_goes_15 h148 h402 h413 h439 h438) (fun h => absurd h vc_X12_goes_17) (vc_X12_goes_16 (nS h404) h402 h413 h148 h439 h438)
      refine mr_lvS (lv' := [(0, .ref 106), (2, iv p2), (3, iv z136), (4, iv 0), (5, iv 0)]) (List.forall_mem_cons.mpr ⟨rfl, List.forall_mem_cons.mpr ⟨rfl, List.forall_mem_cons.mpr ⟨rfl, List.forall_mem_cons.mpr ⟨rfl, List.forall_mem_cons.mpr ⟨rfl, fun _ h => absurd h List.not_mem_nil⟩⟩⟩⟩⟩) ?_
      exact L396 12 0 0 trivial (rW (c := 0) (d := 1) (rR (x := 0)) rfl) (rW (c := 0) (d := 10) (rR (x := 0)) rfl) (vc_X12_goes_19 h148 h149) (fun _ => noneEq.zero) vc_X12_goes_20
  refine mr_lvS (lv' := [(0, .ref 106), (2, iv p2), (3, iv p1)]) (List.forall_mem_cons.mpr ⟨rfl, List.forall_mem_cons.mpr ⟨rfl, List.forall_mem_cons.mpr ⟨rfl, fun _ h => absurd h List.not_mem_nil⟩⟩⟩) ?_
  exact L138 13 p1 μ1 0 T3 mF.refl u2.1 hp1 (dist.zero (Int.le_refl 0)) vc_X12_goes_21
theorem vc_X12_letter_1 {p1 z1 z8 : Int} (h0 : ¬ z8 = 0) (h1 : (z8 = 1 → 0 ≤ p1 ∧ p1 < z1)) (h2 : (z8 = 0 → p1 < 0 ∨ z1 ≤ p1)) (h3 : (-2147483648) ≤ p1 ∧ p1 ≤ 2147483647) (h4 : 0 ≤ z1 ∧ z1 ≤ 10) (h5 : 0 ≤ z8 ∧ z8 ≤ 1) : 1 ≤ z8 ∧ z8 ≤ 1 := by omega
theorem vc_X12_letter_2 {p1 z1 z8 : Int} (h0 : (z8 = 1 → 0 ≤ p1 ∧ p1 < z1)) (h1 : (z8 = 0 → p1 < 0 ∨ z1 ≤ p1)) (h2 : ¬ z8 = 0) (h3 : (-2147483648) ≤ p1 ∧ p1 ≤ 2147483647) (h4 : 0 ≤ z1 ∧ z1 ≤ 10) (h5 : 1 ≤ z8 ∧ z8 ≤ 1) : z8 = 1 := by omega
theorem vc_X12_letter_3 {p1 z1 z8 : Int} (h0 : 0 ≤ p1 ∧ p1 < z1) (h1 : (z8 = 1 → 0 ≤ p1 ∧ p1 < z1)) (h2 : (z8 = 0 → p1 < 0 ∨ z1 ≤ p1)) (h3 : (-2147483648) ≤ p1 ∧ p1 ≤ 2147483647) (h4 : 0 ≤ z1 ∧ z1 ≤ 10) (h5 : 1 ≤ z8 ∧ z8 ≤ 1) : 0 ≤ p1 ∧ p1 ≤ 9 := by omega
theorem vc_X12_letter_4 {p1 z1 z8 : Int} (h0 : 0 ≤ p1 ∧ p1 < z1) (h1 : (z8 = 1 → 0 ≤ p1 ∧ p1 < z1)) (h2 : (z8 = 0 → p1 < 0 ∨ z1 ≤ p1)) (h3 : 0 ≤ p1 ∧ p1 ≤ 9) (h4 : 0 ≤ z1 ∧ z1 ≤ 10) (h5 : 1 ≤ z8 ∧ z8 ≤ 1) : 1 ≤ z1 ∧ z1 ≤ 10 := by omega
theorem vc_X12_letter_5 {z95 : Int} (h0 : (13 - z95) < ((0 : Nat) : Int)) (h1 : 0 ≤ z95 ∧ z95 ≤ 12) : False := by omega
theorem vc_X12_letter_6 {z19 z95 : Int} (h0 : z95 < z19) (h1 : 0 ≤ z19 ∧ z19 ≤ 12) (h2 : 0 ≤ z95 ∧ z95 ≤ 12) : 0 ≤ z95 ∧ z95 ≤ 11 := by omega
theorem vc_X12_letter_7 {z19 z95 : Int} (h0 : z95 < z19) (h1 : 0 ≤ z19 ∧ z19 ≤ 12) (h2 : 0 ≤ z95 ∧ z95 ≤ 11) : 1 ≤ z19 ∧ z19 ≤ 12 := by omega
theorem vc_X12_letter_8 {N z19 z95 : Int} (h0 : (13 - z95) < N + 1) (h1 : z95 < z19) (h2 : 1 ≤ z19 ∧ z19 ≤ 12) (h3 : 0 ≤ z95 ∧ z95 ≤ 11) : (13 - (z95 + 1)) < N := by omega
theorem vc_X12_letter_9  : (13 - 0) < ((14 : Nat) : Int) := by omega
theorem vc_X12_letter_10 {p1 z1 z8 : Int} (h0 : z8 = 0) (h1 : (z8 = 1 → 0 ≤ p1 ∧ p1 < z1)) (h2 : (z8 = 0 → p1 < 0 ∨ z1 ≤ p1)) (h3 : (-2147483648) ≤ p1 ∧ p1 ≤ 2147483647) (h4 : 0 ≤ z1 ∧ z1 ≤ 10) (h5 : 0 ≤ z8 ∧ z8 ≤ 1) : 0 ≤ z8 ∧ z8 ≤ 0 := by omega
theorem vc_X12_letter_11 {p1 z1 z8 : Int} (h0 : (z8 = 1 → 0 ≤ p1 ∧ p1 < z1)) (h1 : (z8 = 0 → p1 < 0 ∨ z1 ≤ p1)) (h2 : z8 = 0) (h3 : (-2147483648) ≤ p1 ∧ p1 ≤ 2147483647) (h4 : 0 ≤ z1 ∧ z1 ≤ 10) (h5 : 0 ≤ z8 ∧ z8 ≤ 0) : z8 = 0 := by omega
set_option maxRecDepth 4000 in
set_option maxHeartbeats 4000000 in
theorem c_X12_letter {l : Launch} {D : va_G} {c : Nat → ClassId} {H0 : Heap} {sa : Nat × Nat × (Nat → Int32)} {w : mW} {μ : mM} (hw : mWF w) (hT : mT w μ) {p1 : Int} (hp1 : (-2147483648) ≤ p1 ∧ p1 ≤ 2147483647) {p2 : Int} (hp2 : (-2147483648) ≤ p2 ∧ p2 ≤ 2147483647) : sC (gG l D c H0 sa) mX12_letter 5 0 0 [.ref 106, iv p1, iv p2] (mk w μ) (qI w [106106, 106108, 175999, 176999] μ (fun z μ1 => ((-2147483648) ≤ z ∧ z ≤ 2147483647) ∧ True)) := by
  refine sC.of rfl (by decide) (le_t rfl) ?_
  refine mr_lvE (lv' := [(0, .ref 106), (1, iv p1), (2, iv p2)]) rfl ?_
  refine sv_aload_n (pc := 0) dX12_letter_0 rfl rfl ?_
  refine mr_iload_n (pc := 1) (z := p1) dX12_letter_1 rfl rfl ?_
  obtain ⟨z1, q2⟩ : ∃ z, μ 106 5 = z := ⟨_, rfl⟩
  have h3 : (0 ≤ z1 ∧ z1 ≤ 10) := by rw [← q2]; exact hT 106 106 (A_106 hw) 5
  refine mr_cVP (pc := 2) (c_X12_isDomain hw hT hp1 q2) (gOk _ _ _ _ _) dX12_letter_2 (tX12_isDomain _ _ _ _ _) ⟨wV_X12_isDomain, wL_X12_isDomain⟩ wM_X12_49 (gCX12 _ _ _ _ _) rfl (A_106 hw) rfl ⟨le_t rfl, le_t rfl⟩ ⟨le_t rfl, le_t rfl⟩ rfl (le_t rfl) fun z8 h7 => ?_
  refine mr_if_ne (pc := 5) (tgt := 10) dX12_letter_5 (by decide) (r32 h7.1 rfl) (fun h9 => ?_) (fun h9 => ?_)
  · have h10 : 1 ≤ z8 ∧ z8 ≤ 1 := (vc_X12_letter_1 h9 h7.2.1 h7.2.2.1 hp1 h3 h7.1)
    have h11 : 0 ≤ p1 ∧ p1 < z1 := (h7.2.1 (vc_X12_letter_2 h7.2.1 h7.2.2.1 h9 hp1 h3 h10))
    have h12 : 0 ≤ p1 ∧ p1 ≤ 9 := (vc_X12_letter_3 h11 h7.2.1 h7.2.2.1 hp1 h3 h10)
    have h13 : 1 ≤ z1 ∧ z1 ≤ 10 := (vc_X12_letter_4 h11 h7.2.1 h7.2.2.1 h12 h3 h10)
    refine sv_aload_n (pc := 10) dX12_letter_10 rfl rfl ?_
    refine mr_iload_n (pc := 11) (z := p1) dX12_letter_11 rfl rfl ?_
    refine mr_iload_n (pc := 12) (z := p2) dX12_letter_12 rfl rfl ?_
    refine mr_cVI (pc := 13) (c_X12_goes hw hT h12 hp2) (gOk _ _ _ _ _) dX12_letter_13 (tX12_goes _ _ _ _ _) ⟨wV_X12_goes, wL_X12_goes⟩ wM_X12_689 (gCX12 _ _ _ _ _) rfl (A_106 hw) rfl ⟨le_t rfl, le_t rfl⟩ ⟨le_t rfl, le_t rfl⟩ rfl (le_t rfl) fun z18 μ14 T15 F16 h17 => ?_
    refine mr_istore_n (pc := 16) (lv' := [(3, iv z18), (0, .ref 106), (1, iv p1), (2, iv p2)]) dX12_letter_16 rfl (by decide) rfl ?_
    refine sv_aload_n (pc := 17) dX12_letter_17 rfl rfl ?_
    refine sv_aload_n (pc := 18) dX12_letter_18 rfl rfl ?_
    refine gf_X12_106 (pc := 19) dX12_letter_19 wF_X12_683 (A_106 hw) T15 fun z19 q20 h21 => ?_
    refine pf_X12_108 (pc := 22) dX12_letter_22 wF_X12_692 (A_106 hw) T15 h21 fun μ22 u23 T24 => ?_
    refine mr_iconst (pc := 25) (z := 0) dX12_letter_25 ?_
    refine mr_istore (pc := 26) (lv' := [(4, iv 0), (3, iv z18), (0, .ref 106), (1, iv p1), (2, iv p2)]) dX12_letter_26 (by decide) rfl ?_
    have L97 : ∀ (nL97 : Nat) (z95 : Int) (μ96 : mM), mT w μ96 → mF [176999] w μ22 μ96 → (0 ≤ z95 ∧ z95 ≤ 12) → (13 - z95) < (nL97 : Int) → sV (gG l D c H0 sa) mX12_letter (sRm 5 0 0) (sZ (gG l D c H0 sa) 0 0 (qI w [106106, 106108, 175999, 176999] μ (fun z μ1 => ((-2147483648) ≤ z ∧ z ≤ 2147483647) ∧ True))) 28 [(0, .ref 106), (3, iv z18), (4, iv z95)] [] (mk w μ96) 0 0 := by
      intro nL97
      induction nL97 with
      | zero => intro z95 μ96 T99 F100 h98 h102; exact ((vc_X12_letter_5 h102 h98)).elim
      | succ nL97 ih103 =>
        intro z95 μ96 T99 F100 h98 h102
        refine mr_iload (pc := 28) (z := z95) dX12_letter_28 rfl ?_
        refine sv_aload_n (pc := 30) dX12_letter_30 rfl rfl ?_
        refine gk_X12_106 (pc := 31) dX12_letter_31 wF_X12_683 (A_106 hw) (F100.f (A_106 hw) rfl (u23.f (Or.inr (by decide)) q20)) ?_
        refine mr_icmp_ge (pc := 34) (tgt := 57) dX12_letter_34 (by decide) (r32 h98 rfl) (r32 h21 rfl) (fun h112 => ?_) (fun h112 => ?_)
        · refine mr_iload_n (pc := 57) (z := z18) dX12_letter_57 rfl rfl ?_
          exact mr_iret dX12_letter_58 rfl (le_t rfl) (le_t rfl) T99 (mF.call (mF.up (mF.call mF.refl F16 rfl) (A_106 hw) u23 rfl) F100 rfl) ⟨(rW (c := (-2147483648)) (d := 2147483647) h17.1 rfl), trivial⟩
        have h113 : 0 ≤ z95 ∧ z95 ≤ 11 := (vc_X12_letter_6 h112 h21 h98)
        have h114 : 1 ≤ z19 ∧ z19 ≤ 12 := (vc_X12_letter_7 h112 h21 h113)
        refine sv_aload_n (pc := 37) dX12_letter_37 rfl rfl ?_
        refine gf_X12_107 (pc := 38) dX12_letter_38 wF_X12_490 (A_106 hw) T99 ?_
        refine mr_iload (pc := 41) (z := z95) dX12_letter_41 rfl ?_
        refine sv_aload_n (pc := 43) dX12_letter_43 rfl rfl ?_
        refine gf_X12_105 (pc := 44) dX12_letter_44 wF_X12_487 (A_106 hw) T99 ?_
        refine mr_iload (pc := 47) (z := z95) dX12_letter_47 rfl ?_
        refine la_175 (pc := 49) dX12_letter_49 (A_175 hw) T99 (rIx (n := 12) h113 rfl) fun z115 q116 h117 => ?_
        refine ss_176 (pc := 50) dX12_letter_50 (A_176 hw) T99 (rIx (n := 12) h113 rfl) (rW (c := (-2147483648)) (d := 2147483647) h117 rfl) fun μ118 u119 T120 => ?_
        refine mr_iinc (pc := 51) (lv' := [(4, iv (z95 + 1)), (0, .ref 106), (3, iv z18)]) dX12_letter_51 rfl (by decide) rfl ?_
        refine sv_goto (pc := 54) (tgt := 28) dX12_letter_54 (by decide) ?_
        refine mr_lvS (lv' := [(0, .ref 106), (3, iv z18), (4, iv (z95 + 1))]) (List.forall_mem_cons.mpr ⟨rfl, List.forall_mem_cons.mpr ⟨rfl, List.forall_mem_cons.mpr ⟨rfl, fun _ h => absurd h List.not_mem_nil⟩⟩⟩) ?_
        exact ih103 (z95 + 1) μ118 T120 (mF.up (mF.call mF.refl F100 rfl) (A_176 hw) u119 rfl) (rW (c := 0) (d := 12) (rAdd (e := 1) (f := 12) h113 (rR (x := 1)) rfl) rfl) (vc_X12_letter_8 (nS h102) h112 h114 h113)
    refine mr_lvS (lv' := [(0, .ref 106), (3, iv z18), (4, iv 0)]) (List.forall_mem_cons.mpr ⟨rfl, List.forall_mem_cons.mpr ⟨rfl, List.forall_mem_cons.mpr ⟨rfl, fun _ h => absurd h List.not_mem_nil⟩⟩⟩) ?_
    exact L97 14 0 μ22 T24 mF.refl (rW (c := 0) (d := 12) (rR (x := 0)) rfl) vc_X12_letter_9
  have h121 : 0 ≤ z8 ∧ z8 ≤ 0 := (vc_X12_letter_10 h9 h7.2.1 h7.2.2.1 hp1 h3 h7.1)
  have h122 : p1 < 0 ∨ z1 ≤ p1 := (h7.2.2.1 (vc_X12_letter_11 h7.2.1 h7.2.2.1 h9 hp1 h3 h121))
  refine mr_iconst (pc := 8) (z := (-1)) dX12_letter_8 ?_
  exact mr_iret dX12_letter_9 rfl (le_t rfl) (le_t rfl) hT mF.refl ⟨(rW (c := (-2147483648)) (d := 2147483647) (rR (x := (-1))) rfl), trivial⟩
theorem vc_X12_load_1 {p1 z1 z8 : Int} (h0 : z8 = 0) (h1 : (z8 = 1 → 0 ≤ p1 ∧ p1 < z1)) (h2 : (z8 = 0 → p1 < 0 ∨ z1 ≤ p1)) (h3 : (-2147483648) ≤ p1 ∧ p1 ≤ 2147483647) (h4 : 0 ≤ z1 ∧ z1 ≤ 20) (h5 : 0 ≤ z8 ∧ z8 ≤ 1) : 0 ≤ z8 ∧ z8 ≤ 0 := by omega
theorem vc_X12_load_2 {p1 z1 z8 : Int} (h0 : (z8 = 1 → 0 ≤ p1 ∧ p1 < z1)) (h1 : (z8 = 0 → p1 < 0 ∨ z1 ≤ p1)) (h2 : z8 = 0) (h3 : (-2147483648) ≤ p1 ∧ p1 ≤ 2147483647) (h4 : 0 ≤ z1 ∧ z1 ≤ 20) (h5 : 0 ≤ z8 ∧ z8 ≤ 0) : z8 = 0 := by omega
theorem vc_X12_load_3 {p1 z1 z8 : Int} (h0 : ¬ z8 = 0) (h1 : (z8 = 1 → 0 ≤ p1 ∧ p1 < z1)) (h2 : (z8 = 0 → p1 < 0 ∨ z1 ≤ p1)) (h3 : (-2147483648) ≤ p1 ∧ p1 ≤ 2147483647) (h4 : 0 ≤ z1 ∧ z1 ≤ 20) (h5 : 0 ≤ z8 ∧ z8 ≤ 1) : 1 ≤ z8 ∧ z8 ≤ 1 := by omega
theorem vc_X12_load_4 {p1 z1 z8 : Int} (h0 : (z8 = 1 → 0 ≤ p1 ∧ p1 < z1)) (h1 : (z8 = 0 → p1 < 0 ∨ z1 ≤ p1)) (h2 : ¬ z8 = 0) (h3 : (-2147483648) ≤ p1 ∧ p1 ≤ 2147483647) (h4 : 0 ≤ z1 ∧ z1 ≤ 20) (h5 : 1 ≤ z8 ∧ z8 ≤ 1) : z8 = 1 := by omega
theorem vc_X12_load_5 {p1 z1 z8 : Int} (h0 : 0 ≤ p1 ∧ p1 < z1) (h1 : (z8 = 1 → 0 ≤ p1 ∧ p1 < z1)) (h2 : (z8 = 0 → p1 < 0 ∨ z1 ≤ p1)) (h3 : (-2147483648) ≤ p1 ∧ p1 ≤ 2147483647) (h4 : 0 ≤ z1 ∧ z1 ≤ 20) (h5 : 1 ≤ z8 ∧ z8 ≤ 1) : 0 ≤ p1 ∧ p1 ≤ 19 := by omega
theorem vc_X12_load_6 {p1 z1 z8 : Int} (h0 : 0 ≤ p1 ∧ p1 < z1) (h1 : (z8 = 1 → 0 ≤ p1 ∧ p1 < z1)) (h2 : (z8 = 0 → p1 < 0 ∨ z1 ≤ p1)) (h3 : 0 ≤ p1 ∧ p1 ≤ 19) (h4 : 0 ≤ z1 ∧ z1 ≤ 20) (h5 : 1 ≤ z8 ∧ z8 ≤ 1) : 1 ≤ z1 ∧ z1 ≤ 20 := by omega
theorem vc_X12_load_7 {p2 z20 : Int} (h0 : ¬ z20 = 0) (h1 : (z20 = 1 → (0 : Int) ≤ p2 ∧ p2 ≤ (1 : Int))) (h2 : (z20 = 0 → p2 < (0 : Int) ∨ (1 : Int) < p2)) (h3 : (-2147483648) ≤ p2 ∧ p2 ≤ 2147483647) (h4 : 0 ≤ z20 ∧ z20 ≤ 1) : 1 ≤ z20 ∧ z20 ≤ 1 := by omega
theorem vc_X12_load_8 {p2 z20 : Int} (h0 : (z20 = 1 → (0 : Int) ≤ p2 ∧ p2 ≤ (1 : Int))) (h1 : (z20 = 0 → p2 < (0 : Int) ∨ (1 : Int) < p2)) (h2 : ¬ z20 = 0) (h3 : (-2147483648) ≤ p2 ∧ p2 ≤ 2147483647) (h4 : 1 ≤ z20 ∧ z20 ≤ 1) : z20 = 1 := by omega
theorem vc_X12_load_9 {p2 z20 : Int} (h0 : (0 : Int) ≤ p2 ∧ p2 ≤ (1 : Int)) (h1 : (z20 = 1 → (0 : Int) ≤ p2 ∧ p2 ≤ (1 : Int))) (h2 : (z20 = 0 → p2 < (0 : Int) ∨ (1 : Int) < p2)) (h3 : (-2147483648) ≤ p2 ∧ p2 ≤ 2147483647) (h4 : 1 ≤ z20 ∧ z20 ≤ 1) : 0 ≤ p2 ∧ p2 ≤ 1 := by omega
theorem vc_X12_load_10 {z695 : Int} (h0 : (17 - z695) < ((0 : Nat) : Int)) (h1 : 0 ≤ z695 ∧ z695 ≤ 16) : False := by omega
theorem vc_X12_load_11 {z695 z706 : Int} (h0 : z695 < z706) (h1 : 0 ≤ z695 ∧ z695 ≤ 16) (h2 : 0 ≤ z706 ∧ z706 ≤ 16) : 0 ≤ z695 ∧ z695 ≤ 15 := by omega
theorem vc_X12_load_12 {z695 z706 : Int} (h0 : z695 < z706) (h1 : 0 ≤ z695 ∧ z695 ≤ 15) (h2 : 0 ≤ z706 ∧ z706 ≤ 16) : 1 ≤ z706 ∧ z706 ≤ 16 := by omega
theorem vc_X12_load_13 {z1024 : Int} (h0 : (12 - z1024) < ((0 : Nat) : Int)) (h1 : 0 ≤ z1024 ∧ z1024 ≤ 11) : False := by omega
theorem vc_X12_load_14 {N z695 z706 : Int} (h0 : (17 - z695) < N + 1) (h1 : z695 < z706) (h2 : 0 ≤ z695 ∧ z695 ≤ 15) (h3 : 1 ≤ z706 ∧ z706 ≤ 16) : (17 - (z695 + 1)) < N := by omega
theorem vc_X12_load_15 {z1024 z1034 : Int} (h0 : (z1024 + 1) < z1034) (h1 : 0 ≤ z1024 ∧ z1024 ≤ 11) (h2 : 0 ≤ z1034 ∧ z1034 ≤ 12) : 0 ≤ z1024 ∧ z1024 ≤ 10 := by omega
theorem vc_X12_load_16 {z1024 z1034 : Int} (h0 : (z1024 + 1) < z1034) (h1 : 0 ≤ z1024 ∧ z1024 ≤ 10) (h2 : 0 ≤ z1034 ∧ z1034 ≤ 12) : 2 ≤ z1034 ∧ z1034 ≤ 12 := by omega
theorem vc_X12_load_17 {N z1024 z1034 : Int} (h0 : (12 - z1024) < N + 1) (h1 : (z1024 + 1) < z1034) (h2 : 0 ≤ z1024 ∧ z1024 ≤ 10) (h3 : 2 ≤ z1034 ∧ z1034 ≤ 12) : (12 - (z1024 + 1)) < N := by omega
theorem vc_X12_load_18  : (12 - 0) < ((13 : Nat) : Int) := by omega
theorem vc_X12_load_19  : (17 - 0) < ((18 : Nat) : Int) := by omega
theorem vc_X12_load_20 {p2 z20 : Int} (h0 : z20 = 0) (h1 : (z20 = 1 → (0 : Int) ≤ p2 ∧ p2 ≤ (1 : Int))) (h2 : (z20 = 0 → p2 < (0 : Int) ∨ (1 : Int) < p2)) (h3 : (-2147483648) ≤ p2 ∧ p2 ≤ 2147483647) (h4 : 0 ≤ z20 ∧ z20 ≤ 1) : 0 ≤ z20 ∧ z20 ≤ 0 := by omega
theorem vc_X12_load_21 {p2 z20 : Int} (h0 : (z20 = 1 → (0 : Int) ≤ p2 ∧ p2 ≤ (1 : Int))) (h1 : (z20 = 0 → p2 < (0 : Int) ∨ (1 : Int) < p2)) (h2 : z20 = 0) (h3 : (-2147483648) ≤ p2 ∧ p2 ≤ 2147483647) (h4 : 0 ≤ z20 ∧ z20 ≤ 0) : z20 = 0 := by omega
set_option maxRecDepth 4000 in
set_option maxHeartbeats 4000000 in
theorem c_X12_load {l : Launch} {D : va_G} {c : Nat → ClassId} {H0 : Heap} {sa : Nat × Nat × (Nat → Int32)} {w : mW} {μ : mM} (hw : mWF w) (hT : mT w μ) {p1 : Int} (hp1 : (-2147483648) ≤ p1 ∧ p1 ≤ 2147483647) {p2 : Int} (hp2 : (-2147483648) ≤ p2 ∧ p2 ≤ 2147483647) : sC (gG l D c H0 sa) mX12_load 5 0 0 [.ref 106, iv p1, iv p2] (mk w μ) (qI w [106106, 175999] μ (fun z μ1 => ((-2147483648) ≤ z ∧ z ≤ 2147483647) ∧ True)) := by
  refine sC.of rfl (by decide) (le_t rfl) ?_
  refine mr_lvE (lv' := [(0, .ref 106), (1, iv p1), (2, iv p2)]) rfl ?_
  refine sv_aload_n (pc := 0) dX12_load_0 rfl rfl ?_
  refine mr_iload_n (pc := 1) (z := p1) dX12_load_1 rfl rfl ?_
  obtain ⟨z1, q2⟩ : ∃ z, μ 106 6 = z := ⟨_, rfl⟩
  have h3 : (0 ≤ z1 ∧ z1 ≤ 20) := by rw [← q2]; exact hT 106 106 (A_106 hw) 6
  refine mr_cVP (pc := 2) (c_X12_isTie hw hT hp1 q2) (gOk _ _ _ _ _) dX12_load_2 (tX12_isTie _ _ _ _ _) ⟨wV_X12_isTie, wL_X12_isTie⟩ wM_X12_66 (gCX12 _ _ _ _ _) rfl (A_106 hw) rfl ⟨le_t rfl, le_t rfl⟩ ⟨le_t rfl, le_t rfl⟩ rfl (le_t rfl) fun z8 h7 => ?_
  refine mr_if_eq (pc := 5) (tgt := 17) dX12_load_5 (by decide) (r32 h7.1 rfl) (fun h9 => ?_) (fun h9 => ?_)
  · have h10 : 0 ≤ z8 ∧ z8 ≤ 0 := (vc_X12_load_1 h9 h7.2.1 h7.2.2.1 hp1 h3 h7.1)
    have h11 : p1 < 0 ∨ z1 ≤ p1 := (h7.2.2.1 (vc_X12_load_2 h7.2.1 h7.2.2.1 h9 hp1 h3 h10))
    refine mr_iconst (pc := 17) (z := (-1)) dX12_load_17 ?_
    exact mr_iret dX12_load_18 rfl (le_t rfl) (le_t rfl) hT mF.refl ⟨(rW (c := (-2147483648)) (d := 2147483647) (rR (x := (-1))) rfl), trivial⟩
  have h12 : 1 ≤ z8 ∧ z8 ≤ 1 := (vc_X12_load_3 h9 h7.2.1 h7.2.2.1 hp1 h3 h7.1)
  have h13 : 0 ≤ p1 ∧ p1 < z1 := (h7.2.1 (vc_X12_load_4 h7.2.1 h7.2.2.1 h9 hp1 h3 h12))
  have h14 : 0 ≤ p1 ∧ p1 ≤ 19 := (vc_X12_load_5 h13 h7.2.1 h7.2.2.1 hp1 h3 h12)
  have h15 : 1 ≤ z1 ∧ z1 ≤ 20 := (vc_X12_load_6 h13 h7.2.1 h7.2.2.1 h14 h3 h12)
  refine mr_iload_n (pc := 8) (z := p2) dX12_load_8 rfl rfl ?_
  refine mr_iconst (pc := 9) (z := 0) dX12_load_9 ?_
  refine mr_iconst (pc := 10) (z := 1) dX12_load_10 ?_
  refine mr_cSP (pc := 11) (c_X12_in hw hT hp2 (rW (c := (-2147483648)) (d := 2147483647) (rR (x := 0)) rfl) (rW (c := (-2147483648)) (d := 2147483647) (rR (x := 1)) rfl)) (gOk _ _ _ _ _) dX12_load_11 (tX12_in _ _ _ _ _) wS_X12_in wM_X12_18 ⟨le_t rfl, le_t rfl⟩ ⟨le_t rfl, le_t rfl⟩ rfl (le_t rfl) fun z20 h19 => ?_
  refine mr_if_ne (pc := 14) (tgt := 19) dX12_load_14 (by decide) (r32 h19.1 rfl) (fun h21 => ?_) (fun h21 => ?_)
  · have h22 : 1 ≤ z20 ∧ z20 ≤ 1 := (vc_X12_load_7 h21 h19.2.1 h19.2.2.1 hp2 h19.1)
    have h23 : (0 : Int) ≤ p2 ∧ p2 ≤ (1 : Int) := (h19.2.1 (vc_X12_load_8 h19.2.1 h19.2.2.1 h21 hp2 h22))
    have h24 : 0 ≤ p2 ∧ p2 ≤ 1 := (vc_X12_load_9 h23 h19.2.1 h19.2.2.1 hp2 h22)
    refine mr_iconst (pc := 19) (z := 0) dX12_load_19 ?_
    refine mr_istore_n (pc := 20) (lv' := [(3, iv 0), (0, .ref 106), (1, iv p1), (2, iv p2)]) dX12_load_20 rfl (by decide) rfl ?_
    refine mr_iconst (pc := 21) (z := 0) dX12_load_21 ?_
    refine mr_istore (pc := 22) (lv' := [(4, iv 0), (3, iv 0), (0, .ref 106), (1, iv p1), (2, iv p2)]) dX12_load_22 (by decide) rfl ?_
    have L698 : ∀ (nL698 : Nat) (z696 z695 : Int) (μ697 : mM), mT w μ697 → mF [106106, 175999] w μ μ697 → ((-2147483648) ≤ z696 ∧ z696 ≤ 2147483647) → (0 ≤ z695 ∧ z695 ≤ 16) → (17 - z695) < (nL698 : Int) → sV (gG l D c H0 sa) mX12_load (sRm 5 0 0) (sZ (gG l D c H0 sa) 0 0 (qI w [106106, 175999] μ (fun z μ1 => ((-2147483648) ≤ z ∧ z ≤ 2147483647) ∧ True))) 24 [(0, .ref 106), (1, iv p1), (2, iv p2), (3, iv z696), (4, iv z695)] [] (mk w μ697) 0 0 := by
      intro nL698
      induction nL698 with
      | zero => intro z696 z695 μ697 T701 F702 h699 h700 h704; exact ((vc_X12_load_10 h704 h700)).elim
      | succ nL698 ih705 =>
        intro z696 z695 μ697 T701 F702 h699 h700 h704
        refine mr_iload (pc := 24) (z := z695) dX12_load_24 rfl ?_
        refine sv_aload_n (pc := 26) dX12_load_26 rfl rfl ?_
        refine gf_X12_109 (pc := 27) dX12_load_27 wF_X12_695 (A_106 hw) T701 fun z706 q707 h708 => ?_
        refine mr_icmp_ge (pc := 30) (tgt := 132) dX12_load_30 (by decide) (r32 h700 rfl) (r32 h708 rfl) (fun h770 => ?_) (fun h770 => ?_)
        · refine mr_iload_n (pc := 132) (z := z696) dX12_load_132 rfl rfl ?_
          exact mr_iret dX12_load_133 rfl (le_t rfl) (le_t rfl) T701 (mF.call mF.refl F702 rfl) ⟨h699, trivial⟩
        have h771 : 0 ≤ z695 ∧ z695 ≤ 15 := (vc_X12_load_11 h770 h700 h708)
        have h772 : 1 ≤ z706 ∧ z706 ≤ 16 := (vc_X12_load_12 h770 h771 h708)
        refine sv_aload_n (pc := 33) dX12_load_33 rfl rfl ?_
        refine sv_aload_n (pc := 34) dX12_load_34 rfl rfl ?_
        refine gf_X12_110 (pc := 35) dX12_load_35 wF_X12_493 (A_106 hw) T701 ?_
        refine mr_iload (pc := 38) (z := z695) dX12_load_38 rfl ?_
        refine la_177 (pc := 40) dX12_load_40 (A_177 hw) T701 (rIx (n := 16) h771 rfl) fun z773 q774 h775 => ?_
        refine sv_aload_n (pc := 41) dX12_load_41 rfl rfl ?_
        refine gf_X12_111 (pc := 42) dX12_load_42 wF_X12_496 (A_106 hw) T701 ?_
        refine mr_iload (pc := 45) (z := z695) dX12_load_45 rfl ?_
        refine la_178 (pc := 47) dX12_load_47 (A_178 hw) T701 (rIx (n := 16) h771 rfl) fun z776 q777 h778 => ?_
        refine mr_cVI (pc := 48) (c_X12_goes hw T701 h775 h778) (gOk _ _ _ _ _) dX12_load_48 (tX12_goes _ _ _ _ _) ⟨wV_X12_goes, wL_X12_goes⟩ wM_X12_689 (gCX12 _ _ _ _ _) rfl (A_106 hw) rfl ⟨le_t rfl, le_t rfl⟩ ⟨le_t rfl, le_t rfl⟩ rfl (le_t rfl) fun z783 μ779 T780 F781 h782 => ?_
        refine sv_pop (pc := 51) dX12_load_51 rfl ?_
        refine mr_iconst (pc := 52) (z := 0) dX12_load_52 ?_
        refine mr_istore (pc := 53) (lv' := [(5, iv 0), (0, .ref 106), (1, iv p1), (2, iv p2), (3, iv z696), (4, iv z695)]) dX12_load_53 (by decide) rfl ?_
        have L1026 : ∀ (nL1026 : Nat) (z1025 z1024 : Int), True → ((-2147483648) ≤ z1025 ∧ z1025 ≤ 2147483647) → (0 ≤ z1024 ∧ z1024 ≤ 11) → (12 - z1024) < (nL1026 : Int) → sV (gG l D c H0 sa) mX12_load (sRm 5 0 0) (sZ (gG l D c H0 sa) 0 0 (qI w [106106, 175999] μ (fun z μ1 => ((-2147483648) ≤ z ∧ z ≤ 2147483647) ∧ True))) 55 [(0, .ref 106), (1, iv p1), (2, iv p2), (3, iv z1025), (4, iv z695), (5, iv z1024)] [] (mk w μ779) 0 0 := by
          intro nL1026
          induction nL1026 with
          | zero => intro z1025 z1024 _ h1027 h1028 h1032; exact ((vc_X12_load_13 h1032 h1028)).elim
          | succ nL1026 ih1033 =>
            intro z1025 z1024 _ h1027 h1028 h1032
            refine mr_iload (pc := 55) (z := z1024) dX12_load_55 rfl ?_
            refine mr_iconst (pc := 57) (z := 1) dX12_load_57 ?_
            refine mr_iadd (pc := 58) (x := z1024) (y := 1) dX12_load_58 ?_
            refine sv_aload_n (pc := 59) dX12_load_59 rfl rfl ?_
            refine gf_X12_106 (pc := 60) dX12_load_60 wF_X12_683 (A_106 hw) T780 fun z1034 q1035 h1036 => ?_
            refine mr_icmp_ge (pc := 63) (tgt := 126) dX12_load_63 (by decide) (r32 (rAdd (e := 1) (f := 12) h1028 (rR (x := 1)) rfl) rfl) (r32 h1036 rfl) (fun h1056 => ?_) (fun h1056 => ?_)
            · refine mr_iinc (pc := 126) (lv' := [(4, iv (z695 + 1)), (0, .ref 106), (1, iv p1), (2, iv p2), (3, iv z1025), (5, iv z1024)]) dX12_load_126 rfl (by decide) rfl ?_
              refine sv_goto (pc := 129) (tgt := 24) dX12_load_129 (by decide) ?_
              refine mr_lvS (lv' := [(0, .ref 106), (1, iv p1), (2, iv p2), (3, iv z1025), (4, iv (z695 + 1))]) (List.forall_mem_cons.mpr ⟨rfl, List.forall_mem_cons.mpr ⟨rfl, List.forall_mem_cons.mpr ⟨rfl, List.forall_mem_cons.mpr ⟨rfl, List.forall_mem_cons.mpr ⟨rfl, fun _ h => absurd h List.not_mem_nil⟩⟩⟩⟩⟩) ?_
              exact ih705 z1025 (z695 + 1) μ779 T780 (mF.call (mF.call mF.refl F702 rfl) F781 rfl) h1027 (rW (c := 0) (d := 16) (rAdd (e := 1) (f := 16) h771 (rR (x := 1)) rfl) rfl) (vc_X12_load_14 (nS h704) h770 h771 h772)
            have h1057 : 0 ≤ z1024 ∧ z1024 ≤ 10 := (vc_X12_load_15 h1056 h1028 h1036)
            have h1058 : 2 ≤ z1034 ∧ z1034 ≤ 12 := (vc_X12_load_16 h1056 h1057 h1036)
            refine sv_aload_n (pc := 66) dX12_load_66 rfl rfl ?_
            refine gf_X12_105 (pc := 67) dX12_load_67 wF_X12_487 (A_106 hw) T780 ?_
            refine mr_iload (pc := 70) (z := z1024) dX12_load_70 rfl ?_
            refine la_175 (pc := 72) dX12_load_72 (A_175 hw) T780 (rIx (n := 12) h1057 rfl) fun z1059 q1060 h1061 => ?_
            refine sv_aload_n (pc := 73) dX12_load_73 rfl rfl ?_
            refine gf_X12_7 (pc := 74) dX12_load_74 wF_X12_40 (A_106 hw) T780 ?_
            refine mr_iconst (pc := 77) (z := 2) dX12_load_77 ?_
            refine mr_iload_n (pc := 78) (z := p1) dX12_load_78 rfl rfl ?_
            refine mr_imul (pc := 79) (x := 2) (y := p1) dX12_load_79 ?_
            refine mr_iload_n (pc := 80) (z := p2) dX12_load_80 rfl rfl ?_
            refine mr_iadd (pc := 81) (x := (2 * p1)) (y := p2) dX12_load_81 ?_
            refine la_110 (pc := 82) dX12_load_82 (A_110 hw) T780 (rIx (n := 40) (rAdd (e := 0) (f := 39) (rMulL (n := 2) (e := 0) (f := 38) h14 rfl) h24 rfl) rfl) fun z1062 q1063 h1064 => ?_
            refine mr_icmp_ne (pc := 83) (tgt := 120) dX12_load_83 (by decide) (r32 h1061 rfl) (r32 h1064 rfl) (fun h1076 => ?_) (fun h1076 => ?_)
            · refine mr_iinc (pc := 120) (lv' := [(5, iv (z1024 + 1)), (0, .ref 106), (1, iv p1), (2, iv p2), (3, iv z1025), (4, iv z695)]) dX12_load_120 rfl (by decide) rfl ?_
              refine sv_goto (pc := 123) (tgt := 55) dX12_load_123 (by decide) ?_
              refine mr_lvS (lv' := [(0, .ref 106), (1, iv p1), (2, iv p2), (3, iv z1025), (4, iv z695), (5, iv (z1024 + 1))]) (List.forall_mem_cons.mpr ⟨rfl, List.forall_mem_cons.mpr ⟨rfl, List.forall_mem_cons.mpr ⟨rfl, List.forall_mem_cons.mpr ⟨rfl, List.forall_mem_cons.mpr ⟨rfl, List.forall_mem_cons.mpr ⟨rfl, fun _ h => absurd h List.not_mem_nil⟩⟩⟩⟩⟩⟩) ?_
              exact ih1033 z1025 (z1024 + 1) trivial h1027 (rW (c := 0) (d := 11) (rAdd (e := 1) (f := 11) h1057 (rR (x := 1)) rfl) rfl) (vc_X12_load_17 (nS h1032) h1056 h1057 h1058)
            refine sv_aload_n (pc := 86) dX12_load_86 rfl rfl ?_
            refine gf_X12_105 (pc := 87) dX12_load_87 wF_X12_487 (A_106 hw) T780 ?_
            refine mr_iload (pc := 90) (z := z1024) dX12_load_90 rfl ?_
            refine mr_iconst (pc := 92) (z := 1) dX12_load_92 ?_
            refine mr_iadd (pc := 93) (x := z1024) (y := 1) dX12_load_93 ?_
            refine la_175 (pc := 94) dX12_load_94 (A_175 hw) T780 (rIx (n := 12) (rAdd (e := 1) (f := 11) h1057 (rR (x := 1)) rfl) rfl) fun z1077 q1078 h1079 => ?_
            refine sv_aload_n (pc := 95) dX12_load_95 rfl rfl ?_
            refine gf_X12_7 (pc := 96) dX12_load_96 wF_X12_40 (A_106 hw) T780 ?_
            refine mr_iconst (pc := 99) (z := 2) dX12_load_99 ?_
            refine mr_iload_n (pc := 100) (z := p1) dX12_load_100 rfl rfl ?_
            refine mr_imul (pc := 101) (x := 2) (y := p1) dX12_load_101 ?_
            refine mr_iconst (pc := 102) (z := 1) dX12_load_102 ?_
            refine mr_iadd (pc := 103) (x := (2 * p1)) (y := 1) dX12_load_103 ?_
            refine mr_iload_n (pc := 104) (z := p2) dX12_load_104 rfl rfl ?_
            refine mr_isub (pc := 105) (x := ((2 * p1) + 1)) (y := p2) dX12_load_105 ?_
            refine la_110 (pc := 106) dX12_load_106 (A_110 hw) T780 (rIx (n := 40) (rSub (e := 0) (f := 39) (rAdd (e := 1) (f := 39) (rMulL (n := 2) (e := 0) (f := 38) h14 rfl) (rR (x := 1)) rfl) h24 rfl) rfl) fun z1080 q1081 h1082 => ?_
            refine mr_icmp_ne (pc := 107) (tgt := 120) dX12_load_107 (by decide) (r32 h1079 rfl) (r32 h1082 rfl) (fun h1088 => ?_) (fun h1088 => ?_)
            · refine mr_iinc (pc := 120) (lv' := [(5, iv (z1024 + 1)), (0, .ref 106), (1, iv p1), (2, iv p2), (3, iv z1025), (4, iv z695)]) dX12_load_120 rfl (by decide) rfl ?_
              refine sv_goto (pc := 123) (tgt := 55) dX12_load_123 (by decide) ?_
              refine mr_lvS (lv' := [(0, .ref 106), (1, iv p1), (2, iv p2), (3, iv z1025), (4, iv z695), (5, iv (z1024 + 1))]) (List.forall_mem_cons.mpr ⟨rfl, List.forall_mem_cons.mpr ⟨rfl, List.forall_mem_cons.mpr ⟨rfl, List.forall_mem_cons.mpr ⟨rfl, List.forall_mem_cons.mpr ⟨rfl, List.forall_mem_cons.mpr ⟨rfl, fun _ h => absurd h List.not_mem_nil⟩⟩⟩⟩⟩⟩) ?_
              exact ih1033 z1025 (z1024 + 1) trivial h1027 (rW (c := 0) (d := 11) (rAdd (e := 1) (f := 11) h1057 (rR (x := 1)) rfl) rfl) (vc_X12_load_17 (nS h1032) h1056 h1057 h1058)
            refine mr_iload_n (pc := 110) (z := z1025) dX12_load_110 rfl rfl ?_
            refine sv_aload_n (pc := 111) dX12_load_111 rfl rfl ?_
            refine gf_X12_112 (pc := 112) dX12_load_112 wF_X12_499 (A_106 hw) T780 ?_
            refine mr_iload (pc := 115) (z := z695) dX12_load_115 rfl ?_
            refine la_179 (pc := 117) dX12_load_117 (A_179 hw) T780 (rIx (n := 16) h771 rfl) fun z1089 q1090 h1091 => ?_
            refine mr_iadd (pc := 118) (x := z1025) (y := z1089) dX12_load_118 ?_
            refine mr_wrap fun z1092 h1093 => ?_
            refine mr_istore_n (pc := 119) (lv' := [(3, iv z1092), (0, .ref 106), (1, iv p1), (2, iv p2), (4, iv z695), (5, iv z1024)]) dX12_load_119 rfl (by decide) rfl ?_
            refine mr_iinc (pc := 120) (lv' := [(5, iv (z1024 + 1)), (3, iv z1092), (0, .ref 106), (1, iv p1), (2, iv p2), (4, iv z695)]) dX12_load_120 rfl (by decide) rfl ?_
            refine sv_goto (pc := 123) (tgt := 55) dX12_load_123 (by decide) ?_
            refine mr_lvS (lv' := [(0, .ref 106), (1, iv p1), (2, iv p2), (3, iv z1092), (4, iv z695), (5, iv (z1024 + 1))]) (List.forall_mem_cons.mpr ⟨rfl, List.forall_mem_cons.mpr ⟨rfl, List.forall_mem_cons.mpr ⟨rfl, List.forall_mem_cons.mpr ⟨rfl, List.forall_mem_cons.mpr ⟨rfl, List.forall_mem_cons.mpr ⟨rfl, fun _ h => absurd h List.not_mem_nil⟩⟩⟩⟩⟩⟩) ?_
            exact ih1033 z1092 (z1024 + 1) trivial h1093 (rW (c := 0) (d := 11) (rAdd (e := 1) (f := 11) h1057 (rR (x := 1)) rfl) rfl) (vc_X12_load_17 (nS h1032) h1056 h1057 h1058)
        refine mr_lvS (lv' := [(0, .ref 106), (1, iv p1), (2, iv p2), (3, iv z696), (4, iv z695), (5, iv 0)]) (List.forall_mem_cons.mpr ⟨rfl, List.forall_mem_cons.mpr ⟨rfl, List.forall_mem_cons.mpr ⟨rfl, List.forall_mem_cons.mpr ⟨rfl, List.forall_mem_cons.mpr ⟨rfl, List.forall_mem_cons.mpr ⟨rfl, fun _ h => absurd h List.not_mem_nil⟩⟩⟩⟩⟩⟩) ?_
        exact L1026 13 z696 0 trivial h699 (rW (c := 0) (d := 11) (rR (x := 0)) rfl) vc_X12_load_18
    refine mr_lvS (lv' := [(0, .ref 106), (1, iv p1), (2, iv p2), (3, iv 0), (4, iv 0)]) (List.forall_mem_cons.mpr ⟨rfl, List.forall_mem_cons.mpr ⟨rfl, List.forall_mem_cons.mpr ⟨rfl, List.forall_mem_cons.mpr ⟨rfl, List.forall_mem_cons.mpr ⟨rfl, fun _ h => absurd h List.not_mem_nil⟩⟩⟩⟩⟩) ?_
    exact L698 18 0 0 μ hT mF.refl (rW (c := (-2147483648)) (d := 2147483647) (rR (x := 0)) rfl) (rW (c := 0) (d := 16) (rR (x := 0)) rfl) vc_X12_load_19
  have h1094 : 0 ≤ z20 ∧ z20 ≤ 0 := (vc_X12_load_20 h21 h19.2.1 h19.2.2.1 hp2 h19.1)
  have h1095 : p2 < (0 : Int) ∨ (1 : Int) < p2 := (h19.2.2.1 (vc_X12_load_21 h19.2.1 h19.2.2.1 h21 hp2 h1094))
  refine mr_iconst (pc := 17) (z := (-1)) dX12_load_17 ?_
  exact mr_iret dX12_load_18 rfl (le_t rfl) (le_t rfl) hT mF.refl ⟨(rW (c := (-2147483648)) (d := 2147483647) (rR (x := (-1))) rfl), trivial⟩
theorem vc_X12_units_1 {p1 z5 : Int} (h0 : ¬ z5 = 0) (h1 : (z5 = 1 → (0 : Int) ≤ p1 ∧ p1 ≤ (2 : Int))) (h2 : (z5 = 0 → p1 < (0 : Int) ∨ (2 : Int) < p1)) (h3 : (-2147483648) ≤ p1 ∧ p1 ≤ 2147483647) (h4 : 0 ≤ z5 ∧ z5 ≤ 1) : 1 ≤ z5 ∧ z5 ≤ 1 := by omega
theorem vc_X12_units_2 {p1 z5 : Int} (h0 : (z5 = 1 → (0 : Int) ≤ p1 ∧ p1 ≤ (2 : Int))) (h1 : (z5 = 0 → p1 < (0 : Int) ∨ (2 : Int) < p1)) (h2 : ¬ z5 = 0) (h3 : (-2147483648) ≤ p1 ∧ p1 ≤ 2147483647) (h4 : 1 ≤ z5 ∧ z5 ≤ 1) : z5 = 1 := by omega
theorem vc_X12_units_3 {p1 z5 : Int} (h0 : (0 : Int) ≤ p1 ∧ p1 ≤ (2 : Int)) (h1 : (z5 = 1 → (0 : Int) ≤ p1 ∧ p1 ≤ (2 : Int))) (h2 : (z5 = 0 → p1 < (0 : Int) ∨ (2 : Int) < p1)) (h3 : (-2147483648) ≤ p1 ∧ p1 ≤ 2147483647) (h4 : 1 ≤ z5 ∧ z5 ≤ 1) : 0 ≤ p1 ∧ p1 ≤ 2 := by omega
theorem vc_X12_units_4 {z224 : Int} (h0 : (17 - z224) < ((0 : Nat) : Int)) (h1 : 0 ≤ z224 ∧ z224 ≤ 16) : False := by omega
theorem vc_X12_units_5 {z224 z235 : Int} (h0 : z224 < z235) (h1 : 0 ≤ z224 ∧ z224 ≤ 16) (h2 : 0 ≤ z235 ∧ z235 ≤ 16) : 0 ≤ z224 ∧ z224 ≤ 15 := by omega
theorem vc_X12_units_6 {z224 z235 : Int} (h0 : z224 < z235) (h1 : 0 ≤ z224 ∧ z224 ≤ 15) (h2 : 0 ≤ z235 ∧ z235 ≤ 16) : 1 ≤ z235 ∧ z235 ≤ 16 := by omega
theorem vc_X12_units_7 {N z224 z235 : Int} (h0 : (17 - z224) < N + 1) (h1 : z224 < z235) (h2 : 0 ≤ z224 ∧ z224 ≤ 15) (h3 : 1 ≤ z235 ∧ z235 ≤ 16) : (17 - (z224 + 1)) < N := by omega
theorem vc_X12_units_8  : (17 - 0) < ((18 : Nat) : Int) := by omega
theorem vc_X12_units_9 {p1 z5 : Int} (h0 : z5 = 0) (h1 : (z5 = 1 → (0 : Int) ≤ p1 ∧ p1 ≤ (2 : Int))) (h2 : (z5 = 0 → p1 < (0 : Int) ∨ (2 : Int) < p1)) (h3 : (-2147483648) ≤ p1 ∧ p1 ≤ 2147483647) (h4 : 0 ≤ z5 ∧ z5 ≤ 1) : 0 ≤ z5 ∧ z5 ≤ 0 := by omega
theorem vc_X12_units_10 {p1 z5 : Int} (h0 : (z5 = 1 → (0 : Int) ≤ p1 ∧ p1 ≤ (2 : Int))) (h1 : (z5 = 0 → p1 < (0 : Int) ∨ (2 : Int) < p1)) (h2 : z5 = 0) (h3 : (-2147483648) ≤ p1 ∧ p1 ≤ 2147483647) (h4 : 0 ≤ z5 ∧ z5 ≤ 0) : z5 = 0 := by omega
set_option maxRecDepth 4000 in
set_option maxHeartbeats 4000000 in
theorem c_X12_units {l : Launch} {D : va_G} {c : Nat → ClassId} {H0 : Heap} {sa : Nat × Nat × (Nat → Int32)} {w : mW} {μ : mM} (hw : mWF w) (hT : mT w μ) {p1 : Int} (hp1 : (-2147483648) ≤ p1 ∧ p1 ≤ 2147483647) : sC (gG l D c H0 sa) mX12_units 5 0 0 [.ref 106, iv p1] (mk w μ) (qI w [106106, 175999] μ (fun z μ1 => ((-2147483648) ≤ z ∧ z ≤ 2147483647) ∧ True)) := by
  refine sC.of rfl (by decide) (le_t rfl) ?_
  refine mr_lvE (lv' := [(0, .ref 106), (1, iv p1)]) rfl ?_
  refine mr_iload_n (pc := 0) (z := p1) dX12_units_0 rfl rfl ?_
  refine mr_iconst (pc := 1) (z := 0) dX12_units_1 ?_
  refine mr_iconst (pc := 2) (z := 2) dX12_units_2 ?_
  refine mr_cSP (pc := 3) (c_X12_in hw hT hp1 (rW (c := (-2147483648)) (d := 2147483647) (rR (x := 0)) rfl) (rW (c := (-2147483648)) (d := 2147483647) (rR (x := 2)) rfl)) (gOk _ _ _ _ _) dX12_units_3 (tX12_in _ _ _ _ _) wS_X12_in wM_X12_18 ⟨le_t rfl, le_t rfl⟩ ⟨le_t rfl, le_t rfl⟩ rfl (le_t rfl) fun z5 h4 => ?_
  refine mr_if_ne (pc := 6) (tgt := 11) dX12_units_6 (by decide) (r32 h4.1 rfl) (fun h6 => ?_) (fun h6 => ?_)
  · have h7 : 1 ≤ z5 ∧ z5 ≤ 1 := (vc_X12_units_1 h6 h4.2.1 h4.2.2.1 hp1 h4.1)
    have h8 : (0 : Int) ≤ p1 ∧ p1 ≤ (2 : Int) := (h4.2.1 (vc_X12_units_2 h4.2.1 h4.2.2.1 h6 hp1 h7))
    have h9 : 0 ≤ p1 ∧ p1 ≤ 2 := (vc_X12_units_3 h8 h4.2.1 h4.2.2.1 hp1 h7)
    refine mr_iconst (pc := 11) (z := 0) dX12_units_11 ?_
    refine mr_istore_n (pc := 12) (lv' := [(2, iv 0), (0, .ref 106), (1, iv p1)]) dX12_units_12 rfl (by decide) rfl ?_
    refine mr_iconst (pc := 13) (z := 0) dX12_units_13 ?_
    refine mr_istore_n (pc := 14) (lv' := [(3, iv 0), (2, iv 0), (0, .ref 106), (1, iv p1)]) dX12_units_14 rfl (by decide) rfl ?_
    have L227 : ∀ (nL227 : Nat) (z225 z224 : Int) (μ226 : mM), mT w μ226 → mF [106106, 175999] w μ μ226 → ((-2147483648) ≤ z225 ∧ z225 ≤ 2147483647) → (0 ≤ z224 ∧ z224 ≤ 16) → (17 - z224) < (nL227 : Int) → sV (gG l D c H0 sa) mX12_units (sRm 5 0 0) (sZ (gG l D c H0 sa) 0 0 (qI w [106106, 175999] μ (fun z μ1 => ((-2147483648) ≤ z ∧ z ≤ 2147483647) ∧ True))) 15 [(0, .ref 106), (1, iv p1), (2, iv z225), (3, iv z224)] [] (mk w μ226) 0 0 := by
      intro nL227
      induction nL227 with
      | zero => intro z225 z224 μ226 T230 F231 h228 h229 h233; exact ((vc_X12_units_4 h233 h229)).elim
      | succ nL227 ih234 =>
        intro z225 z224 μ226 T230 F231 h228 h229 h233
        refine mr_iload_n (pc := 15) (z := z224) dX12_units_15 rfl rfl ?_
        refine sv_aload_n (pc := 16) dX12_units_16 rfl rfl ?_
        refine gf_X12_109 (pc := 17) dX12_units_17 wF_X12_695 (A_106 hw) T230 fun z235 q236 h237 => ?_
        refine mr_icmp_ge (pc := 20) (tgt := 62) dX12_units_20 (by decide) (r32 h229 rfl) (r32 h237 rfl) (fun h256 => ?_) (fun h256 => ?_)
        · refine mr_iload_n (pc := 62) (z := z225) dX12_units_62 rfl rfl ?_
          exact mr_iret dX12_units_63 rfl (le_t rfl) (le_t rfl) T230 (mF.call mF.refl F231 rfl) ⟨h228, trivial⟩
        have h257 : 0 ≤ z224 ∧ z224 ≤ 15 := (vc_X12_units_5 h256 h229 h237)
        have h258 : 1 ≤ z235 ∧ z235 ≤ 16 := (vc_X12_units_6 h256 h257 h237)
        refine mr_iload_n (pc := 23) (z := z225) dX12_units_23 rfl rfl ?_
        refine sv_aload_n (pc := 24) dX12_units_24 rfl rfl ?_
        refine sv_aload_n (pc := 25) dX12_units_25 rfl rfl ?_
        refine gf_X12_110 (pc := 26) dX12_units_26 wF_X12_493 (A_106 hw) T230 ?_
        refine mr_iload_n (pc := 29) (z := z224) dX12_units_29 rfl rfl ?_
        refine la_177 (pc := 30) dX12_units_30 (A_177 hw) T230 (rIx (n := 16) h257 rfl) fun z259 q260 h261 => ?_
        refine sv_aload_n (pc := 31) dX12_units_31 rfl rfl ?_
        refine gf_X12_111 (pc := 32) dX12_units_32 wF_X12_496 (A_106 hw) T230 ?_
        refine mr_iload_n (pc := 35) (z := z224) dX12_units_35 rfl rfl ?_
        refine la_178 (pc := 36) dX12_units_36 (A_178 hw) T230 (rIx (n := 16) h257 rfl) fun z262 q263 h264 => ?_
        refine mr_cVI (pc := 37) (c_X12_goes hw T230 h261 h264) (gOk _ _ _ _ _) dX12_units_37 (tX12_goes _ _ _ _ _) ⟨wV_X12_goes, wL_X12_goes⟩ wM_X12_689 (gCX12 _ _ _ _ _) rfl (A_106 hw) rfl ⟨le_t rfl, le_t rfl⟩ ⟨le_t rfl, le_t rfl⟩ rfl (le_t rfl) fun z269 μ265 T266 F267 h268 => ?_
        refine mr_iload_n (pc := 40) (z := p1) dX12_units_40 rfl rfl ?_
        refine mr_icmp_ne (pc := 41) (tgt := 53) dX12_units_41 (by decide) (r32 h268.1 rfl) (r32 h9 rfl) (fun h273 => ?_) (fun h273 => ?_)
        · refine mr_iconst (pc := 53) (z := 0) dX12_units_53 ?_
          refine mr_iadd (pc := 54) (x := z225) (y := 0) dX12_units_54 ?_
          refine mr_istore_n (pc := 55) (lv' := [(2, iv (z225 + 0)), (0, .ref 106), (1, iv p1), (3, iv z224)]) dX12_units_55 rfl (by decide) rfl ?_
          refine mr_iinc (pc := 56) (lv' := [(3, iv (z224 + 1)), (2, iv (z225 + 0)), (0, .ref 106), (1, iv p1)]) dX12_units_56 rfl (by decide) rfl ?_
          refine sv_goto (pc := 59) (tgt := 15) dX12_units_59 (by decide) ?_
          refine mr_lvS (lv' := [(0, .ref 106), (1, iv p1), (2, iv (z225 + 0)), (3, iv (z224 + 1))]) (List.forall_mem_cons.mpr ⟨rfl, List.forall_mem_cons.mpr ⟨rfl, List.forall_mem_cons.mpr ⟨rfl, List.forall_mem_cons.mpr ⟨rfl, fun _ h => absurd h List.not_mem_nil⟩⟩⟩⟩) ?_
          exact ih234 (z225 + 0) (z224 + 1) μ265 T266 (mF.call (mF.call mF.refl F231 rfl) F267 rfl) (rAdd (e := (-2147483648)) (f := 2147483647) h228 (rR (x := 0)) rfl) (rW (c := 0) (d := 16) (rAdd (e := 1) (f := 16) h257 (rR (x := 1)) rfl) rfl) (vc_X12_units_7 (nS h233) h256 h257 h258)
        refine sv_aload_n (pc := 44) dX12_units_44 rfl rfl ?_
        refine gf_X12_112 (pc := 45) dX12_units_45 wF_X12_499 (A_106 hw) T266 ?_
        refine mr_iload_n (pc := 48) (z := z224) dX12_units_48 rfl rfl ?_
        refine la_179 (pc := 49) dX12_units_49 (A_179 hw) T266 (rIx (n := 16) h257 rfl) fun z274 q275 h276 => ?_
        refine sv_goto (pc := 50) (tgt := 54) dX12_units_50 (by decide) ?_
        refine mr_iadd (pc := 54) (x := z225) (y := z274) dX12_units_54 ?_
        refine mr_wrap fun z277 h278 => ?_
        refine mr_istore_n (pc := 55) (lv' := [(2, iv z277), (0, .ref 106), (1, iv p1), (3, iv z224)]) dX12_units_55 rfl (by decide) rfl ?_
        refine mr_iinc (pc := 56) (lv' := [(3, iv (z224 + 1)), (2, iv z277), (0, .ref 106), (1, iv p1)]) dX12_units_56 rfl (by decide) rfl ?_
        refine sv_goto (pc := 59) (tgt := 15) dX12_units_59 (by decide) ?_
        refine mr_lvS (lv' := [(0, .ref 106), (1, iv p1), (2, iv z277), (3, iv (z224 + 1))]) (List.forall_mem_cons.mpr ⟨rfl, List.forall_mem_cons.mpr ⟨rfl, List.forall_mem_cons.mpr ⟨rfl, List.forall_mem_cons.mpr ⟨rfl, fun _ h => absurd h List.not_mem_nil⟩⟩⟩⟩) ?_
        exact ih234 z277 (z224 + 1) μ265 T266 (mF.call (mF.call mF.refl F231 rfl) F267 rfl) h278 (rW (c := 0) (d := 16) (rAdd (e := 1) (f := 16) h257 (rR (x := 1)) rfl) rfl) (vc_X12_units_7 (nS h233) h256 h257 h258)
    refine mr_lvS (lv' := [(0, .ref 106), (1, iv p1), (2, iv 0), (3, iv 0)]) (List.forall_mem_cons.mpr ⟨rfl, List.forall_mem_cons.mpr ⟨rfl, List.forall_mem_cons.mpr ⟨rfl, List.forall_mem_cons.mpr ⟨rfl, fun _ h => absurd h List.not_mem_nil⟩⟩⟩⟩) ?_
    exact L227 18 0 0 μ hT mF.refl (rW (c := (-2147483648)) (d := 2147483647) (rR (x := 0)) rfl) (rW (c := 0) (d := 16) (rR (x := 0)) rfl) vc_X12_units_8
  have h279 : 0 ≤ z5 ∧ z5 ≤ 0 := (vc_X12_units_9 h6 h4.2.1 h4.2.2.1 hp1 h4.1)
  have h280 : p1 < (0 : Int) ∨ (2 : Int) < p1 := (h4.2.2.1 (vc_X12_units_10 h4.2.1 h4.2.2.1 h6 hp1 h279))
  refine mr_iconst (pc := 9) (z := (-1)) dX12_units_9 ?_
  exact mr_iret dX12_units_10 rfl (le_t rfl) (le_t rfl) hT mF.refl ⟨(rW (c := (-2147483648)) (d := 2147483647) (rR (x := (-1))) rfl), trivial⟩
theorem vc_X12_eventAt_f_1 {p1 : Int} (h0 : 400 ≤ p1) (h1 : 0 ≤ p1 ∧ p1 ≤ 799) : 400 ≤ p1 ∧ p1 ≤ 799 := by omega
theorem vc_X12_eventAt_f_2 {p1 : Int} (h0 : 400 ≤ p1) (h1 : 400 ≤ p1 ∧ p1 ≤ 799) : 400 ≤ p1 := by omega
theorem vc_X12_eventAt_f_3 {p1 : Int} (h0 : p1 < 400) (h1 : 0 ≤ p1 ∧ p1 ≤ 799) : 0 ≤ p1 ∧ p1 ≤ 399 := by omega
theorem vc_X12_eventAt_f_4 {p1 : Int} (h0 : p1 < 400) (h1 : 0 ≤ p1 ∧ p1 ≤ 399) : p1 < 400 := by omega
set_option maxRecDepth 4000 in
set_option maxHeartbeats 4000000 in
theorem c_X12_eventAt_f {l : Launch} {D : va_G} {c : Nat → ClassId} {H0 : Heap} {sa : Nat × Nat × (Nat → Int32)} {w : mW} {μ : mM} (hw : mWF w) (hT : mT w μ) {p1 : Int} (hp1 : 0 ≤ p1 ∧ p1 ≤ 799) : sC (gG l D c H0 sa) mX12_eventAt 1 0 0 [.ref 106, iv p1] (mk w μ) (qP w μ (fun z => ((-1) ≤ z ∧ z ≤ 2000001000) ∧ z = evF μ p1 ∧ True)) := by
  refine sC.of rfl (by decide) (le_t rfl) ?_
  refine mr_lvE (lv' := [(0, .ref 106), (1, iv p1)]) rfl ?_
  refine mr_iload_n (pc := 0) (z := p1) dX12_eventAt_0 rfl rfl ?_
  refine mr_sipush (pc := 1) (z := 400) dX12_eventAt_1 (by decide) ?_
  refine mr_icmp_ge (pc := 4) (tgt := 16) dX12_eventAt_4 (by decide) (r32 hp1 rfl) (r32 (rR (x := 400)) rfl) (fun h1 => ?_) (fun h1 => ?_)
  · have h2 : 400 ≤ p1 ∧ p1 ≤ 799 := (vc_X12_eventAt_f_1 h1 hp1)
    refine sv_aload_n (pc := 16) dX12_eventAt_16 rfl rfl ?_
    refine gf_X12_79 (pc := 17) dX12_eventAt_17 wF_X12_439 (A_106 hw) hT ?_
    refine mr_iload_n (pc := 20) (z := p1) dX12_eventAt_20 rfl rfl ?_
    refine mr_sipush (pc := 21) (z := 400) dX12_eventAt_21 (by decide) ?_
    refine mr_isub (pc := 24) (x := p1) (y := 400) dX12_eventAt_24 ?_
    refine la_159 (pc := 25) dX12_eventAt_25 (A_159 hw) hT (rIx (n := 400) (rSub (e := 0) (f := 399) h2 (rR (x := 400)) rfl) rfl) fun z3 q4 h5 => ?_
    exact mr_iretP dX12_eventAt_26 rfl (le_t rfl) (le_t rfl) ⟨h5, (evF.hi (vc_X12_eventAt_f_2 h1 h2) rfl q4), trivial⟩
  have h6 : 0 ≤ p1 ∧ p1 ≤ 399 := (vc_X12_eventAt_f_3 h1 hp1)
  refine sv_aload_n (pc := 7) dX12_eventAt_7 rfl rfl ?_
  refine gf_X12_77 (pc := 8) dX12_eventAt_8 wF_X12_433 (A_106 hw) hT ?_
  refine mr_iload_n (pc := 11) (z := p1) dX12_eventAt_11 rfl rfl ?_
  refine la_157 (pc := 12) dX12_eventAt_12 (A_157 hw) hT (rIx (n := 400) h6 rfl) fun z7 q8 h9 => ?_
  refine sv_goto (pc := 13) (tgt := 26) dX12_eventAt_13 (by decide) ?_
  exact mr_iretP dX12_eventAt_26 rfl (le_t rfl) (le_t rfl) ⟨h9, (evF.lo (vc_X12_eventAt_f_4 h1 h6) q8), trivial⟩
theorem vc_X12_nextEvent_ev_1 {z369 : Int} (h0 : (801 - z369) < ((0 : Nat) : Int)) (h1 : 0 ≤ z369 ∧ z369 ≤ 800) : False := by omega
theorem vc_X12_nextEvent_ev_2 {z369 : Int} (h0 : 800 ≤ z369) (h1 : 0 ≤ z369 ∧ z369 ≤ 800) : 800 ≤ z369 ∧ z369 ≤ 800 := by omega
theorem vc_X12_nextEvent_ev_3 {z369 : Int} (h0 : 800 ≤ z369) (h1 : 800 ≤ z369 ∧ z369 ≤ 800) : z369 = 800 := by omega
theorem vc_X12_nextEvent_ev_4 {z372 : Int} (h0 : (-99999999) ≤ z372 ∧ z372 ≤ 799) (h1 : z372 = (-99999999) ∨ (0 ≤ z372 ∧ z372 ≤ 799)) : z372 = -99999999 ∨ (0 ≤ z372 ∧ z372 ≤ 799) := by omega
theorem vc_X12_nextEvent_ev_5 {z369 : Int} (h0 : z369 < 800) (h1 : 0 ≤ z369 ∧ z369 ≤ 800) : 0 ≤ z369 ∧ z369 ≤ 799 := by omega
theorem vc_X12_nextEvent_ev_6 {z369 : Int} (h0 : 400 ≤ z369) (h1 : z369 < 800) (h2 : 0 ≤ z369 ∧ z369 ≤ 799) : 400 ≤ z369 ∧ z369 ≤ 799 := by omega
theorem vc_X12_nextEvent_ev_7 {z369 : Int} (h0 : z369 < 400) (h1 : 400 ≤ z369 ∧ z369 ≤ 799) : False := by omega
theorem vc_X12_nextEvent_ev_8 {z426 : Int} (h0 : z426 < 0) (h1 : (-1) ≤ z426 ∧ z426 ≤ 2000001000) : (-1) ≤ z426 ∧ z426 ≤ (-1) := by omega
theorem vc_X12_nextEvent_ev_9 {N z369 : Int} (h0 : (801 - z369) < N + 1) (h1 : z369 < 800) (h2 : 400 ≤ z369) (h3 : 400 ≤ z369 ∧ z369 ≤ 799) : (801 - (z369 + 1)) < N := by omega
theorem vc_X12_nextEvent_ev_10 {z369 : Int} (h0 : z369 < 800) (h1 : 400 ≤ z369) (h2 : 400 ≤ z369 ∧ z369 ≤ 799) : 400 ≤ z369 := by omega
theorem vc_X12_nextEvent_ev_11 {z369 : Int} (h0 : z369 < 800) (h1 : 400 ≤ z369) (h2 : 400 ≤ z369 ∧ z369 ≤ 799) : 0 ≤ z369 := by omega
theorem vc_X12_nextEvent_ev_12 {z370 z371 z372 z426 z429 : Int} (h0 : z426 < 0) (h1 : (-2147483648) ≤ z370 ∧ z370 ≤ 2147483647) (h2 : 0 ≤ z371 ∧ z371 ≤ 2000000000) (h3 : (-99999999) ≤ z372 ∧ z372 ≤ 799) (h4 : z372 = (-99999999) ∨ (0 ≤ z372 ∧ z372 ≤ 799)) (h5 : (-1) ≤ z426 ∧ z426 ≤ (-1)) (h6 : (-2147483648) ≤ z429 ∧ z429 ≤ 2147483647) : ¬ (0 ≤ z426 ∧ z426 ≤ 2000000000 ∧ (z372 = -99999999 ∨ z426 < z371 ∨ (z426 = z371 ∧ z429 < z370))) := by omega
theorem vc_X12_nextEvent_ev_13 {z372 : Int} (h0 : (-99999999) ≤ z372 ∧ z372 ≤ 799) (h1 : z372 = (-99999999) ∨ (0 ≤ z372 ∧ z372 ≤ 799)) : z372 = (-99999999) ∨ (0 ≤ z372 ∧ z372 ≤ 799) := by omega
theorem vc_X12_nextEvent_ev_14 {z426 : Int} (h0 : 0 ≤ z426) (h1 : (-1) ≤ z426 ∧ z426 ≤ 2000001000) : 0 ≤ z426 ∧ z426 ≤ 2000001000 := by omega
theorem vc_X12_nextEvent_ev_15 {z426 : Int} (h0 : 2000000000 < z426) (h1 : 0 ≤ z426) (h2 : 0 ≤ z426 ∧ z426 ≤ 2000001000) : 2000000001 ≤ z426 ∧ z426 ≤ 2000001000 := by omega
theorem vc_X12_nextEvent_ev_16 {z370 z371 z372 z426 z429 : Int} (h0 : 0 ≤ z426) (h1 : 2000000000 < z426) (h2 : (-2147483648) ≤ z370 ∧ z370 ≤ 2147483647) (h3 : 0 ≤ z371 ∧ z371 ≤ 2000000000) (h4 : (-99999999) ≤ z372 ∧ z372 ≤ 799) (h5 : z372 = (-99999999) ∨ (0 ≤ z372 ∧ z372 ≤ 799)) (h6 : 2000000001 ≤ z426 ∧ z426 ≤ 2000001000) (h7 : (-2147483648) ≤ z429 ∧ z429 ≤ 2147483647) : ¬ (0 ≤ z426 ∧ z426 ≤ 2000000000 ∧ (z372 = -99999999 ∨ z426 < z371 ∨ (z426 = z371 ∧ z429 < z370))) := by omega
theorem vc_X12_nextEvent_ev_17 {z426 : Int} (h0 : z426 ≤ 2000000000) (h1 : 0 ≤ z426) (h2 : 0 ≤ z426 ∧ z426 ≤ 2000001000) : 0 ≤ z426 ∧ z426 ≤ 2000000000 := by omega
theorem vc_X12_nextEvent_ev_18 {z372 : Int} (h0 : z372 = (-99999999)) (h1 : (-99999999) ≤ z372 ∧ z372 ≤ 799) (h2 : z372 = (-99999999) ∨ (0 ≤ z372 ∧ z372 ≤ 799)) : (-99999999) ≤ z372 ∧ z372 ≤ (-99999999) := by omega
theorem vc_X12_nextEvent_ev_19 {z370 z371 z372 z426 z429 : Int} (h0 : 0 ≤ z426) (h1 : z426 ≤ 2000000000) (h2 : z372 = (-99999999)) (h3 : (-2147483648) ≤ z370 ∧ z370 ≤ 2147483647) (h4 : 0 ≤ z371 ∧ z371 ≤ 2000000000) (h5 : (-99999999) ≤ z372 ∧ z372 ≤ (-99999999)) (h6 : z372 = (-99999999) ∨ (0 ≤ z372 ∧ z372 ≤ 799)) (h7 : 0 ≤ z426 ∧ z426 ≤ 2000000000) (h8 : (-2147483648) ≤ z429 ∧ z429 ≤ 2147483647) : 0 ≤ z426 ∧ z426 ≤ 2000000000 ∧ (z372 = -99999999 ∨ z426 < z371 ∨ (z426 = z371 ∧ z429 < z370)) := by omega
theorem vc_X12_nextEvent_ev_20 {z369 : Int} (h0 : z369 < 800) (h1 : 400 ≤ z369) (h2 : 400 ≤ z369 ∧ z369 ≤ 799) : z369 = (-99999999) ∨ (0 ≤ z369 ∧ z369 ≤ 799) := by omega
theorem vc_X12_nextEvent_ev_21 {z372 : Int} (h0 : ¬ z372 = (-99999999)) (h1 : (-99999999) ≤ z372 ∧ z372 ≤ 799) (h2 : z372 = (-99999999) ∨ (0 ≤ z372 ∧ z372 ≤ 799)) : 0 ≤ z372 ∧ z372 ≤ 799 := by omega
theorem vc_X12_nextEvent_ev_22 {z371 z426 : Int} (h0 : z426 < z371) (h1 : 0 ≤ z426) (h2 : z426 ≤ 2000000000) (h3 : 0 ≤ z371 ∧ z371 ≤ 2000000000) (h4 : 0 ≤ z426 ∧ z426 ≤ 2000000000) : 0 ≤ z426 ∧ z426 ≤ 1999999999 := by omega
theorem vc_X12_nextEvent_ev_23 {z371 z426 : Int} (h0 : z426 < z371) (h1 : 0 ≤ z426) (h2 : z426 ≤ 2000000000) (h3 : 0 ≤ z371 ∧ z371 ≤ 2000000000) (h4 : 0 ≤ z426 ∧ z426 ≤ 1999999999) : 1 ≤ z371 ∧ z371 ≤ 2000000000 := by omega
theorem vc_X12_nextEvent_ev_24 {z370 z371 z372 z426 z429 : Int} (h0 : 0 ≤ z426) (h1 : z426 ≤ 2000000000) (h2 : ¬ z372 = (-99999999)) (h3 : z426 < z371) (h4 : (-2147483648) ≤ z370 ∧ z370 ≤ 2147483647) (h5 : 1 ≤ z371 ∧ z371 ≤ 2000000000) (h6 : 0 ≤ z372 ∧ z372 ≤ 799) (h7 : z372 = (-99999999) ∨ (0 ≤ z372 ∧ z372 ≤ 799)) (h8 : 0 ≤ z426 ∧ z426 ≤ 1999999999) (h9 : (-2147483648) ≤ z429 ∧ z429 ≤ 2147483647) : 0 ≤ z426 ∧ z426 ≤ 2000000000 ∧ (z372 = -99999999 ∨ z426 < z371 ∨ (z426 = z371 ∧ z429 < z370)) := by omega
theorem vc_X12_nextEvent_ev_25 {z370 z371 z372 z426 z429 : Int} (h0 : 0 ≤ z426) (h1 : z426 ≤ 2000000000) (h2 : ¬ z372 = (-99999999)) (h3 : z371 ≤ z426) (h4 : ¬ z426 = z371) (h5 : (-2147483648) ≤ z370 ∧ z370 ≤ 2147483647) (h6 : 0 ≤ z371 ∧ z371 ≤ 2000000000) (h7 : 0 ≤ z372 ∧ z372 ≤ 799) (h8 : z372 = (-99999999) ∨ (0 ≤ z372 ∧ z372 ≤ 799)) (h9 : 0 ≤ z426 ∧ z426 ≤ 2000000000) (h10 : (-2147483648) ≤ z429 ∧ z429 ≤ 2147483647) : ¬ (0 ≤ z426 ∧ z426 ≤ 2000000000 ∧ (z372 = -99999999 ∨ z426 < z371 ∨ (z426 = z371 ∧ z429 < z370))) := by omega
theorem vc_X12_nextEvent_ev_26 {z372 : Int} (h0 : ¬ z372 = (-99999999)) (h1 : 0 ≤ z372 ∧ z372 ≤ 799) (h2 : z372 = (-99999999) ∨ (0 ≤ z372 ∧ z372 ≤ 799)) : z372 = (-99999999) ∨ (0 ≤ z372 ∧ z372 ≤ 799) := by omega
theorem vc_X12_nextEvent_ev_27 {z370 z371 z372 z426 z429 : Int} (h0 : 0 ≤ z426) (h1 : z426 ≤ 2000000000) (h2 : ¬ z372 = (-99999999)) (h3 : z371 ≤ z426) (h4 : z426 = z371) (h5 : z370 ≤ z429) (h6 : (-2147483648) ≤ z370 ∧ z370 ≤ 2147483647) (h7 : 0 ≤ z371 ∧ z371 ≤ 2000000000) (h8 : 0 ≤ z372 ∧ z372 ≤ 799) (h9 : z372 = (-99999999) ∨ (0 ≤ z372 ∧ z372 ≤ 799)) (h10 : 0 ≤ z426 ∧ z426 ≤ 2000000000) (h11 : (-2147483648) ≤ z429 ∧ z429 ≤ 2147483647) : ¬ (0 ≤ z426 ∧ z426 ≤ 2000000000 ∧ (z372 = -99999999 ∨ z426 < z371 ∨ (z426 = z371 ∧ z429 < z370))) := by omega
theorem vc_X12_nextEvent_ev_28 {z370 z429 : Int} (h0 : z429 < z370) (h1 : (-2147483648) ≤ z370 ∧ z370 ≤ 2147483647) (h2 : (-2147483648) ≤ z429 ∧ z429 ≤ 2147483647) : (-2147483648) ≤ z429 ∧ z429 ≤ 2147483646 := by omega
theorem vc_X12_nextEvent_ev_29 {z370 z429 : Int} (h0 : z429 < z370) (h1 : (-2147483648) ≤ z370 ∧ z370 ≤ 2147483647) (h2 : (-2147483648) ≤ z429 ∧ z429 ≤ 2147483646) : (-2147483647) ≤ z370 ∧ z370 ≤ 2147483647 := by omega
theorem vc_X12_nextEvent_ev_30 {z370 z371 z372 z426 z429 : Int} (h0 : 0 ≤ z426) (h1 : z426 ≤ 2000000000) (h2 : ¬ z372 = (-99999999)) (h3 : z371 ≤ z426) (h4 : z426 = z371) (h5 : z429 < z370) (h6 : (-2147483647) ≤ z370 ∧ z370 ≤ 2147483647) (h7 : 0 ≤ z371 ∧ z371 ≤ 2000000000) (h8 : 0 ≤ z372 ∧ z372 ≤ 799) (h9 : z372 = (-99999999) ∨ (0 ≤ z372 ∧ z372 ≤ 799)) (h10 : 0 ≤ z426 ∧ z426 ≤ 2000000000) (h11 : (-2147483648) ≤ z429 ∧ z429 ≤ 2147483646) : 0 ≤ z426 ∧ z426 ≤ 2000000000 ∧ (z372 = -99999999 ∨ z426 < z371 ∨ (z426 = z371 ∧ z429 < z370)) := by omega
theorem vc_X12_nextEvent_ev_31 {z369 : Int} (h0 : z369 < 400) (h1 : z369 < 800) (h2 : 0 ≤ z369 ∧ z369 ≤ 799) : 0 ≤ z369 ∧ z369 ≤ 399 := by omega
theorem vc_X12_nextEvent_ev_32 {z369 : Int} (h0 : 400 ≤ z369) (h1 : 0 ≤ z369 ∧ z369 ≤ 399) : False := by omega
theorem vc_X12_nextEvent_ev_33 {z449 : Int} (h0 : z449 < 0) (h1 : (-1) ≤ z449 ∧ z449 ≤ 2000001000) : (-1) ≤ z449 ∧ z449 ≤ (-1) := by omega
theorem vc_X12_nextEvent_ev_34 {N z369 : Int} (h0 : (801 - z369) < N + 1) (h1 : z369 < 800) (h2 : z369 < 400) (h3 : 0 ≤ z369 ∧ z369 ≤ 399) : (801 - (z369 + 1)) < N := by omega
theorem vc_X12_nextEvent_ev_35 {z369 : Int} (h0 : z369 < 800) (h1 : z369 < 400) (h2 : 0 ≤ z369 ∧ z369 ≤ 399) : z369 < 400 := by omega
theorem vc_X12_nextEvent_ev_36 {z369 : Int} (h0 : z369 < 800) (h1 : z369 < 400) (h2 : 0 ≤ z369 ∧ z369 ≤ 399) : 0 ≤ z369 := by omega
theorem vc_X12_nextEvent_ev_37 {z370 z371 z372 z449 z452 : Int} (h0 : z449 < 0) (h1 : (-2147483648) ≤ z370 ∧ z370 ≤ 2147483647) (h2 : 0 ≤ z371 ∧ z371 ≤ 2000000000) (h3 : (-99999999) ≤ z372 ∧ z372 ≤ 799) (h4 : z372 = (-99999999) ∨ (0 ≤ z372 ∧ z372 ≤ 799)) (h5 : (-1) ≤ z449 ∧ z449 ≤ (-1)) (h6 : (-2147483648) ≤ z452 ∧ z452 ≤ 2147483647) : ¬ (0 ≤ z449 ∧ z449 ≤ 2000000000 ∧ (z372 = -99999999 ∨ z449 < z371 ∨ (z449 = z371 ∧ z452 < z370))) := by omega
theorem vc_X12_nextEvent_ev_38 {z449 : Int} (h0 : 0 ≤ z449) (h1 : (-1) ≤ z449 ∧ z449 ≤ 2000001000) : 0 ≤ z449 ∧ z449 ≤ 2000001000 := by omega
theorem vc_X12_nextEvent_ev_39 {z449 : Int} (h0 : 2000000000 < z449) (h1 : 0 ≤ z449) (h2 : 0 ≤ z449 ∧ z449 ≤ 2000001000) : 2000000001 ≤ z449 ∧ z449 ≤ 2000001000 := by omega
theorem vc_X12_nextEvent_ev_40 {z370 z371 z372 z449 z452 : Int} (h0 : 0 ≤ z449) (h1 : 2000000000 < z449) (h2 : (-2147483648) ≤ z370 ∧ z370 ≤ 2147483647) (h3 : 0 ≤ z371 ∧ z371 ≤ 2000000000) (h4 : (-99999999) ≤ z372 ∧ z372 ≤ 799) (h5 : z372 = (-99999999) ∨ (0 ≤ z372 ∧ z372 ≤ 799)) (h6 : 2000000001 ≤ z449 ∧ z449 ≤ 2000001000) (h7 : (-2147483648) ≤ z452 ∧ z452 ≤ 2147483647) : ¬ (0 ≤ z449 ∧ z449 ≤ 2000000000 ∧ (z372 = -99999999 ∨ z449 < z371 ∨ (z449 = z371 ∧ z452 < z370))) := by omega
theorem vc_X12_nextEvent_ev_41 {z449 : Int} (h0 : z449 ≤ 2000000000) (h1 : 0 ≤ z449) (h2 : 0 ≤ z449 ∧ z449 ≤ 2000001000) : 0 ≤ z449 ∧ z449 ≤ 2000000000 := by omega
theorem vc_X12_nextEvent_ev_42 {z370 z371 z372 z449 z452 : Int} (h0 : 0 ≤ z449) (h1 : z449 ≤ 2000000000) (h2 : z372 = (-99999999)) (h3 : (-2147483648) ≤ z370 ∧ z370 ≤ 2147483647) (h4 : 0 ≤ z371 ∧ z371 ≤ 2000000000) (h5 : (-99999999) ≤ z372 ∧ z372 ≤ (-99999999)) (h6 : z372 = (-99999999) ∨ (0 ≤ z372 ∧ z372 ≤ 799)) (h7 : 0 ≤ z449 ∧ z449 ≤ 2000000000) (h8 : (-2147483648) ≤ z452 ∧ z452 ≤ 2147483647) : 0 ≤ z449 ∧ z449 ≤ 2000000000 ∧ (z372 = -99999999 ∨ z449 < z371 ∨ (z449 = z371 ∧ z452 < z370)) := by omega
theorem vc_X12_nextEvent_ev_43 {z369 : Int} (h0 : z369 < 800) (h1 : z369 < 400) (h2 : 0 ≤ z369 ∧ z369 ≤ 399) : z369 = (-99999999) ∨ (0 ≤ z369 ∧ z369 ≤ 799) := by omega
theorem vc_X12_nextEvent_ev_44 {z371 z449 : Int} (h0 : z449 < z371) (h1 : 0 ≤ z449) (h2 : z449 ≤ 2000000000) (h3 : 0 ≤ z371 ∧ z371 ≤ 2000000000) (h4 : 0 ≤ z449 ∧ z449 ≤ 2000000000) : 0 ≤ z449 ∧ z449 ≤ 1999999999 := by omega
theorem vc_X12_nextEvent_ev_45 {z371 z449 : Int} (h0 : z449 < z371) (h1 : 0 ≤ z449) (h2 : z449 ≤ 2000000000) (h3 : 0 ≤ z371 ∧ z371 ≤ 2000000000) (h4 : 0 ≤ z449 ∧ z449 ≤ 1999999999) : 1 ≤ z371 ∧ z371 ≤ 2000000000 := by omega
theorem vc_X12_nextEvent_ev_46 {z370 z371 z372 z449 z452 : Int} (h0 : 0 ≤ z449) (h1 : z449 ≤ 2000000000) (h2 : ¬ z372 = (-99999999)) (h3 : z449 < z371) (h4 : (-2147483648) ≤ z370 ∧ z370 ≤ 2147483647) (h5 : 1 ≤ z371 ∧ z371 ≤ 2000000000) (h6 : 0 ≤ z372 ∧ z372 ≤ 799) (h7 : z372 = (-99999999) ∨ (0 ≤ z372 ∧ z372 ≤ 799)) (h8 : 0 ≤ z449 ∧ z449 ≤ 1999999999) (h9 : (-2147483648) ≤ z452 ∧ z452 ≤ 2147483647) : 0 ≤ z449 ∧ z449 ≤ 2000000000 ∧ (z372 = -99999999 ∨ z449 < z371 ∨ (z449 = z371 ∧ z452 < z370)) := by omega
theorem vc_X12_nextEvent_ev_47 {z370 z371 z372 z449 z452 : Int} (h0 : 0 ≤ z449) (h1 : z449 ≤ 2000000000) (h2 : ¬ z372 = (-99999999)) (h3 : z371 ≤ z449) (h4 : ¬ z449 = z371) (h5 : (-2147483648) ≤ z370 ∧ z370 ≤ 2147483647) (h6 : 0 ≤ z371 ∧ z371 ≤ 2000000000) (h7 : 0 ≤ z372 ∧ z372 ≤ 799) (h8 : z372 = (-99999999) ∨ (0 ≤ z372 ∧ z372 ≤ 799)) (h9 : 0 ≤ z449 ∧ z449 ≤ 2000000000) (h10 : (-2147483648) ≤ z452 ∧ z452 ≤ 2147483647) : ¬ (0 ≤ z449 ∧ z449 ≤ 2000000000 ∧ (z372 = -99999999 ∨ z449 < z371 ∨ (z449 = z371 ∧ z452 < z370))) := by omega
theorem vc_X12_nextEvent_ev_48 {z370 z371 z372 z449 z452 : Int} (h0 : 0 ≤ z449) (h1 : z449 ≤ 2000000000) (h2 : ¬ z372 = (-99999999)) (h3 : z371 ≤ z449) (h4 : z449 = z371) (h5 : z370 ≤ z452) (h6 : (-2147483648) ≤ z370 ∧ z370 ≤ 2147483647) (h7 : 0 ≤ z371 ∧ z371 ≤ 2000000000) (h8 : 0 ≤ z372 ∧ z372 ≤ 799) (h9 : z372 = (-99999999) ∨ (0 ≤ z372 ∧ z372 ≤ 799)) (h10 : 0 ≤ z449 ∧ z449 ≤ 2000000000) (h11 : (-2147483648) ≤ z452 ∧ z452 ≤ 2147483647) : ¬ (0 ≤ z449 ∧ z449 ≤ 2000000000 ∧ (z372 = -99999999 ∨ z449 < z371 ∨ (z449 = z371 ∧ z452 < z370))) := by omega
theorem vc_X12_nextEvent_ev_49 {z370 z452 : Int} (h0 : z452 < z370) (h1 : (-2147483648) ≤ z370 ∧ z370 ≤ 2147483647) (h2 : (-2147483648) ≤ z452 ∧ z452 ≤ 2147483647) : (-2147483648) ≤ z452 ∧ z452 ≤ 2147483646 := by omega
theorem vc_X12_nextEvent_ev_50 {z370 z452 : Int} (h0 : z452 < z370) (h1 : (-2147483648) ≤ z370 ∧ z370 ≤ 2147483647) (h2 : (-2147483648) ≤ z452 ∧ z452 ≤ 2147483646) : (-2147483647) ≤ z370 ∧ z370 ≤ 2147483647 := by omega
theorem vc_X12_nextEvent_ev_51 {z370 z371 z372 z449 z452 : Int} (h0 : 0 ≤ z449) (h1 : z449 ≤ 2000000000) (h2 : ¬ z372 = (-99999999)) (h3 : z371 ≤ z449) (h4 : z449 = z371) (h5 : z452 < z370) (h6 : (-2147483647) ≤ z370 ∧ z370 ≤ 2147483647) (h7 : 0 ≤ z371 ∧ z371 ≤ 2000000000) (h8 : 0 ≤ z372 ∧ z372 ≤ 799) (h9 : z372 = (-99999999) ∨ (0 ≤ z372 ∧ z372 ≤ 799)) (h10 : 0 ≤ z449 ∧ z449 ≤ 2000000000) (h11 : (-2147483648) ≤ z452 ∧ z452 ≤ 2147483646) : 0 ≤ z449 ∧ z449 ≤ 2000000000 ∧ (z372 = -99999999 ∨ z449 < z371 ∨ (z449 = z371 ∧ z452 < z370)) := by omega
theorem vc_X12_nextEvent_ev_52  : (801 - 0) < ((802 : Nat) : Int) := by omega
theorem vc_X12_nextEvent_ev_53  : (((-99999999) : Int) : Int) = ((-99999999) : Int) ∨ ((0 : Int) ≤ (((-99999999) : Int) : Int) ∧ (((-99999999) : Int) : Int) ≤ (799 : Int)) := by omega
set_option maxRecDepth 4000 in
set_option maxHeartbeats 4000000 in
theorem c_X12_nextEvent_ev {l : Launch} {D : va_G} {c : Nat → ClassId} {H0 : Heap} {sa : Nat × Nat × (Nat → Int32)} {w : mW} {μ : mM} (hw : mWF w) (hT : mT w μ) : sC (gG l D c H0 sa) mX12_nextEvent 1 0 0 [.ref 106] (mk w μ) (qP w μ (fun z => ((-99999999) ≤ z ∧ z ≤ 799) ∧ z = nevF μ  ∧ (z = -99999999 ∨ (0 ≤ z ∧ z ≤ 799)) ∧ True)) := by
  refine sC.of rfl (by decide) (le_t rfl) ?_
  refine mr_lvE (lv' := [(0, .ref 106)]) rfl ?_
  refine mr_ldc (pc := 0) (z := (-99999999)) dX12_nextEvent_0 wG_X12_29 (by decide) ?_
  refine mr_istore_n (pc := 2) (lv' := [(1, iv (-99999999)), (0, .ref 106)]) dX12_nextEvent_2 rfl (by decide) rfl ?_
  refine mr_iconst (pc := 3) (z := 0) dX12_nextEvent_3 ?_
  refine mr_istore_n (pc := 4) (lv' := [(2, iv 0), (1, iv (-99999999)), (0, .ref 106)]) dX12_nextEvent_4 rfl (by decide) rfl ?_
  refine mr_iconst (pc := 5) (z := 0) dX12_nextEvent_5 ?_
  refine mr_istore_n (pc := 6) (lv' := [(3, iv 0), (2, iv 0), (1, iv (-99999999)), (0, .ref 106)]) dX12_nextEvent_6 rfl (by decide) rfl ?_
  refine mr_iconst (pc := 7) (z := 0) dX12_nextEvent_7 ?_
  refine mr_istore (pc := 8) (lv' := [(4, iv 0), (3, iv 0), (2, iv 0), (1, iv (-99999999)), (0, .ref 106)]) dX12_nextEvent_8 (by decide) rfl ?_
  have L373 : ∀ (nL373 : Nat) (z372 z371 z370 z369 : Int), True → ((-99999999) ≤ z372 ∧ z372 ≤ 799) → (0 ≤ z371 ∧ z371 ≤ 2000000000) → ((-2147483648) ≤ z370 ∧ z370 ≤ 2147483647) → (0 ≤ z369 ∧ z369 ≤ 800) → nevL μ (z369).toNat = (z372, z371, z370) → (z372 = (-99999999) ∨ (0 ≤ z372 ∧ z372 ≤ 799)) → (801 - z369) < (nL373 : Int) → sV (gG l D c H0 sa) mX12_nextEvent (sRm 1 0 0) (sZ (gG l D c H0 sa) 0 0 (qP w μ (fun z => ((-99999999) ≤ z ∧ z ≤ 799) ∧ z = nevF μ  ∧ (z = -99999999 ∨ (0 ≤ z ∧ z ≤ 799)) ∧ True))) 10 [(0, .ref 106), (1, iv z372), (2, iv z371), (3, iv z370), (4, iv z369)] [] (mk w μ) 0 0 := by
    intro nL373
    induction nL373 with
    | zero => intro z372 z371 z370 z369 _ h374 h375 h376 h377 R381 h382 h383; exact ((vc_X12_nextEvent_ev_1 h383 h377)).elim
    | succ nL373 ih384 =>
      intro z372 z371 z370 z369 _ h374 h375 h376 h377 R381 h382 h383
      refine mr_iload (pc := 10) (z := z369) dX12_nextEvent_10 rfl ?_
      refine mr_sipush (pc := 12) (z := 800) dX12_nextEvent_12 (by decide) ?_
      refine mr_icmp_ge (pc := 15) (tgt := 132) dX12_nextEvent_15 (by decide) (r32 h377 rfl) (r32 (rR (x := 800)) rfl) (fun h421 => ?_) (fun h421 => ?_)
      · have h422 : 800 ≤ z369 ∧ z369 ≤ 800 := (vc_X12_nextEvent_ev_2 h421 h377)
        refine mr_iload_n (pc := 132) (z := z372) dX12_nextEvent_132 rfl rfl ?_
        exact mr_iretP dX12_nextEvent_133 rfl (le_t rfl) (le_t rfl) ⟨h374, (nev.fin R381 (vc_X12_nextEvent_ev_3 h421 h422)), (vc_X12_nextEvent_ev_4 h374 h382), trivial⟩
      have h423 : 0 ≤ z369 ∧ z369 ≤ 799 := (vc_X12_nextEvent_ev_5 h421 h377)
      refine mr_iload (pc := 18) (z := z369) dX12_nextEvent_18 rfl ?_
      refine mr_sipush (pc := 20) (z := 400) dX12_nextEvent_20 (by decide) ?_
      refine mr_icmp_ge (pc := 23) (tgt := 36) dX12_nextEvent_23 (by decide) (r32 h423 rfl) (r32 (rR (x := 400)) rfl) (fun h424 => ?_) (fun h424 => ?_)
      · have h425 : 400 ≤ z369 ∧ z369 ≤ 799 := (vc_X12_nextEvent_ev_6 h424 h421 h423)
        refine sv_aload_n (pc := 36) dX12_nextEvent_36 rfl rfl ?_
        refine gf_X12_79 (pc := 37) dX12_nextEvent_37 wF_X12_439 (A_106 hw) hT ?_
        refine mr_iload (pc := 40) (z := z369) dX12_nextEvent_40 rfl ?_
        refine mr_sipush (pc := 42) (z := 400) dX12_nextEvent_42 (by decide) ?_
        refine mr_isub (pc := 45) (x := z369) (y := 400) dX12_nextEvent_45 ?_
        refine la_159 (pc := 46) dX12_nextEvent_46 (A_159 hw) hT (rIx (n := 400) (rSub (e := 0) (f := 399) h425 (rR (x := 400)) rfl) rfl) fun z426 q427 h428 => ?_
        refine mr_istore (pc := 47) (lv' := [(5, iv z426), (0, .ref 106), (1, iv z372), (2, iv z371), (3, iv z370), (4, iv z369)]) dX12_nextEvent_47 (by decide) rfl ?_
        refine mr_iload (pc := 49) (z := z369) dX12_nextEvent_49 rfl ?_
        refine mr_sipush (pc := 51) (z := 400) dX12_nextEvent_51 (by decide) ?_
        refine mr_icmp_ge (pc := 54) (tgt := 67) dX12_nextEvent_54 (by decide) (r32 h425 rfl) (r32 (rR (x := 400)) rfl) (fun _ => ?_) (fun h => ((vc_X12_nextEvent_ev_7 h h425)).elim)
        refine sv_aload_n (pc := 67) dX12_nextEvent_67 rfl rfl ?_
        refine gf_X12_80 (pc := 68) dX12_nextEvent_68 wF_X12_442 (A_106 hw) hT ?_
        refine mr_iload (pc := 71) (z := z369) dX12_nextEvent_71 rfl ?_
        refine mr_sipush (pc := 73) (z := 400) dX12_nextEvent_73 (by decide) ?_
        refine mr_isub (pc := 76) (x := z369) (y := 400) dX12_nextEvent_76 ?_
        refine la_160 (pc := 77) dX12_nextEvent_77 (A_160 hw) hT (rIx (n := 400) (rSub (e := 0) (f := 399) h425 (rR (x := 400)) rfl) rfl) fun z429 q430 h431 => ?_
        refine mr_istore (pc := 78) (lv' := [(6, iv z429), (5, iv z426), (0, .ref 106), (1, iv z372), (2, iv z371), (3, iv z370), (4, iv z369)]) dX12_nextEvent_78 (by decide) rfl ?_
        refine mr_iload (pc := 80) (z := z426) dX12_nextEvent_80 rfl ?_
        refine mr_if_lt (pc := 82) (tgt := 126) dX12_nextEvent_82 (by decide) (r32 h428 rfl) (fun h432 => ?_) (fun h432 => ?_)
        · have h433 : (-1) ≤ z426 ∧ z426 ≤ (-1) := (vc_X12_nextEvent_ev_8 h432 h428)
          refine mr_iinc (pc := 126) (lv' := [(4, iv (z369 + 1)), (6, iv z429), (5, iv z426), (0, .ref 106), (1, iv z372), (2, iv z371), (3, iv z370)]) dX12_nextEvent_126 rfl (by decide) rfl ?_
          refine sv_goto (pc := 129) (tgt := 10) dX12_nextEvent_129 (by decide) ?_
          refine mr_lvS (lv' := [(0, .ref 106), (1, iv z372), (2, iv z371), (3, iv z370), (4, iv (z369 + 1))]) (List.forall_mem_cons.mpr ⟨rfl, List.forall_mem_cons.mpr ⟨rfl, List.forall_mem_cons.mpr ⟨rfl, List.forall_mem_cons.mpr ⟨rfl, List.forall_mem_cons.mpr ⟨rfl, fun _ h => absurd h List.not_mem_nil⟩⟩⟩⟩⟩) ?_
          exact ih384 z372 z371 z370 (z369 + 1) trivial h374 h375 h376 (rW (c := 0) (d := 800) (rAdd (e := 401) (f := 800) h425 (rR (x := 1)) rfl) rfl) (nev.not R381 (vc_X12_nextEvent_ev_11 h421 h424 h425) (evF.hi (vc_X12_nextEvent_ev_10 h421 h424 h425) rfl q427) (evM.hi (vc_X12_nextEvent_ev_10 h421 h424 h425) rfl q430) (vc_X12_nextEvent_ev_12 h432 h376 h375 h374 h382 h433 h431)) (vc_X12_nextEvent_ev_13 h374 h382) (vc_X12_nextEvent_ev_9 (nS h383) h421 h424 h425)
        have h434 : 0 ≤ z426 ∧ z426 ≤ 2000001000 := (vc_X12_nextEvent_ev_14 h432 h428)
        refine mr_iload (pc := 85) (z := z426) dX12_nextEvent_85 rfl ?_
        refine mr_ldcw (pc := 87) (z := 2000000000) dX12_nextEvent_87 wG_X12_606 (by decide) ?_
        refine mr_icmp_gt (pc := 90) (tgt := 126) dX12_nextEvent_90 (by decide) (r32 h434 rfl) (r32 (rR (x := 2000000000)) rfl) (fun h435 => ?_) (fun h435 => ?_)
        · have h436 : 2000000001 ≤ z426 ∧ z426 ≤ 2000001000 := (vc_X12_nextEvent_ev_15 h435 h432 h434)
          refine mr_iinc (pc := 126) (lv' := [(4, iv (z369 + 1)), (6, iv z429), (5, iv z426), (0, .ref 106), (1, iv z372), (2, iv z371), (3, iv z370)]) dX12_nextEvent_126 rfl (by decide) rfl ?_
          refine sv_goto (pc := 129) (tgt := 10) dX12_nextEvent_129 (by decide) ?_
          refine mr_lvS (lv' := [(0, .ref 106), (1, iv z372), (2, iv z371), (3, iv z370), (4, iv (z369 + 1))]) (List.forall_mem_cons.mpr ⟨rfl, List.forall_mem_cons.mpr ⟨rfl, List.forall_mem_cons.mpr ⟨rfl, List.forall_mem_cons.mpr ⟨rfl, List.forall_mem_cons.mpr ⟨rfl, fun _ h => absurd h List.not_mem_nil⟩⟩⟩⟩⟩) ?_
          exact ih384 z372 z371 z370 (z369 + 1) trivial h374 h375 h376 (rW (c := 0) (d := 800) (rAdd (e := 401) (f := 800) h425 (rR (x := 1)) rfl) rfl) (nev.not R381 (vc_X12_nextEvent_ev_11 h421 h424 h425) (evF.hi (vc_X12_nextEvent_ev_10 h421 h424 h425) rfl q427) (evM.hi (vc_X12_nextEvent_ev_10 h421 h424 h425) rfl q430) (vc_X12_nextEvent_ev_16 h432 h435 h376 h375 h374 h382 h436 h431)) (vc_X12_nextEvent_ev_13 h374 h382) (vc_X12_nextEvent_ev_9 (nS h383) h421 h424 h425)
        have h437 : 0 ≤ z426 ∧ z426 ≤ 2000000000 := (vc_X12_nextEvent_ev_17 h435 h432 h434)
        refine mr_iload_n (pc := 93) (z := z372) dX12_nextEvent_93 rfl rfl ?_
        refine mr_ldc (pc := 94) (z := (-99999999)) dX12_nextEvent_94 wG_X12_29 (by decide) ?_
        refine mr_icmp_eq (pc := 96) (tgt := 117) dX12_nextEvent_96 (by decide) (r32 h374 rfl) (r32 (rR (x := (-99999999))) rfl) (fun h438 => ?_) (fun h438 => ?_)
        · have h439 : (-99999999) ≤ z372 ∧ z372 ≤ (-99999999) := (vc_X12_nextEvent_ev_18 h438 h374 h382)
          refine mr_iload (pc := 117) (z := z369) dX12_nextEvent_117 rfl ?_
          refine mr_istore_n (pc := 119) (lv' := [(1, iv z369), (6, iv z429), (5, iv z426), (0, .ref 106), (2, iv z371), (3, iv z370), (4, iv z369)]) dX12_nextEvent_119 rfl (by decide) rfl ?_
          refine mr_iload (pc := 120) (z := z426) dX12_nextEvent_120 rfl ?_
          refine mr_istore_n (pc := 122) (lv' := [(2, iv z426), (1, iv z369), (6, iv z429), (5, iv z426), (0, .ref 106), (3, iv z370), (4, iv z369)]) dX12_nextEvent_122 rfl (by decide) rfl ?_
          refine mr_iload (pc := 123) (z := z429) dX12_nextEvent_123 rfl ?_
          refine mr_istore_n (pc := 125) (lv' := [(3, iv z429), (2, iv z426), (1, iv z369), (6, iv z429), (5, iv z426), (0, .ref 106), (4, iv z369)]) dX12_nextEvent_125 rfl (by decide) rfl ?_
          refine mr_iinc (pc := 126) (lv' := [(4, iv (z369 + 1)), (3, iv z429), (2, iv z426), (1, iv z369), (6, iv z429), (5, iv z426), (0, .ref 106)]) dX12_nextEvent_126 rfl (by decide) rfl ?_
          refine sv_goto (pc := 129) (tgt := 10) dX12_nextEvent_129 (by decide) ?_
          refine mr_lvS (lv' := [(0, .ref 106), (1, iv z369), (2, iv z426), (3, iv z429), (4, iv (z369 + 1))]) (List.forall_mem_cons.mpr ⟨rfl, List.forall_mem_cons.mpr ⟨rfl, List.forall_mem_cons.mpr ⟨rfl, List.forall_mem_cons.mpr ⟨rfl, List.forall_mem_cons.mpr ⟨rfl, fun _ h => absurd h List.not_mem_nil⟩⟩⟩⟩⟩) ?_
          exact ih384 z369 z426 z429 (z369 + 1) trivial (rW (c := (-99999999)) (d := 799) h425 rfl) h437 h431 (rW (c := 0) (d := 800) (rAdd (e := 401) (f := 800) h425 (rR (x := 1)) rfl) rfl) (nev.upd R381 (vc_X12_nextEvent_ev_11 h421 h424 h425) (evF.hi (vc_X12_nextEvent_ev_10 h421 h424 h425) rfl q427) (evM.hi (vc_X12_nextEvent_ev_10 h421 h424 h425) rfl q430) (vc_X12_nextEvent_ev_19 h432 h435 h438 h376 h375 h439 h382 h437 h431)) (vc_X12_nextEvent_ev_20 h421 h424 h425) (vc_X12_nextEvent_ev_9 (nS h383) h421 h424 h425)
        have h440 : 0 ≤ z372 ∧ z372 ≤ 799 := (vc_X12_nextEvent_ev_21 h438 h374 h382)
        refine mr_iload (pc := 99) (z := z426) dX12_nextEvent_99 rfl ?_
        refine mr_iload_n (pc := 101) (z := z371) dX12_nextEvent_101 rfl rfl ?_
        refine mr_icmp_lt (pc := 102) (tgt := 117) dX12_nextEvent_102 (by decide) (r32 h437 rfl) (r32 h375 rfl) (fun h441 => ?_) (fun h441 => ?_)
        · have h442 : 0 ≤ z426 ∧ z426 ≤ 1999999999 := (vc_X12_nextEvent_ev_22 h441 h432 h435 h375 h437)
          have h443 : 1 ≤ z371 ∧ z371 ≤ 2000000000 := (vc_X12_nextEvent_ev_23 h441 h432 h435 h375 h442)
          refine mr_iload (pc := 117) (z := z369) dX12_nextEvent_117 rfl ?_
          refine mr_istore_n (pc := 119) (lv' := [(1, iv z369), (6, iv z429), (5, iv z426), (0, .ref 106), (2, iv z371), (3, iv z370), (4, iv z369)]) dX12_nextEvent_119 rfl (by decide) rfl ?_
          refine mr_iload (pc := 120) (z := z426) dX12_nextEvent_120 rfl ?_
          refine mr_istore_n (pc := 122) (lv' := [(2, iv z426), (1, iv z369), (6, iv z429), (5, iv z426), (0, .ref 106), (3, iv z370), (4, iv z369)]) dX12_nextEvent_122 rfl (by decide) rfl ?_
          refine mr_iload (pc := 123) (z := z429) dX12_nextEvent_123 rfl ?_
          refine mr_istore_n (pc := 125) (lv' := [(3, iv z429), (2, iv z426), (1, iv z369), (6, iv z429), (5, iv z426), (0, .ref 106), (4, iv z369)]) dX12_nextEvent_125 rfl (by decide) rfl ?_
          refine mr_iinc (pc := 126) (lv' := [(4, iv (z369 + 1)), (3, iv z429), (2, iv z426), (1, iv z369), (6, iv z429), (5, iv z426), (0, .ref 106)]) dX12_nextEvent_126 rfl (by decide) rfl ?_
          refine sv_goto (pc := 129) (tgt := 10) dX12_nextEvent_129 (by decide) ?_
          refine mr_lvS (lv' := [(0, .ref 106), (1, iv z369), (2, iv z426), (3, iv z429), (4, iv (z369 + 1))]) (List.forall_mem_cons.mpr ⟨rfl, List.forall_mem_cons.mpr ⟨rfl, List.forall_mem_cons.mpr ⟨rfl, List.forall_mem_cons.mpr ⟨rfl, List.forall_mem_cons.mpr ⟨rfl, fun _ h => absurd h List.not_mem_nil⟩⟩⟩⟩⟩) ?_
          exact ih384 z369 z426 z429 (z369 + 1) trivial (rW (c := (-99999999)) (d := 799) h425 rfl) (rW (c := 0) (d := 2000000000) h442 rfl) h431 (rW (c := 0) (d := 800) (rAdd (e := 401) (f := 800) h425 (rR (x := 1)) rfl) rfl) (nev.upd R381 (vc_X12_nextEvent_ev_11 h421 h424 h425) (evF.hi (vc_X12_nextEvent_ev_10 h421 h424 h425) rfl q427) (evM.hi (vc_X12_nextEvent_ev_10 h421 h424 h425) rfl q430) (vc_X12_nextEvent_ev_24 h432 h435 h438 h441 h376 h443 h440 h382 h442 h431)) (vc_X12_nextEvent_ev_20 h421 h424 h425) (vc_X12_nextEvent_ev_9 (nS h383) h421 h424 h425)
        refine mr_iload (pc := 105) (z := z426) dX12_nextEvent_105 rfl ?_
        refine mr_iload_n (pc := 107) (z := z371) dX12_nextEvent_107 rfl rfl ?_
        refine mr_icmp_ne (pc := 108) (tgt := 126) dX12_nextEvent_108 (by decide) (r32 h437 rfl) (r32 h375 rfl) (fun h444 => ?_) (fun h444 => ?_)
        · refine mr_iinc (pc := 126) (lv' := [(4, iv (z369 + 1)), (6, iv z429), (5, iv z426), (0, .ref 106), (1, iv z372), (2, iv z371), (3, iv z370)]) dX12_nextEvent_126 rfl (by decide) rfl ?_
          refine sv_goto (pc := 129) (tgt := 10) dX12_nextEvent_129 (by decide) ?_
          refine mr_lvS (lv' := [(0, .ref 106), (1, iv z372), (2, iv z371), (3, iv z370), (4, iv (z369 + 1))]) (List.forall_mem_cons.mpr ⟨rfl, List.forall_mem_cons.mpr ⟨rfl, List.forall_mem_cons.mpr ⟨rfl, List.forall_mem_cons.mpr ⟨rfl, List.forall_mem_cons.mpr ⟨rfl, fun _ h => absurd h List.not_mem_nil⟩⟩⟩⟩⟩) ?_
          exact ih384 z372 z371 z370 (z369 + 1) trivial (rW (c := (-99999999)) (d := 799) h440 rfl) h375 h376 (rW (c := 0) (d := 800) (rAdd (e := 401) (f := 800) h425 (rR (x := 1)) rfl) rfl) (nev.not R381 (vc_X12_nextEvent_ev_11 h421 h424 h425) (evF.hi (vc_X12_nextEvent_ev_10 h421 h424 h425) rfl q427) (evM.hi (vc_X12_nextEvent_ev_10 h421 h424 h425) rfl q430) (vc_X12_nextEvent_ev_25 h432 h435 h438 h441 h444 h376 h375 h440 h382 h437 h431)) (vc_X12_nextEvent_ev_26 h438 h440 h382) (vc_X12_nextEvent_ev_9 (nS h383) h421 h424 h425)
        refine mr_iload (pc := 111) (z := z429) dX12_nextEvent_111 rfl ?_
        refine mr_iload_n (pc := 113) (z := z370) dX12_nextEvent_113 rfl rfl ?_
        refine mr_icmp_ge (pc := 114) (tgt := 126) dX12_nextEvent_114 (by decide) h431 h376 (fun h445 => ?_) (fun h445 => ?_)
        · refine mr_iinc (pc := 126) (lv' := [(4, iv (z369 + 1)), (6, iv z429), (5, iv z426), (0, .ref 106), (1, iv z372), (2, iv z371), (3, iv z370)]) dX12_nextEvent_126 rfl (by decide) rfl ?_
          refine sv_goto (pc := 129) (tgt := 10) dX12_nextEvent_129 (by decide) ?_
          refine mr_lvS (lv' := [(0, .ref 106), (1, iv z372), (2, iv z371), (3, iv z370), (4, iv (z369 + 1))]) (List.forall_mem_cons.mpr ⟨rfl, List.forall_mem_cons.mpr ⟨rfl, List.forall_mem_cons.mpr ⟨rfl, List.forall_mem_cons.mpr ⟨rfl, List.forall_mem_cons.mpr ⟨rfl, fun _ h => absurd h List.not_mem_nil⟩⟩⟩⟩⟩) ?_
          exact ih384 z372 z371 z370 (z369 + 1) trivial (rW (c := (-99999999)) (d := 799) h440 rfl) h375 h376 (rW (c := 0) (d := 800) (rAdd (e := 401) (f := 800) h425 (rR (x := 1)) rfl) rfl) (nev.not R381 (vc_X12_nextEvent_ev_11 h421 h424 h425) (evF.hi (vc_X12_nextEvent_ev_10 h421 h424 h425) rfl q427) (evM.hi (vc_X12_nextEvent_ev_10 h421 h424 h425) rfl q430) (vc_X12_nextEvent_ev_27 h432 h435 h438 h441 h444 h445 h376 h375 h440 h382 h437 h431)) (vc_X12_nextEvent_ev_26 h438 h440 h382) (vc_X12_nextEvent_ev_9 (nS h383) h421 h424 h425)
        have h446 : (-2147483648) ≤ z429 ∧ z429 ≤ 2147483646 := (vc_X12_nextEvent_ev_28 h445 h376 h431)
        have h447 : (-2147483647) ≤ z370 ∧ z370 ≤ 2147483647 := (vc_X12_nextEvent_ev_29 h445 h376 h446)
        refine mr_iload (pc := 117) (z := z369) dX12_nextEvent_117 rfl ?_
        refine mr_istore_n (pc := 119) (lv' := [(1, iv z369), (6, iv z429), (5, iv z426), (0, .ref 106), (2, iv z371), (3, iv z370), (4, iv z369)]) dX12_nextEvent_119 rfl (by decide) rfl ?_
        refine mr_iload (pc := 120) (z := z426) dX12_nextEvent_120 rfl ?_
        refine mr_istore_n (pc := 122) (lv' := [(2, iv z426), (1, iv z369), (6, iv z429), (5, iv z426), (0, .ref 106), (3, iv z370), (4, iv z369)]) dX12_nextEvent_122 rfl (by decide) rfl ?_
        refine mr_iload (pc := 123) (z := z429) dX12_nextEvent_123 rfl ?_
        refine mr_istore_n (pc := 125) (lv' := [(3, iv z429), (2, iv z426), (1, iv z369), (6, iv z429), (5, iv z426), (0, .ref 106), (4, iv z369)]) dX12_nextEvent_125 rfl (by decide) rfl ?_
        refine mr_iinc (pc := 126) (lv' := [(4, iv (z369 + 1)), (3, iv z429), (2, iv z426), (1, iv z369), (6, iv z429), (5, iv z426), (0, .ref 106)]) dX12_nextEvent_126 rfl (by decide) rfl ?_
        refine sv_goto (pc := 129) (tgt := 10) dX12_nextEvent_129 (by decide) ?_
        refine mr_lvS (lv' := [(0, .ref 106), (1, iv z369), (2, iv z426), (3, iv z429), (4, iv (z369 + 1))]) (List.forall_mem_cons.mpr ⟨rfl, List.forall_mem_cons.mpr ⟨rfl, List.forall_mem_cons.mpr ⟨rfl, List.forall_mem_cons.mpr ⟨rfl, List.forall_mem_cons.mpr ⟨rfl, fun _ h => absurd h List.not_mem_nil⟩⟩⟩⟩⟩) ?_
        exact ih384 z369 z426 z429 (z369 + 1) trivial (rW (c := (-99999999)) (d := 799) h425 rfl) h437 (rW (c := (-2147483648)) (d := 2147483647) h446 rfl) (rW (c := 0) (d := 800) (rAdd (e := 401) (f := 800) h425 (rR (x := 1)) rfl) rfl) (nev.upd R381 (vc_X12_nextEvent_ev_11 h421 h424 h425) (evF.hi (vc_X12_nextEvent_ev_10 h421 h424 h425) rfl q427) (evM.hi (vc_X12_nextEvent_ev_10 h421 h424 h425) rfl q430) (vc_X12_nextEvent_ev_30 h432 h435 h438 h441 h444 h445 h447 h375 h440 h382 h437 h446)) (vc_X12_nextEvent_ev_20 h421 h424 h425) (vc_X12_nextEvent_ev_9 (nS h383) h421 h424 h425)
      have h448 : 0 ≤ z369 ∧ z369 ≤ 399 := (vc_X12_nextEvent_ev_31 h424 h421 h423)
      refine sv_aload_n (pc := 26) dX12_nextEvent_26 rfl rfl ?_
      refine gf_X12_77 (pc := 27) dX12_nextEvent_27 wF_X12_433 (A_106 hw) hT ?_
      refine mr_iload (pc := 30) (z := z369) dX12_nextEvent_30 rfl ?_
      refine la_157 (pc := 32) dX12_nextEvent_32 (A_157 hw) hT (rIx (n := 400) h448 rfl) fun z449 q450 h451 => ?_
      refine sv_goto (pc := 33) (tgt := 47) dX12_nextEvent_33 (by decide) ?_
      refine mr_istore (pc := 47) (lv' := [(5, iv z449), (0, .ref 106), (1, iv z372), (2, iv z371), (3, iv z370), (4, iv z369)]) dX12_nextEvent_47 (by decide) rfl ?_
      refine mr_iload (pc := 49) (z := z369) dX12_nextEvent_49 rfl ?_
      refine mr_sipush (pc := 51) (z := 400) dX12_nextEvent_51 (by decide) ?_
      refine mr_icmp_ge (pc := 54) (tgt := 67) dX12_nextEvent_54 (by decide) (r32 h448 rfl) (r32 (rR (x := 400)) rfl) (fun h => ((vc_X12_nextEvent_ev_32 h h448)).elim) (fun _ => ?_)
      refine sv_aload_n (pc := 57) dX12_nextEvent_57 rfl rfl ?_
      refine gf_X12_78 (pc := 58) dX12_nextEvent_58 wF_X12_436 (A_106 hw) hT ?_
      refine mr_iload (pc := 61) (z := z369) dX12_nextEvent_61 rfl ?_
      refine la_158 (pc := 63) dX12_nextEvent_63 (A_158 hw) hT (rIx (n := 400) h448 rfl) fun z452 q453 h454 => ?_
      refine sv_goto (pc := 64) (tgt := 78) dX12_nextEvent_64 (by decide) ?_
      refine mr_istore (pc := 78) (lv' := [(6, iv z452), (5, iv z449), (0, .ref 106), (1, iv z372), (2, iv z371), (3, iv z370), (4, iv z369)]) dX12_nextEvent_78 (by decide) rfl ?_
      refine mr_iload (pc := 80) (z := z449) dX12_nextEvent_80 rfl ?_
      refine mr_if_lt (pc := 82) (tgt := 126) dX12_nextEvent_82 (by decide) (r32 h451 rfl) (fun h455 => ?_) (fun h455 => ?_)
      · have h456 : (-1) ≤ z449 ∧ z449 ≤ (-1) := (vc_X12_nextEvent_ev_33 h455 h451)
        refine mr_iinc (pc := 126) (lv' := [(4, iv (z369 + 1)), (6, iv z452), (5, iv z449), (0, .ref 106), (1, iv z372), (2, iv z371), (3, iv z370)]) dX12_nextEvent_126 rfl (by decide) rfl ?_
        refine sv_goto (pc := 129) (tgt := 10) dX12_nextEvent_129 (by decide) ?_
        refine mr_lvS (lv' := [(0, .ref 106), (1, iv z372), (2, iv z371), (3, iv z370), (4, iv (z369 + 1))]) (List.forall_mem_cons.mpr ⟨rfl, List.forall_mem_cons.mpr ⟨rfl, List.forall_mem_cons.mpr ⟨rfl, List.forall_mem_cons.mpr ⟨rfl, List.forall_mem_cons.mpr ⟨rfl, fun _ h => absurd h List.not_mem_nil⟩⟩⟩⟩⟩) ?_
        exact ih384 z372 z371 z370 (z369 + 1) trivial h374 h375 h376 (rW (c := 0) (d := 800) (rAdd (e := 1) (f := 400) h448 (rR (x := 1)) rfl) rfl) (nev.not R381 (vc_X12_nextEvent_ev_36 h421 h424 h448) (evF.lo (vc_X12_nextEvent_ev_35 h421 h424 h448) q450) (evM.lo (vc_X12_nextEvent_ev_35 h421 h424 h448) q453) (vc_X12_nextEvent_ev_37 h455 h376 h375 h374 h382 h456 h454)) (vc_X12_nextEvent_ev_13 h374 h382) (vc_X12_nextEvent_ev_34 (nS h383) h421 h424 h448)
      have h457 : 0 ≤ z449 ∧ z449 ≤ 2000001000 := (vc_X12_nextEvent_ev_38 h455 h451)
      refine mr_iload (pc := 85) (z := z449) dX12_nextEvent_85 rfl ?_
      refine mr_ldcw (pc := 87) (z := 2000000000) dX12_nextEvent_87 wG_X12_606 (by decide) ?_
      refine mr_icmp_gt (pc := 90) (tgt := 126) dX12_nextEvent_90 (by decide) (r32 h457 rfl) (r32 (rR (x := 2000000000)) rfl) (fun h458 => ?_) (fun h458 => ?_)
      · have h459 : 2000000001 ≤ z449 ∧ z449 ≤ 2000001000 := (vc_X12_nextEvent_ev_39 h458 h455 h457)
        refine mr_iinc (pc := 126) (lv' := [(4, iv (z369 + 1)), (6, iv z452), (5, iv z449), (0, .ref 106), (1, iv z372), (2, iv z371), (3, iv z370)]) dX12_nextEvent_126 rfl (by decide) rfl ?_
        refine sv_goto (pc := 129) (tgt := 10) dX12_nextEvent_129 (by decide) ?_
        refine mr_lvS (lv' := [(0, .ref 106), (1, iv z372), (2, iv z371), (3, iv z370), (4, iv (z369 + 1))]) (List.forall_mem_cons.mpr ⟨rfl, List.forall_mem_cons.mpr ⟨rfl, List.forall_mem_cons.mpr ⟨rfl, List.forall_mem_cons.mpr ⟨rfl, List.forall_mem_cons.mpr ⟨rfl, fun _ h => absurd h List.not_mem_nil⟩⟩⟩⟩⟩) ?_
        exact ih384 z372 z371 z370 (z369 + 1) trivial h374 h375 h376 (rW (c := 0) (d := 800) (rAdd (e := 1) (f := 400) h448 (rR (x := 1)) rfl) rfl) (nev.not R381 (vc_X12_nextEvent_ev_36 h421 h424 h448) (evF.lo (vc_X12_nextEvent_ev_35 h421 h424 h448) q450) (evM.lo (vc_X12_nextEvent_ev_35 h421 h424 h448) q453) (vc_X12_nextEvent_ev_40 h455 h458 h376 h375 h374 h382 h459 h454)) (vc_X12_nextEvent_ev_13 h374 h382) (vc_X12_nextEvent_ev_34 (nS h383) h421 h424 h448)
      have h460 : 0 ≤ z449 ∧ z449 ≤ 2000000000 := (vc_X12_nextEvent_ev_41 h458 h455 h457)
      refine mr_iload_n (pc := 93) (z := z372) dX12_nextEvent_93 rfl rfl ?_
      refine mr_ldc (pc := 94) (z := (-99999999)) dX12_nextEvent_94 wG_X12_29 (by decide) ?_
      refine mr_icmp_eq (pc := 96) (tgt := 117) dX12_nextEvent_96 (by decide) (r32 h374 rfl) (r32 (rR (x := (-99999999))) rfl) (fun h461 => ?_) (fun h461 => ?_)
      · have h462 : (-99999999) ≤ z372 ∧ z372 ≤ (-99999999) := (vc_X12_nextEvent_ev_18 h461 h374 h382)
        refine mr_iload (pc := 117) (z := z369) dX12_nextEvent_117 rfl ?_
        refine mr_istore_n (pc := 119) (lv' := [(1, iv z369), (6, iv z452), (5, iv z449), (0, .ref 106), (2, iv z371), (3, iv z370), (4, iv z369)]) dX12_nextEvent_119 rfl (by decide) rfl ?_
        refine mr_iload (pc := 120) (z := z449) dX12_nextEvent_120 rfl ?_
        refine mr_istore_n (pc := 122) (lv' := [(2, iv z449), (1, iv z369), (6, iv z452), (5, iv z449), (0, .ref 106), (3, iv z370), (4, iv z369)]) dX12_nextEvent_122 rfl (by decide) rfl ?_
        refine mr_iload (pc := 123) (z := z452) dX12_nextEvent_123 rfl ?_
        refine mr_istore_n (pc := 125) (lv' := [(3, iv z452), (2, iv z449), (1, iv z369), (6, iv z452), (5, iv z449), (0, .ref 106), (4, iv z369)]) dX12_nextEvent_125 rfl (by decide) rfl ?_
        refine mr_iinc (pc := 126) (lv' := [(4, iv (z369 + 1)), (3, iv z452), (2, iv z449), (1, iv z369), (6, iv z452), (5, iv z449), (0, .ref 106)]) dX12_nextEvent_126 rfl (by decide) rfl ?_
        refine sv_goto (pc := 129) (tgt := 10) dX12_nextEvent_129 (by decide) ?_
        refine mr_lvS (lv' := [(0, .ref 106), (1, iv z369), (2, iv z449), (3, iv z452), (4, iv (z369 + 1))]) (List.forall_mem_cons.mpr ⟨rfl, List.forall_mem_cons.mpr ⟨rfl, List.forall_mem_cons.mpr ⟨rfl, List.forall_mem_cons.mpr ⟨rfl, List.forall_mem_cons.mpr ⟨rfl, fun _ h => absurd h List.not_mem_nil⟩⟩⟩⟩⟩) ?_
        exact ih384 z369 z449 z452 (z369 + 1) trivial (rW (c := (-99999999)) (d := 799) h448 rfl) h460 h454 (rW (c := 0) (d := 800) (rAdd (e := 1) (f := 400) h448 (rR (x := 1)) rfl) rfl) (nev.upd R381 (vc_X12_nextEvent_ev_36 h421 h424 h448) (evF.lo (vc_X12_nextEvent_ev_35 h421 h424 h448) q450) (evM.lo (vc_X12_nextEvent_ev_35 h421 h424 h448) q453) (vc_X12_nextEvent_ev_42 h455 h458 h461 h376 h375 h462 h382 h460 h454)) (vc_X12_nextEvent_ev_43 h421 h424 h448) (vc_X12_nextEvent_ev_34 (nS h383) h421 h424 h448)
      have h463 : 0 ≤ z372 ∧ z372 ≤ 799 := (vc_X12_nextEvent_ev_21 h461 h374 h382)
      refine mr_iload (pc := 99) (z := z449) dX12_nextEvent_99 rfl ?_
      refine mr_iload_n (pc := 101) (z := z371) dX12_nextEvent_101 rfl rfl ?_
      refine mr_icmp_lt (pc := 102) (tgt := 117) dX12_nextEvent_102 (by decide) (r32 h460 rfl) (r32 h375 rfl) (fun h464 => ?_) (fun h464 => ?_)
      · have h465 : 0 ≤ z449 ∧ z449 ≤ 1999999999 := (vc_X12_nextEvent_ev_44 h464 h455 h458 h375 h460)
        have h466 : 1 ≤ z371 ∧ z371 ≤ 2000000000 := (vc_X12_nextEvent_ev_45 h464 h455 h458 h375 h465)
        refine mr_iload (pc := 117) (z := z369) dX12_nextEvent_117 rfl ?_
        refine mr_istore_n (pc := 119) (lv' := [(1, iv z369), (6, iv z452), (5, iv z449), (0, .ref 106), (2, iv z371), (3, iv z370), (4, iv z369)]) dX12_nextEvent_119 rfl (by decide) rfl ?_
        refine mr_iload (pc := 120) (z := z449) dX12_nextEvent_120 rfl ?_
        refine mr_istore_n (pc := 122) (lv' := [(2, iv z449), (1, iv z369), (6, iv z452), (5, iv z449), (0, .ref 106), (3, iv z370), (4, iv z369)]) dX12_nextEvent_122 rfl (by decide) rfl ?_
        refine mr_iload (pc := 123) (z := z452) dX12_nextEvent_123 rfl ?_
        refine mr_istore_n (pc := 125) (lv' := [(3, iv z452), (2, iv z449), (1, iv z369), (6, iv z452), (5, iv z449), (0, .ref 106), (4, iv z369)]) dX12_nextEvent_125 rfl (by decide) rfl ?_
        refine mr_iinc (pc := 126) (lv' := [(4, iv (z369 + 1)), (3, iv z452), (2, iv z449), (1, iv z369), (6, iv z452), (5, iv z449), (0, .ref 106)]) dX12_nextEvent_126 rfl (by decide) rfl ?_
        refine sv_goto (pc := 129) (tgt := 10) dX12_nextEvent_129 (by decide) ?_
        refine mr_lvS (lv' := [(0, .ref 106), (1, iv z369), (2, iv z449), (3, iv z452), (4, iv (z369 + 1))]) (List.forall_mem_cons.mpr ⟨rfl, List.forall_mem_cons.mpr ⟨rfl, List.forall_mem_cons.mpr ⟨rfl, List.forall_mem_cons.mpr ⟨rfl, List.forall_mem_cons.mpr ⟨rfl, fun _ h => absurd h List.not_mem_nil⟩⟩⟩⟩⟩) ?_
        exact ih384 z369 z449 z452 (z369 + 1) trivial (rW (c := (-99999999)) (d := 799) h448 rfl) (rW (c := 0) (d := 2000000000) h465 rfl) h454 (rW (c := 0) (d := 800) (rAdd (e := 1) (f := 400) h448 (rR (x := 1)) rfl) rfl) (nev.upd R381 (vc_X12_nextEvent_ev_36 h421 h424 h448) (evF.lo (vc_X12_nextEvent_ev_35 h421 h424 h448) q450) (evM.lo (vc_X12_nextEvent_ev_35 h421 h424 h448) q453) (vc_X12_nextEvent_ev_46 h455 h458 h461 h464 h376 h466 h463 h382 h465 h454)) (vc_X12_nextEvent_ev_43 h421 h424 h448) (vc_X12_nextEvent_ev_34 (nS h383) h421 h424 h448)
      refine mr_iload (pc := 105) (z := z449) dX12_nextEvent_105 rfl ?_
      refine mr_iload_n (pc := 107) (z := z371) dX12_nextEvent_107 rfl rfl ?_
      refine mr_icmp_ne (pc := 108) (tgt := 126) dX12_nextEvent_108 (by decide) (r32 h460 rfl) (r32 h375 rfl) (fun h467 => ?_) (fun h467 => ?_)
      · refine mr_iinc (pc := 126) (lv' := [(4, iv (z369 + 1)), (6, iv z452), (5, iv z449), (0, .ref 106), (1, iv z372), (2, iv z371), (3, iv z370)]) dX12_nextEvent_126 rfl (by decide) rfl ?_
        refine sv_goto (pc := 129) (tgt := 10) dX12_nextEvent_129 (by decide) ?_
        refine mr_lvS (lv' := [(0, .ref 106), (1, iv z372), (2, iv z371), (3, iv z370), (4, iv (z369 + 1))]) (List.forall_mem_cons.mpr ⟨rfl, List.forall_mem_cons.mpr ⟨rfl, List.forall_mem_cons.mpr ⟨rfl, List.forall_mem_cons.mpr ⟨rfl, List.forall_mem_cons.mpr ⟨rfl, fun _ h => absurd h List.not_mem_nil⟩⟩⟩⟩⟩) ?_
        exact ih384 z372 z371 z370 (z369 + 1) trivial (rW (c := (-99999999)) (d := 799) h463 rfl) h375 h376 (rW (c := 0) (d := 800) (rAdd (e := 1) (f := 400) h448 (rR (x := 1)) rfl) rfl) (nev.not R381 (vc_X12_nextEvent_ev_36 h421 h424 h448) (evF.lo (vc_X12_nextEvent_ev_35 h421 h424 h448) q450) (evM.lo (vc_X12_nextEvent_ev_35 h421 h424 h448) q453) (vc_X12_nextEvent_ev_47 h455 h458 h461 h464 h467 h376 h375 h463 h382 h460 h454)) (vc_X12_nextEvent_ev_26 h461 h463 h382) (vc_X12_nextEvent_ev_34 (nS h383) h421 h424 h448)
      refine mr_iload (pc := 111) (z := z452) dX12_nextEvent_111 rfl ?_
      refine mr_iload_n (pc := 113) (z := z370) dX12_nextEvent_113 rfl rfl ?_
      refine mr_icmp_ge (pc := 114) (tgt := 126) dX12_nextEvent_114 (by decide) h454 h376 (fun h468 => ?_) (fun h468 => ?_)
      · refine mr_iinc (pc := 126) (lv' := [(4, iv (z369 + 1)), (6, iv z452), (5, iv z449), (0, .ref 106), (1, iv z372), (2, iv z371), (3, iv z370)]) dX12_nextEvent_126 rfl (by decide) rfl ?_
        refine sv_goto (pc := 129) (tgt := 10) dX12_nextEvent_129 (by decide) ?_
        refine mr_lvS (lv' := [(0, .ref 106), (1, iv z372), (2, iv z371), (3, iv z370), (4, iv (z369 + 1))]) (List.forall_mem_cons.mpr ⟨rfl, List.forall_mem_cons.mpr ⟨rfl, List.forall_mem_cons.mpr ⟨rfl, List.forall_mem_cons.mpr ⟨rfl, List.forall_mem_cons.mpr ⟨rfl, fun _ h => absurd h List.not_mem_nil⟩⟩⟩⟩⟩) ?_
        exact ih384 z372 z371 z370 (z369 + 1) trivial (rW (c := (-99999999)) (d := 799) h463 rfl) h375 h376 (rW (c := 0) (d := 800) (rAdd (e := 1) (f := 400) h448 (rR (x := 1)) rfl) rfl) (nev.not R381 (vc_X12_nextEvent_ev_36 h421 h424 h448) (evF.lo (vc_X12_nextEvent_ev_35 h421 h424 h448) q450) (evM.lo (vc_X12_nextEvent_ev_35 h421 h424 h448) q453) (vc_X12_nextEvent_ev_48 h455 h458 h461 h464 h467 h468 h376 h375 h463 h382 h460 h454)) (vc_X12_nextEvent_ev_26 h461 h463 h382) (vc_X12_nextEvent_ev_34 (nS h383) h421 h424 h448)
      have h469 : (-2147483648) ≤ z452 ∧ z452 ≤ 2147483646 := (vc_X12_nextEvent_ev_49 h468 h376 h454)
      have h470 : (-2147483647) ≤ z370 ∧ z370 ≤ 2147483647 := (vc_X12_nextEvent_ev_50 h468 h376 h469)
      refine mr_iload (pc := 117) (z := z369) dX12_nextEvent_117 rfl ?_
      refine mr_istore_n (pc := 119) (lv' := [(1, iv z369), (6, iv z452), (5, iv z449), (0, .ref 106), (2, iv z371), (3, iv z370), (4, iv z369)]) dX12_nextEvent_119 rfl (by decide) rfl ?_
      refine mr_iload (pc := 120) (z := z449) dX12_nextEvent_120 rfl ?_
      refine mr_istore_n (pc := 122) (lv' := [(2, iv z449), (1, iv z369), (6, iv z452), (5, iv z449), (0, .ref 106), (3, iv z370), (4, iv z369)]) dX12_nextEvent_122 rfl (by decide) rfl ?_
      refine mr_iload (pc := 123) (z := z452) dX12_nextEvent_123 rfl ?_
      refine mr_istore_n (pc := 125) (lv' := [(3, iv z452), (2, iv z449), (1, iv z369), (6, iv z452), (5, iv z449), (0, .ref 106), (4, iv z369)]) dX12_nextEvent_125 rfl (by decide) rfl ?_
      refine mr_iinc (pc := 126) (lv' := [(4, iv (z369 + 1)), (3, iv z452), (2, iv z449), (1, iv z369), (6, iv z452), (5, iv z449), (0, .ref 106)]) dX12_nextEvent_126 rfl (by decide) rfl ?_
      refine sv_goto (pc := 129) (tgt := 10) dX12_nextEvent_129 (by decide) ?_
      refine mr_lvS (lv' := [(0, .ref 106), (1, iv z369), (2, iv z449), (3, iv z452), (4, iv (z369 + 1))]) (List.forall_mem_cons.mpr ⟨rfl, List.forall_mem_cons.mpr ⟨rfl, List.forall_mem_cons.mpr ⟨rfl, List.forall_mem_cons.mpr ⟨rfl, List.forall_mem_cons.mpr ⟨rfl, fun _ h => absurd h List.not_mem_nil⟩⟩⟩⟩⟩) ?_
      exact ih384 z369 z449 z452 (z369 + 1) trivial (rW (c := (-99999999)) (d := 799) h448 rfl) h460 (rW (c := (-2147483648)) (d := 2147483647) h469 rfl) (rW (c := 0) (d := 800) (rAdd (e := 1) (f := 400) h448 (rR (x := 1)) rfl) rfl) (nev.upd R381 (vc_X12_nextEvent_ev_36 h421 h424 h448) (evF.lo (vc_X12_nextEvent_ev_35 h421 h424 h448) q450) (evM.lo (vc_X12_nextEvent_ev_35 h421 h424 h448) q453) (vc_X12_nextEvent_ev_51 h455 h458 h461 h464 h467 h468 h470 h375 h463 h382 h460 h469)) (vc_X12_nextEvent_ev_43 h421 h424 h448) (vc_X12_nextEvent_ev_34 (nS h383) h421 h424 h448)
  refine mr_lvS (lv' := [(0, .ref 106), (1, iv (-99999999)), (2, iv 0), (3, iv 0), (4, iv 0)]) (List.forall_mem_cons.mpr ⟨rfl, List.forall_mem_cons.mpr ⟨rfl, List.forall_mem_cons.mpr ⟨rfl, List.forall_mem_cons.mpr ⟨rfl, List.forall_mem_cons.mpr ⟨rfl, fun _ h => absurd h List.not_mem_nil⟩⟩⟩⟩⟩) ?_
  exact L373 802 (-99999999) 0 0 0 trivial (rW (c := (-99999999)) (d := 799) (rR (x := (-99999999))) rfl) (rW (c := 0) (d := 2000000000) (rR (x := 0)) rfl) (rW (c := (-2147483648)) (d := 2147483647) (rR (x := 0)) rfl) (rW (c := 0) (d := 800) (rR (x := 0)) rfl) nev.zero vc_X12_nextEvent_ev_53 vc_X12_nextEvent_ev_52
